def a_ordered (X : MS) (x : Int32) : Int32 := if 0 ≤ x ∧ x ≤ X.1 4 - 1 then X.2 6 x.toNatClampNeg else -1
theorem c_ordered {G : Nat → Nat} {O : Nat → Prop} {ad : Nat → Nat → Nat} {S X : MS} {L : Nat → List Nat} {wn : Nat → Option Nat} {sl : Nat → Nat} {fl : Nat} {h : AH} {d : Nat} {x : Int32} (hK : KR G O ad S X L wn sl fl h) (hx : (0 ≤ x ∧ x ≤ X.1 4 - 1) → vp_in x 5) : Ct Y_X11_ordered (d + 1) G 0 0 [.ref (ad 0 0), .int x] h (fun r h2 => r = some (.int (a_ordered X x)) ∧ h2 = h) := by
  refine Ct.ofn 0 rfl (Nat.le_of_ble_eq_true rfl) (by simp [Value.category]) ?_
  generalize hpost : (fun (r : Option Value) (h2 : AH) => r = some (.int (a_ordered X x)) ∧ h2 = h) = post
  show J Y_X11_ordered (d + 1) G 0 0 0 [some (.ref (ad 0 0)), some (.int x)] [] h post
  refine J.iload_n 1 dX11_ordered_0 rfl rfl ?_
  refine J.iconst 0 2 dX11_ordered_1 rfl (by decide) ?_
  refine J.aload_n 3 dX11_ordered_2 rfl rfl ?_
  refine gf_X11_59 rfl 6 dX11_ordered_3 rfl (hK.hut) (v := .ref (ad 14 0)) rfl ?_
  refine gf_X11_300 rfl 9 dX11_ordered_6 rfl (hK.sea) (v := .int (X.1 4)) rfl ?_
  refine J.iconst 1 10 dX11_ordered_9 rfl (by decide) ?_
  refine J.isub 11 dX11_ordered_10 rfl ?_
  refine cs_X11_75 rfl 14 (c_isWithin (v := x) (a := 0) (b := (X.1 4) - 1) _ _) dX11_ordered_11 rfl rfl rfl (Nat.le_of_ble_eq_true rfl) (Nat.zero_le _) (Nat.zero_le _) (fun r h2 hp => ?_)
  obtain ⟨rfl, rfl⟩ := hp
  refine J.if_eq 29 17 dX11_ordered_14 (by decide) rfl (fun c1 => ?_) (fun c1 => ?_)
  · skip
    refine J.iconst (-1) 30 dX11_ordered_29 rfl (by decide) ?_
    exact J.iret dX11_ordered_30 rfl (by rw [← hpost]; exact ⟨by simp [a_ordered, c1, ib_0.mp c1], rfl⟩)
  · skip
    refine J.aload_n 18 dX11_ordered_17 rfl rfl ?_
    refine gf_X11_59 rfl 21 dX11_ordered_18 rfl (hK.hut) (v := .ref (ad 14 0)) rfl ?_
    refine gf_X11_303 rfl 24 dX11_ordered_21 rfl (hK.sea) (v := .ref (ad 15 9)) rfl ?_
    refine J.iload_n 25 dX11_ordered_24 rfl rfl ?_
    refine J.iald2 x.toNatClampNeg rfl (x := X.2 6 x.toNatClampNeg) rfl 26 dX11_ordered_25 rfl hK.arr9 (hx (ib_n.mp (by assumption))) ?_
    refine J.goto 30 dX11_ordered_26 (by decide) ?_
    exact J.iret dX11_ordered_30 rfl (by rw [← hpost]; exact ⟨by simp [a_ordered, c1, ib_n.mp c1], rfl⟩)
def cnt (p : Nat → Prop) [DecidablePred p] : Nat → Int32
  | 0 => 0
  | k + 1 => cnt p k + (if p k then 1 else 0)
theorem c_shelvedLoads {G : Nat → Nat} {O : Nat → Prop} {ad : Nat → Nat → Nat} {S X : MS} {L : Nat → List Nat} {wn : Nat → Option Nat} {sl : Nat → Nat} {fl : Nat} {h : AH} {d : Nat} (hK : KR G O ad S X L wn sl fl h) (h3r : L 3 = List.range (L 3).length) (hb3 : (L 3).length ≤ 80) : Ct Y_X11_shelvedLoads (d + 3) G 0 0 [.ref (ad 0 0)] h (fun r h2 => r = some (.int (cnt (fun z => S.2 23 z = 3) (L 3).length)) ∧ h2 = h) := by
  refine Ct.ofn 2 rfl (Nat.le_of_ble_eq_true rfl) (by simp [Value.category]) ?_
  generalize hpost : (fun (r : Option Value) (h2 : AH) => r = some (.int (cnt (fun z => S.2 23 z = 3) (L 3).length)) ∧ h2 = h) = post
  show J Y_X11_shelvedLoads (d + 3) G 0 0 0 [some (.ref (ad 0 0)), none, none] [] h post
  refine J.iconst 0 1 dX11_shelvedLoads_0 rfl (by decide) ?_
  refine J.ist_1 2 dX11_shelvedLoads_1 rfl (by decide) ?_
  refine J.iconst 0 3 dX11_shelvedLoads_2 rfl (by decide) ?_
  refine J.ist_2 4 dX11_shelvedLoads_3 rfl (by decide) ?_
  have loop4 : ∀ (j k : Nat) (x1 x2 : Int32), k ≤ (L 3).length → (L 3).length + 1 ≤ k + j → x2 = nI k → (x1 = cnt (fun z => S.2 23 z = 3) k) → J Y_X11_shelvedLoads (d + 3) G 0 0 4 [some (.ref (ad 0 0)), some (.int x1), some (.int x2)] [] h post := by
    intro j
    induction j with
    | zero => intro k _ _ g1 g2; exact absurd g2 (by omega)
    | succ j ih =>
      intro k x1 x2 g1 g2 e2 e1 
      have q2 : x2.toNatClampNeg = k := by rw [e2]; exact nI_clamp (by omega)
      refine J.iload_n 5 dX11_shelvedLoads_4 rfl rfl ?_
      refine J.aload_n 6 dX11_shelvedLoads_5 rfl rfl ?_
      refine gf_X11_22 rfl 9 dX11_shelvedLoads_6 rfl (hK.hut) (v := .ref (ad 1 3)) rfl ?_
      refine cv_X11_79 rfl 12 (hK.size (by omega)) dX11_shelvedLoads_9 rfl (hK.listOb (by omega)).choose_spec rfl rfl (Nat.le_of_ble_eq_true rfl) (Nat.zero_le _) (Nat.zero_le _) (fun r h2 hp => ?_)
      obtain ⟨rfl, rfl⟩ := hp
      refine J.icmp_ge 47 15 dX11_shelvedLoads_12 (by decide) rfl (fun c1 => ?_) (fun c1 => ?_)
      · skip
        have hk : k = (L 3).length := Nat.le_antisymm g1 ((nI_leI (by omega) (by omega)).mp (by have z := c1; rw [e2] at z; exact z))
        refine J.iload_n 48 dX11_shelvedLoads_47 rfl rfl ?_
        exact J.iret dX11_shelvedLoads_48 rfl (by rw [← hpost]; exact ⟨by rw [e1, hk], rfl⟩)
      · skip
        have hk : k < (L 3).length := Nat.lt_of_not_le (fun y => c1 (by rw [e2]; exact nI_le y (by omega)))
        have hin : vp_in x2 80 := by rw [e2]; exact vp_in_nI (by omega) (by decide)
        refine J.iload_n 16 dX11_shelvedLoads_15 rfl rfl ?_
        refine J.aload_n 17 dX11_shelvedLoads_16 rfl rfl ?_
        refine gf_X11_22 rfl 20 dX11_shelvedLoads_17 rfl (hK.hut) (v := .ref (ad 1 3)) rfl ?_
        refine J.iload_n 21 dX11_shelvedLoads_20 rfl rfl ?_
        have kg := hK.get (d := d) (r := 3) (i := k) (by omega) (rng_get h3r hk)
        rw [← e2] at kg
        refine cv_X11_132 rfl 24 kg dX11_shelvedLoads_21 rfl (hK.listOb (by omega)).choose_spec rfl rfl (Nat.le_of_ble_eq_true rfl) (Nat.zero_le _) (Nat.zero_le _) (fun r h2 hp => ?_)
        obtain ⟨rfl, rfl⟩ := hp
        refine cc_X11_95 rfl 27 dX11_shelvedLoads_24 rfl (hK.load hk) ?_
        refine gf_X11_163 rfl 30 dX11_shelvedLoads_27 rfl (hK.load hk) (v := .int (S.2 23 k)) rfl ?_
        refine J.iconst 3 31 dX11_shelvedLoads_30 rfl (by decide) ?_
        refine J.icmp_ne 38 34 dX11_shelvedLoads_31 (by decide) rfl (fun c2 => ?_) (fun c2 => ?_)
        · skip
          refine J.iconst 0 39 dX11_shelvedLoads_38 rfl (by decide) ?_
          refine J.iadd 40 dX11_shelvedLoads_39 rfl ?_
          refine J.ist_1 41 dX11_shelvedLoads_40 rfl (by decide) ?_
          refine J.iinc_2 1 44 dX11_shelvedLoads_41 rfl (by decide) (by decide) ?_
          refine J.goto 4 dX11_shelvedLoads_44 (by decide) ?_
          exact ih (k + 1) _ _ (by omega) (by omega) (by rw [e2]; exact nI_1 k) (by rw [e1]; simp [cnt, c1, Int32.not_le.mp c1, c2]) 
        · skip
          refine J.iconst 1 35 dX11_shelvedLoads_34 rfl (by decide) ?_
          refine J.goto 39 dX11_shelvedLoads_35 (by decide) ?_
          refine J.iadd 40 dX11_shelvedLoads_39 rfl ?_
          refine J.ist_1 41 dX11_shelvedLoads_40 rfl (by decide) ?_
          refine J.iinc_2 1 44 dX11_shelvedLoads_41 rfl (by decide) (by decide) ?_
          refine J.goto 4 dX11_shelvedLoads_44 (by decide) ?_
          exact ih (k + 1) _ _ (by omega) (by omega) (by rw [e2]; exact nI_1 k) (by rw [e1]; simp [cnt, c1, Int32.not_le.mp c1, c2]) 
  exact loop4 ((L 3).length + 1) 0 _ _ (Nat.zero_le _) (by omega) rfl rfl 
theorem c_lateLoads {G : Nat → Nat} {O : Nat → Prop} {ad : Nat → Nat → Nat} {S X : MS} {L : Nat → List Nat} {wn : Nat → Option Nat} {sl : Nat → Nat} {fl : Nat} {h : AH} {d : Nat} (hK : KR G O ad S X L wn sl fl h) (h3r : L 3 = List.range (L 3).length) (hb3 : (L 3).length ≤ 80) : Ct Y_X11_lateLoads (d + 3) G 0 0 [.ref (ad 0 0)] h (fun r h2 => r = some (.int (cnt (fun z => S.2 23 z = 3 ∧ S.2 22 z < S.2 26 z) (L 3).length)) ∧ h2 = h) := by
  refine Ct.ofn 2 rfl (Nat.le_of_ble_eq_true rfl) (by simp [Value.category]) ?_
  generalize hpost : (fun (r : Option Value) (h2 : AH) => r = some (.int (cnt (fun z => S.2 23 z = 3 ∧ S.2 22 z < S.2 26 z) (L 3).length)) ∧ h2 = h) = post
  show J Y_X11_lateLoads (d + 3) G 0 0 0 [some (.ref (ad 0 0)), none, none] [] h post
  refine J.iconst 0 1 dX11_lateLoads_0 rfl (by decide) ?_
  refine J.ist_1 2 dX11_lateLoads_1 rfl (by decide) ?_
  refine J.iconst 0 3 dX11_lateLoads_2 rfl (by decide) ?_
  refine J.ist_2 4 dX11_lateLoads_3 rfl (by decide) ?_
  have loop4 : ∀ (j k : Nat) (x1 x2 : Int32), k ≤ (L 3).length → (L 3).length + 1 ≤ k + j → x2 = nI k → (x1 = cnt (fun z => S.2 23 z = 3 ∧ S.2 22 z < S.2 26 z) k) → J Y_X11_lateLoads (d + 3) G 0 0 4 [some (.ref (ad 0 0)), some (.int x1), some (.int x2)] [] h post := by
    intro j
    induction j with
    | zero => intro k _ _ g1 g2; exact absurd g2 (by omega)
    | succ j ih =>
      intro k x1 x2 g1 g2 e2 e1 
      have q2 : x2.toNatClampNeg = k := by rw [e2]; exact nI_clamp (by omega)
      refine J.iload_n 5 dX11_lateLoads_4 rfl rfl ?_
      refine J.aload_n 6 dX11_lateLoads_5 rfl rfl ?_
      refine gf_X11_22 rfl 9 dX11_lateLoads_6 rfl (hK.hut) (v := .ref (ad 1 3)) rfl ?_
      refine cv_X11_79 rfl 12 (hK.size (by omega)) dX11_lateLoads_9 rfl (hK.listOb (by omega)).choose_spec rfl rfl (Nat.le_of_ble_eq_true rfl) (Nat.zero_le _) (Nat.zero_le _) (fun r h2 hp => ?_)
      obtain ⟨rfl, rfl⟩ := hp
      refine J.icmp_ge 46 15 dX11_lateLoads_12 (by decide) rfl (fun c1 => ?_) (fun c1 => ?_)
      · skip
        have hk : k = (L 3).length := Nat.le_antisymm g1 ((nI_leI (by omega) (by omega)).mp (by have z := c1; rw [e2] at z; exact z))
        refine J.iload_n 47 dX11_lateLoads_46 rfl rfl ?_
        exact J.iret dX11_lateLoads_47 rfl (by rw [← hpost]; exact ⟨by rw [e1, hk], rfl⟩)
      · skip
        have hk : k < (L 3).length := Nat.lt_of_not_le (fun y => c1 (by rw [e2]; exact nI_le y (by omega)))
        have hin : vp_in x2 80 := by rw [e2]; exact vp_in_nI (by omega) (by decide)
        refine J.iload_n 16 dX11_lateLoads_15 rfl rfl ?_
        refine J.aload_n 17 dX11_lateLoads_16 rfl rfl ?_
        refine gf_X11_22 rfl 20 dX11_lateLoads_17 rfl (hK.hut) (v := .ref (ad 1 3)) rfl ?_
        refine J.iload_n 21 dX11_lateLoads_20 rfl rfl ?_
        have kg := hK.get (d := d) (r := 3) (i := k) (by omega) (rng_get h3r hk)
        rw [← e2] at kg
        refine cv_X11_132 rfl 24 kg dX11_lateLoads_21 rfl (hK.listOb (by omega)).choose_spec rfl rfl (Nat.le_of_ble_eq_true rfl) (Nat.zero_le _) (Nat.zero_le _) (fun r h2 hp => ?_)
        obtain ⟨rfl, rfl⟩ := hp
        refine cc_X11_95 rfl 27 dX11_lateLoads_24 rfl (hK.load hk) ?_
        refine cv_X11_223 rfl 30 (c_isLate (i := k) hK hk) dX11_lateLoads_27 rfl (hK.load hk) rfl rfl (Nat.le_of_ble_eq_true rfl) (Nat.zero_le _) (Nat.zero_le _) (fun r h2 hp => ?_)
        obtain ⟨rfl, rfl⟩ := hp
        refine J.if_eq 37 33 dX11_lateLoads_30 (by decide) rfl (fun c2 => ?_) (fun c2 => ?_)
        · skip
          refine J.iconst 0 38 dX11_lateLoads_37 rfl (by decide) ?_
          refine J.iadd 39 dX11_lateLoads_38 rfl ?_
          refine J.ist_1 40 dX11_lateLoads_39 rfl (by decide) ?_
          refine J.iinc_2 1 43 dX11_lateLoads_40 rfl (by decide) (by decide) ?_
          refine J.goto 4 dX11_lateLoads_43 (by decide) ?_
          exact ih (k + 1) _ _ (by omega) (by omega) (by rw [e2]; exact nI_1 k) (by rw [e1]; simp [cnt, c1, Int32.not_le.mp c1, c2, ib_0.mp c2]) 
        · skip
          refine J.iconst 1 34 dX11_lateLoads_33 rfl (by decide) ?_
          refine J.goto 38 dX11_lateLoads_34 (by decide) ?_
          refine J.iadd 39 dX11_lateLoads_38 rfl ?_
          refine J.ist_1 40 dX11_lateLoads_39 rfl (by decide) ?_
          refine J.iinc_2 1 43 dX11_lateLoads_40 rfl (by decide) (by decide) ?_
          refine J.goto 4 dX11_lateLoads_43 (by decide) ?_
          exact ih (k + 1) _ _ (by omega) (by omega) (by rw [e2]; exact nI_1 k) (by rw [e1]; simp [cnt, c1, Int32.not_le.mp c1, c2, ib_n.mp c2]) 
  exact loop4 ((L 3).length + 1) 0 _ _ (Nat.zero_le _) (by omega) rfl rfl 
def a_count (S : MS) (L : Nat → List Nat) (t : Int32) : Int32 := if t = 0 then nI (L 0).length else if t = 1 then nI (L 1).length else if t = 2 then nI (L 2).length else if t = 3 then nI (L 3).length else if t = 4 then nI (L 6).length else if t = 5 then nI (L 4).length else if t = 6 then S.1 0 else if t = 7 then cnt (fun z => S.2 23 z = 3) (L 3).length else if t = 8 then cnt (fun z => S.2 23 z = 3 ∧ S.2 22 z < S.2 26 z) (L 3).length else if t = 9 then S.1 30 else -1
theorem c_count {G : Nat → Nat} {O : Nat → Prop} {ad : Nat → Nat → Nat} {S X : MS} {L : Nat → List Nat} {wn : Nat → Option Nat} {sl : Nat → Nat} {fl : Nat} {h : AH} {d : Nat} {t : Int32} (hK : KR G O ad S X L wn sl fl h) (h3r : L 3 = List.range (L 3).length) (hb3 : (L 3).length ≤ 80) : Ct Y_X11_count (d + 4) G 0 0 [.ref (ad 0 0), .int t] h (fun r h2 => r = some (.int (a_count S L t)) ∧ h2 = h) := by
  refine Ct.ofn 0 rfl (Nat.le_of_ble_eq_true rfl) (by simp [Value.category]) ?_
  generalize hpost : (fun (r : Option Value) (h2 : AH) => r = some (.int (a_count S L t)) ∧ h2 = h) = post
  show J Y_X11_count (d + 4) G 0 0 0 [some (.ref (ad 0 0)), some (.int t)] [] h post
  refine J.iload_n 1 dX11_count_0 rfl rfl ?_
  by_cases c1 : (t).toInt < 0 ∨ 9 < (t).toInt
  · refine J.tsOut 130 dX11_count_1 c1 (by decide) ?_
    refine J.iconst (-1) 131 dX11_count_130 rfl (by decide) ?_
    exact J.iret dX11_count_131 rfl (by rw [← hpost]; exact ⟨by simp (decide := true) [a_count, sw_out c1 0 (by decide) (by decide), sw_out c1 1 (by decide) (by decide), sw_out c1 2 (by decide) (by decide), sw_out c1 3 (by decide) (by decide), sw_out c1 4 (by decide) (by decide), sw_out c1 5 (by decide) (by decide), sw_out c1 6 (by decide) (by decide), sw_out c1 7 (by decide) (by decide), sw_out c1 8 (by decide) (by decide), sw_out c1 9 (by decide) (by decide)], rfl⟩)
  · have q1 : (t).toInt = 0 ∨ (t).toInt = 1 ∨ (t).toInt = 2 ∨ (t).toInt = 3 ∨ (t).toInt = 4 ∨ (t).toInt = 5 ∨ (t).toInt = 6 ∨ (t).toInt = 7 ∨ (t).toInt = 8 ∨ (t).toInt = 9 := by omega
    rcases q1 with q1 | q1 | q1 | q1 | q1 | q1 | q1 | q1 | q1 | q1
    · have z1 : t = 0 := Int32.toInt_inj.mp (q1.trans (by decide))
      refine J.tsIn (k := 0) 56 dX11_count_1 q1 (by decide) (by decide) rfl (by decide) ?_
      refine J.aload_n 57 dX11_count_56 rfl rfl ?_
      refine gf_X11_10 rfl 60 dX11_count_57 rfl (hK.hut) (v := .ref (ad 1 0)) rfl ?_
      refine cv_X11_79 rfl 63 (hK.size (by omega)) dX11_count_60 rfl (hK.listOb (by omega)).choose_spec rfl rfl (Nat.le_of_ble_eq_true rfl) (Nat.zero_le _) (Nat.zero_le _) (fun r h2 hp => ?_)
      obtain ⟨rfl, rfl⟩ := hp
      exact J.iret dX11_count_63 rfl (by rw [← hpost]; exact ⟨by simp (decide := true) [a_count, z1], rfl⟩)
    · have z1 : t = 1 := Int32.toInt_inj.mp (q1.trans (by decide))
      refine J.tsIn (k := 1) 64 dX11_count_1 q1 (by decide) (by decide) rfl (by decide) ?_
      refine J.aload_n 65 dX11_count_64 rfl rfl ?_
      refine gf_X11_16 rfl 68 dX11_count_65 rfl (hK.hut) (v := .ref (ad 1 1)) rfl ?_
      refine cv_X11_79 rfl 71 (hK.size (by omega)) dX11_count_68 rfl (hK.listOb (by omega)).choose_spec rfl rfl (Nat.le_of_ble_eq_true rfl) (Nat.zero_le _) (Nat.zero_le _) (fun r h2 hp => ?_)
      obtain ⟨rfl, rfl⟩ := hp
      exact J.iret dX11_count_71 rfl (by rw [← hpost]; exact ⟨by simp (decide := true) [a_count, z1], rfl⟩)
    · have z1 : t = 2 := Int32.toInt_inj.mp (q1.trans (by decide))
      refine J.tsIn (k := 2) 72 dX11_count_1 q1 (by decide) (by decide) rfl (by decide) ?_
      refine J.aload_n 73 dX11_count_72 rfl rfl ?_
      refine gf_X11_19 rfl 76 dX11_count_73 rfl (hK.hut) (v := .ref (ad 1 2)) rfl ?_
      refine cv_X11_79 rfl 79 (hK.size (by omega)) dX11_count_76 rfl (hK.listOb (by omega)).choose_spec rfl rfl (Nat.le_of_ble_eq_true rfl) (Nat.zero_le _) (Nat.zero_le _) (fun r h2 hp => ?_)
      obtain ⟨rfl, rfl⟩ := hp
      exact J.iret dX11_count_79 rfl (by rw [← hpost]; exact ⟨by simp (decide := true) [a_count, z1], rfl⟩)
    · have z1 : t = 3 := Int32.toInt_inj.mp (q1.trans (by decide))
      refine J.tsIn (k := 3) 80 dX11_count_1 q1 (by decide) (by decide) rfl (by decide) ?_
      refine J.aload_n 81 dX11_count_80 rfl rfl ?_
      refine gf_X11_22 rfl 84 dX11_count_81 rfl (hK.hut) (v := .ref (ad 1 3)) rfl ?_
      refine cv_X11_79 rfl 87 (hK.size (by omega)) dX11_count_84 rfl (hK.listOb (by omega)).choose_spec rfl rfl (Nat.le_of_ble_eq_true rfl) (Nat.zero_le _) (Nat.zero_le _) (fun r h2 hp => ?_)
      obtain ⟨rfl, rfl⟩ := hp
      exact J.iret dX11_count_87 rfl (by rw [← hpost]; exact ⟨by simp (decide := true) [a_count, z1], rfl⟩)
    · have z1 : t = 4 := Int32.toInt_inj.mp (q1.trans (by decide))
      refine J.tsIn (k := 4) 88 dX11_count_1 q1 (by decide) (by decide) rfl (by decide) ?_
      refine J.aload_n 89 dX11_count_88 rfl rfl ?_
      refine gf_X11_45 rfl 92 dX11_count_89 rfl (hK.hut) (v := .ref (ad 12 0)) rfl ?_
      refine gf_X11_111 rfl 95 dX11_count_92 rfl (hK.book) (v := .ref (ad 1 6)) rfl ?_
      refine cv_X11_79 rfl 98 (hK.size (by omega)) dX11_count_95 rfl (hK.listOb (by omega)).choose_spec rfl rfl (Nat.le_of_ble_eq_true rfl) (Nat.zero_le _) (Nat.zero_le _) (fun r h2 hp => ?_)
      obtain ⟨rfl, rfl⟩ := hp
      exact J.iret dX11_count_98 rfl (by rw [← hpost]; exact ⟨by simp (decide := true) [a_count, z1], rfl⟩)
    · have z1 : t = 5 := Int32.toInt_inj.mp (q1.trans (by decide))
      refine J.tsIn (k := 5) 99 dX11_count_1 q1 (by decide) (by decide) rfl (by decide) ?_
      refine J.aload_n 100 dX11_count_99 rfl rfl ?_
      refine gf_X11_25 rfl 103 dX11_count_100 rfl (hK.hut) (v := .ref (ad 1 4)) rfl ?_
      refine cv_X11_79 rfl 106 (hK.size (by omega)) dX11_count_103 rfl (hK.listOb (by omega)).choose_spec rfl rfl (Nat.le_of_ble_eq_true rfl) (Nat.zero_le _) (Nat.zero_le _) (fun r h2 hp => ?_)
      obtain ⟨rfl, rfl⟩ := hp
      exact J.iret dX11_count_106 rfl (by rw [← hpost]; exact ⟨by simp (decide := true) [a_count, z1], rfl⟩)
    · have z1 : t = 6 := Int32.toInt_inj.mp (q1.trans (by decide))
      refine J.tsIn (k := 6) 107 dX11_count_1 q1 (by decide) (by decide) rfl (by decide) ?_
      refine J.aload_n 108 dX11_count_107 rfl rfl ?_
      refine gf_X11_150 rfl 111 dX11_count_108 rfl (hK.hut) (v := .int (S.1 0)) rfl ?_
      exact J.iret dX11_count_111 rfl (by rw [← hpost]; exact ⟨by simp (decide := true) [a_count, z1], rfl⟩)
    · have z1 : t = 7 := Int32.toInt_inj.mp (q1.trans (by decide))
      refine J.tsIn (k := 7) 112 dX11_count_1 q1 (by decide) (by decide) rfl (by decide) ?_
      refine J.aload_n 113 dX11_count_112 rfl rfl ?_
      refine cv_X11_307 rfl 116 (c_shelvedLoads hK h3r hb3) dX11_count_113 rfl (hK.hut) rfl rfl (Nat.le_of_ble_eq_true rfl) (Nat.zero_le _) (Nat.zero_le _) (fun r h2 hp => ?_)
      obtain ⟨rfl, rfl⟩ := hp
      exact J.iret dX11_count_116 rfl (by rw [← hpost]; exact ⟨by simp (decide := true) [a_count, z1], rfl⟩)
    · have z1 : t = 8 := Int32.toInt_inj.mp (q1.trans (by decide))
      refine J.tsIn (k := 8) 117 dX11_count_1 q1 (by decide) (by decide) rfl (by decide) ?_
      refine J.aload_n 118 dX11_count_117 rfl rfl ?_
      refine cv_X11_310 rfl 121 (c_lateLoads hK h3r hb3) dX11_count_118 rfl (hK.hut) rfl rfl (Nat.le_of_ble_eq_true rfl) (Nat.zero_le _) (Nat.zero_le _) (fun r h2 hp => ?_)
      obtain ⟨rfl, rfl⟩ := hp
      exact J.iret dX11_count_121 rfl (by rw [← hpost]; exact ⟨by simp (decide := true) [a_count, z1], rfl⟩)
    · have z1 : t = 9 := Int32.toInt_inj.mp (q1.trans (by decide))
      refine J.tsIn (k := 9) 122 dX11_count_1 q1 (by decide) (by decide) rfl (by decide) ?_
      refine J.aload_n 123 dX11_count_122 rfl rfl ?_
      refine gf_X11_38 rfl 126 dX11_count_123 rfl (hK.hut) (v := .ref (ad 11 0)) rfl ?_
      refine gf_X11_104 rfl 129 dX11_count_126 rfl (hK.tape) (v := .int (S.1 30)) rfl ?_
      exact J.iret dX11_count_129 rfl (by rw [← hpost]; exact ⟨by simp (decide := true) [a_count, z1], rfl⟩)
def a_fore (S : MS) (x w t u : Int32) : MS := (S.1, u2 (u2 (u2 S.2 4 x.toNatClampNeg (if 0 ≤ w then w else 9)) 5 x.toNatClampNeg (if 0 ≤ t then t else 9)) 6 x.toNatClampNeg (if 0 ≤ u then u else 0))
theorem c_foretell {G : Nat → Nat} {O : Nat → Prop} {ad : Nat → Nat → Nat} {S X : MS} {L : Nat → List Nat} {wn : Nat → Option Nat} {sl : Nat → Nat} {fl : Nat} {h h0 : AH} {d : Nat} {x w t u : Int32} (hK : KR G O ad S X L wn sl fl h) (hF : KF O h0 h) (hx : vp_in x 12) : Ct Y_X10_foretell d G 0 0 [.ref (ad 10 0), .int x, .int w, .int t, .int u] h (fun r h2 => r = none ∧ KR G O ad (a_fore S x w t u) X L wn sl fl h2 ∧ KF O h0 h2) := by
  refine Ct.ofn 0 rfl (Nat.le_of_ble_eq_true rfl) (by simp [Value.category]) ?_
  generalize hpost : (fun (r : Option Value) (h2 : AH) => r = none ∧ KR G O ad (a_fore S x w t u) X L wn sl fl h2 ∧ KF O h0 h2) = post
  show J Y_X10_foretell d G 0 0 0 [some (.ref (ad 10 0)), some (.int x), some (.int w), some (.int t), some (.int u)] [] h post
  refine J.aload_n 1 dX10_foretell_0 rfl rfl ?_
  refine gf_X10_9 rfl 4 dX10_foretell_1 rfl (hK.wea) (v := .ref (ad 15 0)) rfl ?_
  refine J.iload_n 5 dX10_foretell_4 rfl rfl ?_
  refine J.iload_n 6 dX10_foretell_5 rfl rfl ?_
  have K1 : ∀ (v1_0 : Int32), v1_0 = (if 0 ≤ w then w else 9) → ∀ h, KR G O ad S X L wn sl fl h → KF O h0 h → J Y_X10_foretell d G 0 0 15 [some (.ref (ad 10 0)), some (.int x), some (.int w), some (.int t), some (.int u)] [.int v1_0, .int x, .ref (ad 15 0)] h post := by
    intro v1_0 ev1_0 h hK hF
    refine J.iast2 x.toNatClampNeg rfl 16 dX10_foretell_15 rfl hK.arr0 hx ?_
    refine ks_15_0 hK hF (fun h hK hF => ?_)
    refine J.aload_n 17 dX10_foretell_16 rfl rfl ?_
    refine gf_X10_15 rfl 20 dX10_foretell_17 rfl (hK.wea) (v := .ref (ad 15 1)) rfl ?_
    refine J.iload_n 21 dX10_foretell_20 rfl rfl ?_
    refine J.iload_n 22 dX10_foretell_21 rfl rfl ?_
    have K2 : ∀ (v2_0 : Int32), v2_0 = (if 0 ≤ t then t else 9) → ∀ h, KR G O ad (S.1, u2 S.2 4 x.toNatClampNeg v1_0) X L wn sl fl h → KF O h0 h → J Y_X10_foretell d G 0 0 31 [some (.ref (ad 10 0)), some (.int x), some (.int w), some (.int t), some (.int u)] [.int v2_0, .int x, .ref (ad 15 1)] h post := by
      intro v2_0 ev2_0 h hK hF
      refine J.iast2 x.toNatClampNeg rfl 32 dX10_foretell_31 rfl hK.arr1 hx ?_
      refine ks_15_1 hK hF (fun h hK hF => ?_)
      refine J.aload_n 33 dX10_foretell_32 rfl rfl ?_
      refine gf_X10_18 rfl 36 dX10_foretell_33 rfl (hK.wea) (v := .ref (ad 15 2)) rfl ?_
      refine J.iload_n 37 dX10_foretell_36 rfl rfl ?_
      refine J.iload 39 dX10_foretell_37 rfl rfl ?_
      have K3 : ∀ (v3_0 : Int32), v3_0 = (if 0 ≤ u then u else 0) → ∀ h, KR G O ad (S.1, u2 (u2 S.2 4 x.toNatClampNeg v1_0) 5 x.toNatClampNeg v2_0) X L wn sl fl h → KF O h0 h → J Y_X10_foretell d G 0 0 48 [some (.ref (ad 10 0)), some (.int x), some (.int w), some (.int t), some (.int u)] [.int v3_0, .int x, .ref (ad 15 2)] h post := by
        intro v3_0 ev3_0 h hK hF
        refine J.iast2 x.toNatClampNeg rfl 49 dX10_foretell_48 rfl hK.arr2 hx ?_
        refine ks_15_2 hK hF (fun h hK hF => ?_)
        exact J.vret dX10_foretell_49 rfl (by rw [← hpost]; exact ⟨rfl, by rw [show a_fore S x w t u = (S.1, u2 (u2 (u2 S.2 4 x.toNatClampNeg v1_0) 5 x.toNatClampNeg v2_0) 6 x.toNatClampNeg v3_0) from by rw [a_fore, ← ev1_0, ← ev2_0, ← ev3_0]]; exact hK, hF⟩)
      refine J.if_ge 46 42 dX10_foretell_39 (by decide) rfl (fun c1 => ?_) (fun c1 => ?_)
      · skip
        refine J.iload 48 dX10_foretell_46 rfl rfl ?_
        exact K3 _ (by first | (simp only [if_pos c1]; done) | (simp only [if_pos c1]; rfl) | (simp [c1, Int32.not_lt.mpr c1]; done) | contradiction) _ hK hF
      · skip
        refine J.iconst 0 43 dX10_foretell_42 rfl (by decide) ?_
        refine J.goto 48 dX10_foretell_43 (by decide) ?_
        exact K3 _ (by first | (simp only [if_neg c1]; done) | (simp only [if_neg c1]; rfl) | (simp [c1, Int32.not_le.mp c1]; done) | contradiction) _ hK hF
    refine J.if_ge 30 25 dX10_foretell_22 (by decide) rfl (fun c2 => ?_) (fun c2 => ?_)
    · skip
      refine J.iload_n 31 dX10_foretell_30 rfl rfl ?_
      exact K2 _ (by first | (simp only [if_pos c2]; done) | (simp only [if_pos c2]; rfl) | (simp [c2, Int32.not_lt.mpr c2]; done) | contradiction) _ hK hF
    · skip
      refine J.bipush 9 27 dX10_foretell_25 rfl (by decide) ?_
      refine J.goto 31 dX10_foretell_27 (by decide) ?_
      exact K2 _ (by first | (simp only [if_neg c2]; done) | (simp only [if_neg c2]; rfl) | (simp [c2, Int32.not_le.mp c2]; done) | contradiction) _ hK hF
  refine J.if_ge 14 9 dX10_foretell_6 (by decide) rfl (fun c3 => ?_) (fun c3 => ?_)
  · skip
    refine J.iload_n 15 dX10_foretell_14 rfl rfl ?_
    exact K1 _ (by first | (simp only [if_pos c3]; done) | (simp only [if_pos c3]; rfl) | (simp [c3, Int32.not_lt.mpr c3]; done) | contradiction) _ hK hF
  · skip
    refine J.bipush 9 11 dX10_foretell_9 rfl (by decide) ?_
    refine J.goto 15 dX10_foretell_11 (by decide) ?_
    exact K1 _ (by first | (simp only [if_neg c3]; done) | (simp only [if_neg c3]; rfl) | (simp [c3, Int32.not_le.mp c3]; done) | contradiction) _ hK hF
theorem c_hourP {G : Nat → Nat} {O : Nat → Prop} {ad : Nat → Nat → Nat} {S X : MS} {L : Nat → List Nat} {wn : Nat → Option Nat} {sl : Nat → Nat} {fl : Nat} {h h0 : AH} {d : Nat} {x w t u : Int32} (hK : KR G O ad S X L wn sl fl h) (hF : KF O h0 h) (hx : (0 ≤ x ∧ x ≤ 11) → vp_in x 12) : Ct Y_X11_hour (d + 1) G 0 0 [.ref (ad 0 0), .int x, .int w, .int t, .int u] h (fun r h2 => r = some (.int (r_hour S x w t u)) ∧ KR G O ad (s_hour S x w t u) X L wn sl fl h2 ∧ KF O h0 h2) := by
  refine Ct.ofn 0 rfl (Nat.le_of_ble_eq_true rfl) (by simp [Value.category]) ?_
  generalize hpost : (fun (r : Option Value) (h2 : AH) => r = some (.int (r_hour S x w t u)) ∧ KR G O ad (s_hour S x w t u) X L wn sl fl h2 ∧ KF O h0 h2) = post
  show J Y_X11_hour (d + 1) G 0 0 0 [some (.ref (ad 0 0)), some (.int x), some (.int w), some (.int t), some (.int u)] [] h post
  refine J.iload_n 1 dX11_hour_0 rfl rfl ?_
  refine J.iconst 0 2 dX11_hour_1 rfl (by decide) ?_
  refine J.bipush 11 4 dX11_hour_2 rfl (by decide) ?_
  refine cs_X11_75 rfl 7 (c_isWithin (v := x) (a := 0) (b := 11) _ _) dX11_hour_4 rfl rfl rfl (Nat.le_of_ble_eq_true rfl) (Nat.zero_le _) (Nat.zero_le _) (fun r h2 hp => ?_)
  obtain ⟨rfl, rfl⟩ := hp
  refine J.if_eq 20 10 dX11_hour_7 (by decide) rfl (fun c1 => ?_) (fun c1 => ?_)
  · skip
    refine J.iconst (-1) 21 dX11_hour_20 rfl (by decide) ?_
    exact J.iret dX11_hour_21 rfl (by rw [← hpost]; exact ⟨by simp [r_hour, c1, ib_0.mp c1, a_fore], by rw [show s_hour S x w t u = S from by simp [s_hour, c1, ib_0.mp c1, a_fore]]; exact hK, hF⟩)
  · skip
    refine J.iload_n 11 dX11_hour_10 rfl rfl ?_
    refine J.iconst (-1) 12 dX11_hour_11 rfl (by decide) ?_
    refine J.bipush 9 14 dX11_hour_12 rfl (by decide) ?_
    refine cs_X11_75 rfl 17 (c_isWithin (v := w) (a := (-1)) (b := 9) _ _) dX11_hour_14 rfl rfl rfl (Nat.le_of_ble_eq_true rfl) (Nat.zero_le _) (Nat.zero_le _) (fun r h2 hp => ?_)
    obtain ⟨rfl, rfl⟩ := hp
    refine J.if_ne 22 20 dX11_hour_17 (by decide) rfl (fun c2 => ?_) (fun c2 => ?_)
    · skip
      refine J.iload_n 23 dX11_hour_22 rfl rfl ?_
      refine J.iconst (-1) 24 dX11_hour_23 rfl (by decide) ?_
      refine J.bipush 9 26 dX11_hour_24 rfl (by decide) ?_
      refine cs_X11_75 rfl 29 (c_isWithin (v := t) (a := (-1)) (b := 9) _ _) dX11_hour_26 rfl rfl rfl (Nat.le_of_ble_eq_true rfl) (Nat.zero_le _) (Nat.zero_le _) (fun r h2 hp => ?_)
      obtain ⟨rfl, rfl⟩ := hp
      refine J.if_eq 43 32 dX11_hour_29 (by decide) rfl (fun c3 => ?_) (fun c3 => ?_)
      · skip
        refine J.iconst (-1) 44 dX11_hour_43 rfl (by decide) ?_
        exact J.iret dX11_hour_44 rfl (by rw [← hpost]; exact ⟨by simp [r_hour, c1, ib_n.mp c1, c2, ib_n.mp c2, c3, ib_0.mp c3, a_fore], by rw [show s_hour S x w t u = S from by simp [s_hour, c1, ib_n.mp c1, c2, ib_n.mp c2, c3, ib_0.mp c3, a_fore]]; exact hK, hF⟩)
      · skip
        refine J.iload 34 dX11_hour_32 rfl rfl ?_
        refine J.iconst (-1) 35 dX11_hour_34 rfl (by decide) ?_
        refine J.bipush 9 37 dX11_hour_35 rfl (by decide) ?_
        refine cs_X11_75 rfl 40 (c_isWithin (v := u) (a := (-1)) (b := 9) _ _) dX11_hour_37 rfl rfl rfl (Nat.le_of_ble_eq_true rfl) (Nat.zero_le _) (Nat.zero_le _) (fun r h2 hp => ?_)
        obtain ⟨rfl, rfl⟩ := hp
        refine J.if_ne 45 43 dX11_hour_40 (by decide) rfl (fun c4 => ?_) (fun c4 => ?_)
        · skip
          refine J.aload_n 46 dX11_hour_45 rfl rfl ?_
          refine gf_X11_31 rfl 49 dX11_hour_46 rfl (hK.hut) (v := .ref (ad 10 0)) rfl ?_
          refine J.iload_n 50 dX11_hour_49 rfl rfl ?_
          refine J.iload_n 51 dX11_hour_50 rfl rfl ?_
          refine J.iload_n 52 dX11_hour_51 rfl rfl ?_
          refine J.iload 54 dX11_hour_52 rfl rfl ?_
          refine cv_X11_100 rfl 57 (c_foretell (h0 := h0) (x := x) (w := w) (t := t) (u := u) hK hF (hx (ib_n.mp (by assumption)))) dX11_hour_54 rfl (hK.wea) rfl rfl (Nat.le_of_ble_eq_true rfl) (Nat.zero_le _) (Nat.zero_le _) (fun r h hp => ?_)
          obtain ⟨rfl, hK, hF⟩ := hp
          refine J.iconst 1 58 dX11_hour_57 rfl (by decide) ?_
          exact J.iret dX11_hour_58 rfl (by rw [← hpost]; exact ⟨by simp [r_hour, c1, ib_n.mp c1, c2, ib_n.mp c2, c3, ib_n.mp c3, c4, ib_n.mp c4, a_fore], by rw [show s_hour S x w t u = a_fore S x w t u from by simp [s_hour, c1, ib_n.mp c1, c2, ib_n.mp c2, c3, ib_n.mp c3, c4, ib_n.mp c4, a_fore]]; exact hK, hF⟩)
        · skip
          refine J.iconst (-1) 44 dX11_hour_43 rfl (by decide) ?_
          exact J.iret dX11_hour_44 rfl (by rw [← hpost]; exact ⟨by simp [r_hour, c1, ib_n.mp c1, c2, ib_n.mp c2, c3, ib_n.mp c3, c4, ib_0.mp c4, a_fore], by rw [show s_hour S x w t u = S from by simp [s_hour, c1, ib_n.mp c1, c2, ib_n.mp c2, c3, ib_n.mp c3, c4, ib_0.mp c4, a_fore]]; exact hK, hF⟩)
    · skip
      refine J.iconst (-1) 21 dX11_hour_20 rfl (by decide) ?_
      exact J.iret dX11_hour_21 rfl (by rw [← hpost]; exact ⟨by simp [r_hour, c1, ib_n.mp c1, c2, ib_0.mp c2, a_fore], by rw [show s_hour S x w t u = S from by simp [s_hour, c1, ib_n.mp c1, c2, ib_0.mp c2, a_fore]]; exact hK, hF⟩)
theorem c_fuel {G : Nat → Nat} {O : Nat → Prop} {ad : Nat → Nat → Nat} {S X : MS} {L : Nat → List Nat} {wn : Nat → Option Nat} {sl : Nat → Nat} {fl : Nat} {h h0 : AH} {d : Nat} {m : Int32} (hK : KR G O ad S X L wn sl fl h) (hF : KF O h0 h) (h1r : L 1 = List.range (L 1).length) (hb1 : (L 1).length ≤ 4) (h11 : S.1 11 = nI (L 1).length) : Ct Y_X11_fuel (d + 3) G 0 0 [.ref (ad 0 0), .int m] h (fun r h2 => r = some (.int (r_fuel S m)) ∧ KR G O ad (s_fuel S m) X L wn sl fl h2 ∧ KF O h0 h2) := by
  refine Ct.ofn 2 rfl (Nat.le_of_ble_eq_true rfl) (by simp [Value.category]) ?_
  generalize hpost : (fun (r : Option Value) (h2 : AH) => r = some (.int (r_fuel S m)) ∧ KR G O ad (s_fuel S m) X L wn sl fl h2 ∧ KF O h0 h2) = post
  show J Y_X11_fuel (d + 3) G 0 0 0 [some (.ref (ad 0 0)), some (.int m), none, none] [] h post
  refine J.aload_n 1 dX11_fuel_0 rfl rfl ?_
  refine J.iload_n 2 dX11_fuel_1 rfl rfl ?_
  refine cv_X11_141 rfl 5 (c_isMachine (m := m) hK (by omega)) dX11_fuel_2 rfl (hK.hut) rfl rfl (Nat.le_of_ble_eq_true rfl) (Nat.zero_le _) (Nat.zero_le _) (fun r h2 hp => ?_)
  obtain ⟨rfl, rfl⟩ := hp
  refine J.if_ne 10 8 dX11_fuel_5 (by decide) rfl (fun c1 => ?_) (fun c1 => ?_)
  · skip
    have im := idx_of (ib_n.mp c1) (show (L 1).length ≤ 100000 by omega)
    refine J.aload_n 11 dX11_fuel_10 rfl rfl ?_
    refine gf_X11_16 rfl 14 dX11_fuel_11 rfl (hK.hut) (v := .ref (ad 1 1)) rfl ?_
    refine J.iload_n 15 dX11_fuel_14 rfl rfl ?_
    have kg := hK.get (d := d) (r := 1) (i := m.toNatClampNeg) (by omega) (rng_get h1r im.1)
    rw [im.2] at kg
    refine cv_X11_132 rfl 18 kg dX11_fuel_15 rfl (hK.listOb (by omega)).choose_spec rfl rfl (Nat.le_of_ble_eq_true rfl) (Nat.zero_le _) (Nat.zero_le _) (fun r h2 hp => ?_)
    obtain ⟨rfl, rfl⟩ := hp
    refine cc_X11_83 rfl 21 dX11_fuel_18 rfl (hK.mach im.1) ?_
    refine J.ast_2 22 dX11_fuel_21 rfl (by decide) ?_
    refine J.aload_n 23 dX11_fuel_22 rfl rfl ?_
    refine gf_X11_147 rfl 26 dX11_fuel_23 rfl (hK.mach im.1) (v := .int (S.2 10 m.toNatClampNeg)) rfl ?_
    refine J.aload_n 27 dX11_fuel_26 rfl rfl ?_
    refine gf_X11_150 rfl 30 dX11_fuel_27 rfl (hK.hut) (v := .int (S.1 0)) rfl ?_
    refine J.icmp_le 36 33 dX11_fuel_30 (by decide) rfl (fun c2 => ?_) (fun c2 => ?_)
    · skip
      refine J.aload_n 37 dX11_fuel_36 rfl rfl ?_
      refine gf_X11_185 rfl 40 dX11_fuel_37 rfl (hK.mach im.1) (v := .int (S.2 8 m.toNatClampNeg)) rfl ?_
      refine J.aload_n 41 dX11_fuel_40 rfl rfl ?_
      refine gf_X11_188 rfl 44 dX11_fuel_41 rfl (hK.mach im.1) (v := .int (S.2 9 m.toNatClampNeg)) rfl ?_
      refine J.isub 45 dX11_fuel_44 rfl ?_
      refine J.ist_3 46 dX11_fuel_45 rfl (by decide) ?_
      refine J.aload_n 47 dX11_fuel_46 rfl rfl ?_
      refine J.aload_n 48 dX11_fuel_47 rfl rfl ?_
      refine gf_X11_185 rfl 51 dX11_fuel_48 rfl (hK.mach im.1) (v := .int (S.2 8 m.toNatClampNeg)) rfl ?_
      refine pf_X11_188 rfl 54 dX11_fuel_51 rfl (hK.mach im.1) (Nat.le_of_ble_eq_true rfl) ?_
      refine ks_4_3 im.1 hK hF (fun h hK hF => ?_)
      refine J.iload_n 55 dX11_fuel_54 rfl rfl ?_
      exact J.iret dX11_fuel_55 rfl (by rw [← hpost]; exact ⟨by simp [r_fuel, c1, ib_n.mp c1, c2, Int32.not_lt.mpr c2, h11], by rw [show s_fuel S m = (S.1, u2 S.2 9 m.toNatClampNeg (S.2 8 m.toNatClampNeg)) from by simp [s_fuel, c1, ib_n.mp c1, c2, Int32.not_lt.mpr c2, h11]]; exact hK, hF⟩)
    · skip
      refine J.bipush (-3) 35 dX11_fuel_33 rfl (by decide) ?_
      exact J.iret dX11_fuel_35 rfl (by rw [← hpost]; exact ⟨by simp [r_fuel, c1, ib_n.mp c1, c2, Int32.not_le.mp c2, h11], by rw [show s_fuel S m = S from by simp [s_fuel, c1, ib_n.mp c1, c2, Int32.not_le.mp c2, h11]]; exact hK, hF⟩)
  · skip
    refine J.iconst (-1) 9 dX11_fuel_8 rfl (by decide) ?_
    exact J.iret dX11_fuel_9 rfl (by rw [← hpost]; exact ⟨by simp [r_fuel, c1, ib_0.mp c1, h11], by rw [show s_fuel S m = S from by simp [s_fuel, c1, ib_0.mp c1, h11]]; exact hK, hF⟩)
def a_shel (S X : MS) (t : Int32) (i : Nat) : MS := if S.2 23 i = 2 ∧ X.2 0 i ≤ t then (S.1, u2 (u2 S.2 23 i 3) 26 i (X.2 0 i)) else S
def a_minN (T X : MS) (t : Int32) : Nat → MS
  | 0 => T
  | k + 1 => a_shel (a_minN T X t k) X t k
theorem a_minN_1 (T X : MS) (t : Int32) : ∀ k, (a_minN T X t k).1 = T.1
  | 0 => rfl
  | k + 1 => by
    have ih := a_minN_1 T X t k
    simp only [a_minN, a_shel]
    split <;> exact ih
def a_minute (S X : MS) (n : Nat) (x : Int32) : MS := if ¬ (1 ≤ x ∧ x ≤ 120) ∨ 720 < S.1 0 + x then S else a_minN (vf_upd S.1 0 (S.1 0 + x), S.2) X (S.1 0 + x) n
theorem c_shelveBy {G : Nat → Nat} {O : Nat → Prop} {ad : Nat → Nat → Nat} {S X : MS} {L : Nat → List Nat} {wn : Nat → Option Nat} {sl : Nat → Nat} {fl : Nat} {h h0 : AH} {d : Nat} {i : Nat} {t : Int32} (hK : KR G O ad S X L wn sl fl h) (hF : KF O h0 h) (hi : i < (L 3).length) : Ct Y_X1_shelveBy d G 0 0 [.ref (ad 6 i), .int t] h (fun r h2 => r = none ∧ KR G O ad (a_shel S X t i) X L wn sl fl h2 ∧ KF O h0 h2) := by
  refine Ct.ofn 0 rfl (Nat.le_of_ble_eq_true rfl) (by simp [Value.category]) ?_
  generalize hpost : (fun (r : Option Value) (h2 : AH) => r = none ∧ KR G O ad (a_shel S X t i) X L wn sl fl h2 ∧ KF O h0 h2) = post
  show J Y_X1_shelveBy d G 0 0 0 [some (.ref (ad 6 i)), some (.int t)] [] h post
  refine J.aload_n 1 dX1_shelveBy_0 rfl rfl ?_
  refine gf_X1_9 rfl 4 dX1_shelveBy_1 rfl (hK.load hi) (v := .int (S.2 23 i)) rfl ?_
  refine J.iconst 2 5 dX1_shelveBy_4 rfl (by decide) ?_
  refine J.icmp_ne 29 8 dX1_shelveBy_5 (by decide) rfl (fun c1 => ?_) (fun c1 => ?_)
  · skip
    exact J.vret dX1_shelveBy_29 rfl (by rw [← hpost]; exact ⟨rfl, by rw [show a_shel S X t i = S from by simp [a_shel, c1]]; exact hK, hF⟩)
  · skip
    refine J.aload_n 9 dX1_shelveBy_8 rfl rfl ?_
    refine gf_X1_45 rfl 12 dX1_shelveBy_9 rfl (hK.load hi) (v := .int (X.2 0 i)) rfl ?_
    refine J.iload_n 13 dX1_shelveBy_12 rfl rfl ?_
    refine J.icmp_gt 29 16 dX1_shelveBy_13 (by decide) rfl (fun c2 => ?_) (fun c2 => ?_)
    · skip
      exact J.vret dX1_shelveBy_29 rfl (by rw [← hpost]; exact ⟨rfl, by rw [show a_shel S X t i = S from by simp [a_shel, c1, c2, Int32.not_le.mpr c2]]; exact hK, hF⟩)
    · skip
      refine J.aload_n 17 dX1_shelveBy_16 rfl rfl ?_
      refine J.iconst 3 18 dX1_shelveBy_17 rfl (by decide) ?_
      refine pf_X1_9 rfl 21 dX1_shelveBy_18 rfl (hK.load hi) (Nat.le_of_ble_eq_true rfl) ?_
      refine ks_6_7 hi hK hF (fun h hK hF => ?_)
      refine J.aload_n 22 dX1_shelveBy_21 rfl rfl ?_
      refine J.aload_n 23 dX1_shelveBy_22 rfl rfl ?_
      refine gf_X1_45 rfl 26 dX1_shelveBy_23 rfl (hK.load hi) (v := .int (X.2 0 i)) rfl ?_
      refine pf_X1_21 rfl 29 dX1_shelveBy_26 rfl (hK.load hi) (Nat.le_of_ble_eq_true rfl) ?_
      refine ks_6_11 hi hK hF (fun h hK hF => ?_)
      exact J.vret dX1_shelveBy_29 rfl (by rw [← hpost]; exact ⟨rfl, by rw [show a_shel S X t i = (S.1, u2 (u2 S.2 23 i 3) 26 i (X.2 0 i)) from by simp [a_shel, c1, c2, Int32.not_lt.mp c2]]; exact hK, hF⟩)
theorem c_minute {G : Nat → Nat} {O : Nat → Prop} {ad : Nat → Nat → Nat} {S X : MS} {L : Nat → List Nat} {wn : Nat → Option Nat} {sl : Nat → Nat} {fl : Nat} {h h0 : AH} {d : Nat} {x : Int32} (hK : KR G O ad S X L wn sl fl h) (hF : KF O h0 h) (h3r : L 3 = List.range (L 3).length) (hb3 : (L 3).length ≤ 80) : Ct Y_X11_minute (d + 3) G 0 0 [.ref (ad 0 0), .int x] h (fun r h2 => r = some (.int (r_minute S x)) ∧ KR G O ad (a_minute S X (L 3).length x) X L wn sl fl h2 ∧ KF O h0 h2) := by
  refine Ct.ofn 1 rfl (Nat.le_of_ble_eq_true rfl) (by simp [Value.category]) ?_
  generalize hpost : (fun (r : Option Value) (h2 : AH) => r = some (.int (r_minute S x)) ∧ KR G O ad (a_minute S X (L 3).length x) X L wn sl fl h2 ∧ KF O h0 h2) = post
  show J Y_X11_minute (d + 3) G 0 0 0 [some (.ref (ad 0 0)), some (.int x), none] [] h post
  refine J.iload_n 1 dX11_minute_0 rfl rfl ?_
  refine J.iconst 1 2 dX11_minute_1 rfl (by decide) ?_
  refine J.bipush 120 4 dX11_minute_2 rfl (by decide) ?_
  refine cs_X11_75 rfl 7 (c_isWithin (v := x) (a := 1) (b := 120) _ _) dX11_minute_4 rfl rfl rfl (Nat.le_of_ble_eq_true rfl) (Nat.zero_le _) (Nat.zero_le _) (fun r h2 hp => ?_)
  obtain ⟨rfl, rfl⟩ := hp
  refine J.if_eq 22 10 dX11_minute_7 (by decide) rfl (fun c1 => ?_) (fun c1 => ?_)
  · skip
    refine J.iconst (-1) 23 dX11_minute_22 rfl (by decide) ?_
    exact J.iret dX11_minute_23 rfl (by rw [← hpost]; exact ⟨by simp [r_minute, c1, ib_0.mp c1], by rw [show a_minute S X (L 3).length x = S from by simp [a_minute, c1, ib_0.mp c1]]; exact hK, hF⟩)
  · skip
    refine J.aload_n 11 dX11_minute_10 rfl rfl ?_
    refine gf_X11_150 rfl 14 dX11_minute_11 rfl (hK.hut) (v := .int (S.1 0)) rfl ?_
    refine J.iload_n 15 dX11_minute_14 rfl rfl ?_
    refine J.iadd 16 dX11_minute_15 rfl ?_
    refine J.sipush 720 19 dX11_minute_16 rfl (by decide) ?_
    refine J.icmp_le 24 22 dX11_minute_19 (by decide) rfl (fun c2 => ?_) (fun c2 => ?_)
    · skip
      refine J.aload_n 25 dX11_minute_24 rfl rfl ?_
      refine J.dup 26 dX11_minute_25 rfl rfl ?_
      refine gf_X11_150 rfl 29 dX11_minute_26 rfl (hK.hut) (v := .int (S.1 0)) rfl ?_
      refine J.iload_n 30 dX11_minute_29 rfl rfl ?_
      refine J.iadd 31 dX11_minute_30 rfl ?_
      refine pf_X11_150 rfl 34 dX11_minute_31 rfl (hK.hut) (Nat.le_of_ble_eq_true rfl) ?_
      refine ks_0_11 hK hF (fun h hK hF => ?_)
      refine J.iconst 0 35 dX11_minute_34 rfl (by decide) ?_
      refine J.ist_2 36 dX11_minute_35 rfl (by decide) ?_
      have loop36 : ∀ (j k : Nat) (x2 : Int32), k ≤ (L 3).length → (L 3).length + 1 ≤ k + j → x2 = nI k → ∀ Sx : MS, (Sx = a_minN (vf_upd S.1 0 (S.1 0 + x), S.2) X (S.1 0 + x) k) → ∀ h, KR G O ad Sx X L wn sl fl h → KF O h0 h → J Y_X11_minute (d + 3) G 0 0 36 [some (.ref (ad 0 0)), some (.int x), some (.int x2)] [] h post := by
        intro j
        induction j with
        | zero => intro k _ g1 g2; exact absurd g2 (by omega)
        | succ j ih =>
          intro k x2 g1 g2 e2 Sx eSx h hK hF
          have q2 : x2.toNatClampNeg = k := by rw [e2]; exact nI_clamp (by omega)
          have hx0 : Sx.1 0 = S.1 0 + x := by rw [eSx, a_minN_1]; rfl
          refine J.iload_n 37 dX11_minute_36 rfl rfl ?_
          refine J.aload_n 38 dX11_minute_37 rfl rfl ?_
          refine gf_X11_22 rfl 41 dX11_minute_38 rfl (hK.hut) (v := .ref (ad 1 3)) rfl ?_
          refine cv_X11_79 rfl 44 (hK.size (by omega)) dX11_minute_41 rfl (hK.listOb (by omega)).choose_spec rfl rfl (Nat.le_of_ble_eq_true rfl) (Nat.zero_le _) (Nat.zero_le _) (fun r h2 hp => ?_)
          obtain ⟨rfl, rfl⟩ := hp
          refine J.icmp_ge 71 47 dX11_minute_44 (by decide) rfl (fun c3 => ?_) (fun c3 => ?_)
          · skip
            have hk : k = (L 3).length := Nat.le_antisymm g1 ((nI_leI (by omega) (by omega)).mp (by have z := c3; rw [e2] at z; exact z))
            refine J.aload_n 72 dX11_minute_71 rfl rfl ?_
            refine gf_X11_150 rfl 75 dX11_minute_72 rfl (hK.hut) (v := .int (Sx.1 0)) rfl ?_
            exact J.iret dX11_minute_75 rfl (by rw [← hpost]; exact ⟨by rw [hx0]; simp [r_minute, c1, ib_n.mp c1, c2, Int32.not_lt.mpr c2, c3, Int32.not_lt.mpr c3], by rw [show a_minute S X (L 3).length x = Sx from by rw [eSx, hk]; simp [a_minute, c1, ib_n.mp c1, c2, Int32.not_lt.mpr c2, c3, Int32.not_lt.mpr c3]]; exact hK, hF⟩)
          · skip
            have hk : k < (L 3).length := Nat.lt_of_not_le (fun y => c3 (by rw [e2]; exact nI_le y (by omega)))
            have hin : vp_in x2 80 := by rw [e2]; exact vp_in_nI (by omega) (by decide)
            refine J.aload_n 48 dX11_minute_47 rfl rfl ?_
            refine gf_X11_22 rfl 51 dX11_minute_48 rfl (hK.hut) (v := .ref (ad 1 3)) rfl ?_
            refine J.iload_n 52 dX11_minute_51 rfl rfl ?_
            have kg := hK.get (d := d) (r := 3) (i := k) (by omega) (rng_get h3r hk)
            rw [← e2] at kg
            refine cv_X11_132 rfl 55 kg dX11_minute_52 rfl (hK.listOb (by omega)).choose_spec rfl rfl (Nat.le_of_ble_eq_true rfl) (Nat.zero_le _) (Nat.zero_le _) (fun r h2 hp => ?_)
            obtain ⟨rfl, rfl⟩ := hp
            refine cc_X11_95 rfl 58 dX11_minute_55 rfl (hK.load hk) ?_
            refine J.aload_n 59 dX11_minute_58 rfl rfl ?_
            refine gf_X11_150 rfl 62 dX11_minute_59 rfl (hK.hut) (v := .int (Sx.1 0)) rfl ?_
            refine cv_X11_191 rfl 65 (c_shelveBy (h0 := h0) (i := k) (t := Sx.1 0) hK hF hk) dX11_minute_62 rfl (hK.load hk) rfl rfl (Nat.le_of_ble_eq_true rfl) (Nat.zero_le _) (Nat.zero_le _) (fun r h hp => ?_)
            obtain ⟨rfl, hK, hF⟩ := hp
            refine J.iinc_2 1 68 dX11_minute_65 rfl (by decide) (by decide) ?_
            refine J.goto 36 dX11_minute_68 (by decide) ?_
            exact ih (k + 1) _ (by omega) (by omega) (by rw [e2]; exact nI_1 k) _ (by rw [hx0, eSx]; rfl) _ hK hF
      exact loop36 ((L 3).length + 1) 0 _ (Nat.zero_le _) (by omega) rfl (vf_upd S.1 0 ((S.1 0) + x), S.2) rfl _ hK hF
    · skip
      refine J.iconst (-1) 23 dX11_minute_22 rfl (by decide) ?_
      exact J.iret dX11_minute_23 rfl (by rw [← hpost]; exact ⟨by simp [r_minute, c1, ib_n.mp c1, c2, Int32.not_le.mp c2], by rw [show a_minute S X (L 3).length x = S from by simp [a_minute, c1, ib_n.mp c1, c2, Int32.not_le.mp c2]]; exact hK, hF⟩)
