theorem c_lessN {G : Nat → Nat} {O : Nat → Prop} {ad : Nat → Nat → Nat} {S X : MS} {L : Nat → List Nat} {wn : Nat → Option Nat} {sl : Nat → Nat} {fl : Nat} {h : AH} {d : Nat} {y : Nat} (hK : KR G O ad S X L wn sl fl h) : Ct Y_X11_lesserOf d G 0 0 [.null, .ref (ad 6 y)] h (fun r h2 => r = some (.ref (ad 6 y)) ∧ h2 = h) := by
  refine Ct.ofn 0 rfl (Nat.le_of_ble_eq_true rfl) (by simp [Value.category]) ?_
  generalize hpost : (fun (r : Option Value) (h2 : AH) => r = some (.ref (ad 6 y)) ∧ h2 = h) = post
  show J Y_X11_lesserOf d G 0 0 0 [some .null, some (.ref (ad 6 y))] [] h post
  refine J.nload_n 1 dX11_lesserOf_0 rfl rfl ?_
  refine J.ifnonnullN 4 dX11_lesserOf_1 rfl ?_
  refine J.aload_n 5 dX11_lesserOf_4 rfl rfl ?_
  exact J.aret dX11_lesserOf_5 rfl (Or.inl ⟨_, rfl⟩) (Or.inr ⟨_, rfl⟩) (by rw [← hpost]; exact ⟨rfl, rfl⟩)
theorem c_lessNN {G : Nat → Nat} {O : Nat → Prop} {ad : Nat → Nat → Nat} {S X : MS} {L : Nat → List Nat} {wn : Nat → Option Nat} {sl : Nat → Nat} {fl : Nat} {h : AH} {d : Nat} (hK : KR G O ad S X L wn sl fl h) : Ct Y_X11_lesserOf d G 0 0 [.null, .null] h (fun r h2 => r = some .null ∧ h2 = h) := by
  refine Ct.ofn 0 rfl (Nat.le_of_ble_eq_true rfl) (by simp [Value.category]) ?_
  generalize hpost : (fun (r : Option Value) (h2 : AH) => r = some .null ∧ h2 = h) = post
  show J Y_X11_lesserOf d G 0 0 0 [some .null, some .null] [] h post
  refine J.nload_n 1 dX11_lesserOf_0 rfl rfl ?_
  refine J.ifnonnullN 4 dX11_lesserOf_1 rfl ?_
  refine J.nload_n 5 dX11_lesserOf_4 rfl rfl ?_
  exact J.aret dX11_lesserOf_5 rfl (Or.inl ⟨_, rfl⟩) (Or.inl rfl) (by rw [← hpost]; exact ⟨rfl, rfl⟩)
theorem c_lessR {G : Nat → Nat} {O : Nat → Prop} {ad : Nat → Nat → Nat} {S X : MS} {L : Nat → List Nat} {wn : Nat → Option Nat} {sl : Nat → Nat} {fl : Nat} {h : AH} {d : Nat} {x : Nat} (hK : KR G O ad S X L wn sl fl h) : Ct Y_X11_lesserOf d G 0 0 [.ref (ad 6 x), .null] h (fun r h2 => r = some (.ref (ad 6 x)) ∧ h2 = h) := by
  refine Ct.ofn 0 rfl (Nat.le_of_ble_eq_true rfl) (by simp [Value.category]) ?_
  generalize hpost : (fun (r : Option Value) (h2 : AH) => r = some (.ref (ad 6 x)) ∧ h2 = h) = post
  show J Y_X11_lesserOf d G 0 0 0 [some (.ref (ad 6 x)), some .null] [] h post
  refine J.aload_n 1 dX11_lesserOf_0 rfl rfl ?_
  refine J.ifnonnullR 6 dX11_lesserOf_1 (by decide) ?_
  refine J.nload_n 7 dX11_lesserOf_6 rfl rfl ?_
  refine J.ifnullN 21 dX11_lesserOf_7 (by decide) ?_
  refine J.aload_n 22 dX11_lesserOf_21 rfl rfl ?_
  refine J.goto 26 dX11_lesserOf_22 (by decide) ?_
  exact J.aret dX11_lesserOf_26 rfl (Or.inl ⟨_, rfl⟩) (Or.inr ⟨_, rfl⟩) (by rw [← hpost]; exact ⟨rfl, rfl⟩)
theorem c_less {G : Nat → Nat} {O : Nat → Prop} {ad : Nat → Nat → Nat} {S X : MS} {L : Nat → List Nat} {wn : Nat → Option Nat} {sl : Nat → Nat} {fl : Nat} {h : AH} {d : Nat} {x y : Nat} (hK : KR G O ad S X L wn sl fl h) (hx : x < (L 3).length) (hy : y < (L 3).length) (hb3 : (L 3).length ≤ 80) : Ct Y_X11_lesserOf d G 0 0 [.ref (ad 6 x), .ref (ad 6 y)] h (fun r h2 => r = some (.ref (ad 6 (min x y))) ∧ h2 = h) := by
  refine Ct.ofn 0 rfl (Nat.le_of_ble_eq_true rfl) (by simp [Value.category]) ?_
  generalize hpost : (fun (r : Option Value) (h2 : AH) => r = some (.ref (ad 6 (min x y))) ∧ h2 = h) = post
  show J Y_X11_lesserOf d G 0 0 0 [some (.ref (ad 6 x)), some (.ref (ad 6 y))] [] h post
  refine J.aload_n 1 dX11_lesserOf_0 rfl rfl ?_
  refine J.ifnonnullR 6 dX11_lesserOf_1 (by decide) ?_
  refine J.aload_n 7 dX11_lesserOf_6 rfl rfl ?_
  refine J.ifnullR 10 dX11_lesserOf_7 rfl ?_
  refine J.aload_n 11 dX11_lesserOf_10 rfl rfl ?_
  refine gf_X11_390 rfl 14 dX11_lesserOf_11 rfl (hK.load hx) (v := .int (nI x)) rfl ?_
  refine J.aload_n 15 dX11_lesserOf_14 rfl rfl ?_
  refine gf_X11_390 rfl 18 dX11_lesserOf_15 rfl (hK.load hy) (v := .int (nI y)) rfl ?_
  refine J.icmp_ge 25 21 dX11_lesserOf_18 (by decide) rfl (fun c1 => ?_) (fun c1 => ?_)
  · skip
    refine J.aload_n 26 dX11_lesserOf_25 rfl rfl ?_
    exact J.aret dX11_lesserOf_26 rfl (Or.inl ⟨_, rfl⟩) (Or.inr ⟨_, rfl⟩) (by rw [← hpost]; exact ⟨by rw [show min x y = y from by have := (nI_leI (a := y) (b := x) (by omega) (by omega)).mp (by assumption); omega], rfl⟩)
  · skip
    refine J.aload_n 22 dX11_lesserOf_21 rfl rfl ?_
    refine J.goto 26 dX11_lesserOf_22 (by decide) ?_
    exact J.aret dX11_lesserOf_26 rfl (Or.inl ⟨_, rfl⟩) (Or.inr ⟨_, rfl⟩) (by rw [← hpost]; exact ⟨by rw [show min x y = x from by have := (nI_ltI (a := x) (b := y) (by omega) (by omega)).mp (Int32.not_le.mp (by assumption)); omega], rfl⟩)
def lmn : List Nat → Nat
  | [] => 0
  | a :: l => l.foldl min a
theorem lmn_1 {l : List Nat} {k y : Nat} (hk : 1 ≤ k) (h : l[k]? = some y) : lmn (l.take (k + 1)) = min (lmn (l.take k)) y := by
  rw [take_1 h]
  cases l with
  | nil => simp at h
  | cons a r =>
    obtain ⟨j, rfl⟩ : ∃ j, k = j + 1 := ⟨k - 1, by omega⟩
    rw [List.take_succ_cons, List.cons_append, lmn, lmn, List.foldl_append]
    rfl
theorem c_leastE {G : Nat → Nat} {O : Nat → Prop} {ad : Nat → Nat → Nat} {S X : MS} {L : Nat → List Nat} {wn : Nat → Option Nat} {sl : Nat → Nat} {fl : Nat} {h : AH} {d : Nat} {r : Nat} (hK : KR G O ad S X L wn sl fl h) (hr : r < 8 + (L 1).length) (hnil : L r = []) : Ct Y_X11_leastOf (d + 3) G 0 0 [.ref (ad 1 r)] h (fun r2 h2 => r2 = some .null ∧ h2 = h) := by
  refine Ct.ofn 2 rfl (Nat.le_of_ble_eq_true rfl) (by simp [Value.category]) ?_
  generalize hpost : (fun (r2 : Option Value) (h2 : AH) => r2 = some .null ∧ h2 = h) = post
  show J Y_X11_leastOf (d + 3) G 0 0 0 [some (.ref (ad 1 r)), none, none] [] h post
  refine J.anull 1 dX11_leastOf_0 rfl ?_
  refine J.nst_1 2 dX11_leastOf_1 rfl (by decide) ?_
  refine J.iconst 0 3 dX11_leastOf_2 rfl (by decide) ?_
  refine J.ist_2 4 dX11_leastOf_3 rfl (by decide) ?_
  refine J.iload_n 5 dX11_leastOf_4 rfl rfl ?_
  refine J.aload_n 6 dX11_leastOf_5 rfl rfl ?_
  refine cv_X11_79 rfl 9 (hK.size hr) dX11_leastOf_6 rfl (hK.listOb hr).choose_spec rfl rfl (Nat.le_of_ble_eq_true rfl) (Nat.zero_le _) (Nat.zero_le _) (fun r2 h2 hp => ?_)
  obtain ⟨rfl, rfl⟩ := hp
  refine J.icmp_ge 31 12 dX11_leastOf_9 (by decide) rfl (fun c1 => ?_) (fun c1 => ?_)
  · refine J.nload_n 32 dX11_leastOf_31 rfl rfl ?_
    exact J.aret dX11_leastOf_32 rfl (Or.inl ⟨_, rfl⟩) (Or.inl rfl) (by rw [← hpost]; exact ⟨rfl, rfl⟩)
  · exact absurd (by rw [hnil]; decide) c1
theorem c_least {G : Nat → Nat} {O : Nat → Prop} {ad : Nat → Nat → Nat} {S X : MS} {L : Nat → List Nat} {wn : Nat → Option Nat} {sl : Nat → Nat} {fl : Nat} {h : AH} {d : Nat} {r : Nat} (hK : KR G O ad S X L wn sl fl h) (hr : r < 8 + (L 1).length) (hek : ek r = 6) (hlen : (L r).length ≤ 1000) (hb3 : (L 3).length ≤ 80) (hpos : 0 < (L r).length) : Ct Y_X11_leastOf (d + 3) G 0 0 [.ref (ad 1 r)] h (fun r2 h2 => r2 = some (.ref (ad 6 (lmn (L r)))) ∧ h2 = h) := by
  refine Ct.ofn 2 rfl (Nat.le_of_ble_eq_true rfl) (by simp [Value.category]) ?_
  generalize hpost : (fun (r2 : Option Value) (h2 : AH) => r2 = some (.ref (ad 6 (lmn (L r)))) ∧ h2 = h) = post
  show J Y_X11_leastOf (d + 3) G 0 0 0 [some (.ref (ad 1 r)), none, none] [] h post
  refine J.anull 1 dX11_leastOf_0 rfl ?_
  refine J.nst_1 2 dX11_leastOf_1 rfl (by decide) ?_
  refine J.iconst 0 3 dX11_leastOf_2 rfl (by decide) ?_
  refine J.ist_2 4 dX11_leastOf_3 rfl (by decide) ?_
  have loop4 : ∀ (j k : Nat) (x2 : Int32), 1 ≤ k → k ≤ (L r).length → (L r).length + 1 ≤ k + j → x2 = nI k → lmn ((L r).take k) < (L 3).length → J Y_X11_leastOf (d + 3) G 0 0 4 [some (.ref (ad 1 r)), some (.ref (ad 6 (lmn ((L r).take k)))), some (.int x2)] [] h post := by
    intro j
    induction j with
    | zero => intro k _ g0 g1 g2; exact absurd g2 (by omega)
    | succ j ih =>
      intro k x2 g0 g1 g2 e2 hml
      refine J.iload_n 5 dX11_leastOf_4 rfl rfl ?_
      refine J.aload_n 6 dX11_leastOf_5 rfl rfl ?_
      refine cv_X11_79 rfl 9 (hK.size hr) dX11_leastOf_6 rfl (hK.listOb (r := r) hr).choose_spec rfl rfl (Nat.le_of_ble_eq_true rfl) (Nat.zero_le _) (Nat.zero_le _) (fun r h2 hp => ?_)
      obtain ⟨rfl, rfl⟩ := hp
      refine J.icmp_ge 31 12 dX11_leastOf_9 (by decide) rfl (fun c1 => ?_) (fun c1 => ?_)
      · skip
        have hk : k = (L r).length := Nat.le_antisymm g1 ((nI_leI (by omega) (by omega)).mp (by have z := c1; rw [e2] at z; exact z))
        refine J.aload_n 32 dX11_leastOf_31 rfl rfl ?_
        exact J.aret dX11_leastOf_32 rfl (Or.inl ⟨_, rfl⟩) (Or.inr ⟨_, rfl⟩) (by rw [← hpost]; exact ⟨by rw [hk, List.take_length], rfl⟩)
      · skip
        have hk : k < (L r).length := Nat.lt_of_not_le (fun y => c1 (by rw [e2]; exact nI_le y (by omega)))
        refine J.aload_n 13 dX11_leastOf_12 rfl rfl ?_
        refine J.aload_n 14 dX11_leastOf_13 rfl rfl ?_
        refine J.iload_n 15 dX11_leastOf_14 rfl rfl ?_
        obtain ⟨y, hy⟩ : ∃ y, (L r)[k]? = some y := ⟨_, List.getElem?_eq_getElem hk⟩
        have kg := hK.get (d := d) hr hy
        rw [← e2] at kg
        rw [hek] at kg
        refine cv_X11_132 rfl 18 kg dX11_leastOf_15 rfl (hK.listOb (r := r) hr).choose_spec rfl rfl (Nat.le_of_ble_eq_true rfl) (Nat.zero_le _) (Nat.zero_le _) (fun r h2 hp => ?_)
        obtain ⟨rfl, rfl⟩ := hp
        refine cc_X11_95 rfl 21 dX11_leastOf_18 rfl (hK.load (hK.mem6 hr hek hy)) ?_
        refine cs_X11_386 rfl 24 (c_less (x := lmn ((L r).take k)) (y := y) hK hml (hK.mem6 hr hek hy) hb3) dX11_leastOf_21 rfl rfl rfl (Nat.le_of_ble_eq_true rfl) (Nat.zero_le _) (Nat.zero_le _) (fun r h2 hp => ?_)
        obtain ⟨rfl, rfl⟩ := hp
        refine J.ast_1 25 dX11_leastOf_24 rfl (by decide) ?_
        refine J.iinc_2 1 28 dX11_leastOf_25 rfl (by decide) (by decide) ?_
        refine J.goto 4 dX11_leastOf_28 (by decide) ?_
        rw [← lmn_1 g0 hy]
        exact ih (k + 1) _ (by omega) (by omega) (by omega) (by rw [e2]; exact nI_1 k) (by rw [lmn_1 g0 hy]; omega)
  refine J.iload_n 5 dX11_leastOf_4 rfl rfl ?_
  refine J.aload_n 6 dX11_leastOf_5 rfl rfl ?_
  refine cv_X11_79 rfl 9 (hK.size hr) dX11_leastOf_6 rfl (hK.listOb (r := r) hr).choose_spec rfl rfl (Nat.le_of_ble_eq_true rfl) (Nat.zero_le _) (Nat.zero_le _) (fun r h2 hp => ?_)
  obtain ⟨rfl, rfl⟩ := hp
  refine J.icmp_ge 31 12 dX11_leastOf_9 (by decide) rfl (fun c2 => ?_) (fun c2 => ?_)
  · skip
    exact absurd c2 (fun z => by have := (nI_leI (a := (L r).length) (b := 0) (by omega) (by omega)).mp z; omega)
    skip
  · skip
    refine J.nload_n 13 dX11_leastOf_12 rfl rfl ?_
    refine J.aload_n 14 dX11_leastOf_13 rfl rfl ?_
    refine J.iload_n 15 dX11_leastOf_14 rfl rfl ?_
    obtain ⟨y0, hy0⟩ : ∃ y, (L r)[0]? = some y := ⟨_, List.getElem?_eq_getElem hpos⟩
    have kg := hK.get (d := d) hr hy0
    rw [hek] at kg
    refine cv_X11_132 rfl 18 kg dX11_leastOf_15 rfl (hK.listOb (r := r) hr).choose_spec rfl rfl (Nat.le_of_ble_eq_true rfl) (Nat.zero_le _) (Nat.zero_le _) (fun r h2 hp => ?_)
    obtain ⟨rfl, rfl⟩ := hp
    refine cc_X11_95 rfl 21 dX11_leastOf_18 rfl (hK.load (hK.mem6 hr hek hy0)) ?_
    refine cs_X11_386 rfl 24 (c_lessN (y := y0) hK) dX11_leastOf_21 rfl rfl rfl (Nat.le_of_ble_eq_true rfl) (Nat.zero_le _) (Nat.zero_le _) (fun r h2 hp => ?_)
    obtain ⟨rfl, rfl⟩ := hp
    refine J.ast_1 25 dX11_leastOf_24 rfl (by decide) ?_
    refine J.iinc_2 1 28 dX11_leastOf_25 rfl (by decide) (by decide) ?_
    refine J.goto 4 dX11_leastOf_28 (by decide) ?_
    refine (fun z => z) ?_
    have ey0 : lmn ((L r).take 1) = y0 := by rw [take_1 (k := 0) hy0]; rfl
    rw [← ey0]
    exact loop4 (L r).length 1 _ (by omega) (by omega) (by omega) rfl (by rw [ey0]; exact hK.mem6 hr hek hy0)
def gsN (S : MS) (q a : Int32) (l : List Nat) : Nat → MS × Int32
  | 0 => (S, 0)
  | k + 1 => (((gsN S q a l k).1.1, u2 (gsN S q a l k).1.2 27 (l.getD k 0) (q * (gsN S q a l k).1.2 18 (l.getD k 0) / a)), (gsN S q a l k).2 + q * (gsN S q a l k).1.2 18 (l.getD k 0) / a)
theorem getD_of {l : List Nat} {k y : Nat} (h : l[k]? = some y) : l.getD k 0 = y := by
  rw [List.getD_eq_getElem?_getD, h]
  rfl
theorem c_give {G : Nat → Nat} {O : Nat → Prop} {ad : Nat → Nat → Nat} {S X : MS} {L : Nat → List Nat} {wn : Nat → Option Nat} {sl : Nat → Nat} {fl : Nat} {h h0 : AH} {d : Nat} {r : Nat} {q a : Int32} (hK : KR G O ad S X L wn sl fl h) (hF : KF O h0 h) (hr : r < 8 + (L 1).length) (hek : ek r = 6) (hlen : (L r).length ≤ 1000) (ha : ¬ a = 0) : Ct Y_X11_giveShares (d + 3) G 0 0 [.ref (ad 1 r), .int q, .int a] h (fun r2 h2 => r2 = some (.int (gsN S q a (L r) (L r).length).2) ∧ KR G O ad (gsN S q a (L r) (L r).length).1 X L wn sl fl h2 ∧ KF O h0 h2) := by
  refine Ct.ofn 3 rfl (Nat.le_of_ble_eq_true rfl) (by simp [Value.category]) ?_
  generalize hpost : (fun (r2 : Option Value) (h2 : AH) => r2 = some (.int (gsN S q a (L r) (L r).length).2) ∧ KR G O ad (gsN S q a (L r) (L r).length).1 X L wn sl fl h2 ∧ KF O h0 h2) = post
  show J Y_X11_giveShares (d + 3) G 0 0 0 [some (.ref (ad 1 r)), some (.int q), some (.int a), none, none, none] [] h post
  refine J.iconst 0 1 dX11_giveShares_0 rfl (by decide) ?_
  refine J.ist_3 2 dX11_giveShares_1 rfl (by decide) ?_
  refine J.iconst 0 3 dX11_giveShares_2 rfl (by decide) ?_
  refine J.ist_4 5 dX11_giveShares_3 rfl (by decide) ?_
  have loop5 : ∀ (j k : Nat) (x3 x4 : Int32), k ≤ (L r).length → (L r).length + 1 ≤ k + j → x4 = nI k → ∀ Sx : MS, (Sx = (gsN S q a (L r) k).1) → (x3 = (gsN S q a (L r) k).2) → ∀ h, KR G O ad Sx X L wn sl fl h → KF O h0 h → J Y_X11_giveShares (d + 3) G 0 0 5 [some (.ref (ad 1 r)), some (.int q), some (.int a), some (.int x3), some (.int x4), none] [] h post := by
    intro j
    induction j with
    | zero => intro k _ _ g1 g2; exact absurd g2 (by omega)
    | succ j ih =>
      intro k x3 x4 g1 g2 e4 Sx eSx e3 h hK hF
      have q4 : x4.toNatClampNeg = k := by rw [e4]; exact nI_clamp (by omega)
      refine J.iload 7 dX11_giveShares_5 rfl rfl ?_
      refine J.aload_n 8 dX11_giveShares_7 rfl rfl ?_
      refine cv_X11_79 rfl 11 (hK.size hr) dX11_giveShares_8 rfl (hK.listOb (r := r) hr).choose_spec rfl rfl (Nat.le_of_ble_eq_true rfl) (Nat.zero_le _) (Nat.zero_le _) (fun r h2 hp => ?_)
      obtain ⟨rfl, rfl⟩ := hp
      refine J.icmp_ge 53 14 dX11_giveShares_11 (by decide) rfl (fun c1 => ?_) (fun c1 => ?_)
      · skip
        have hk : k = (L r).length := Nat.le_antisymm g1 ((nI_leI (by omega) (by omega)).mp (by have z := c1; rw [e4] at z; exact z))
        refine J.iload_n 54 dX11_giveShares_53 rfl rfl ?_
        exact J.iret dX11_giveShares_54 rfl (by rw [← hpost]; exact ⟨by rw [e3, hk], by rw [← hk, ← eSx]; exact hK, hF⟩)
      · skip
        have hk : k < (L r).length := Nat.lt_of_not_le (fun y => c1 (by rw [e4]; exact nI_le y (by omega)))
        have hin : vp_in x4 1000 := by rw [e4]; exact vp_in_nI (by omega) (by decide)
        refine J.aload_n 15 dX11_giveShares_14 rfl rfl ?_
        refine J.iload 17 dX11_giveShares_15 rfl rfl ?_
        obtain ⟨y, hy⟩ : ∃ y, (L r)[k]? = some y := ⟨_, List.getElem?_eq_getElem hk⟩
        have kg := hK.get (d := d) hr hy
        rw [← e4] at kg
        rw [hek] at kg
        refine cv_X11_132 rfl 20 kg dX11_giveShares_17 rfl (hK.listOb (r := r) hr).choose_spec rfl rfl (Nat.le_of_ble_eq_true rfl) (Nat.zero_le _) (Nat.zero_le _) (fun r h2 hp => ?_)
        obtain ⟨rfl, rfl⟩ := hp
        refine cc_X11_95 rfl 23 dX11_giveShares_20 rfl (hK.load (hK.mem6 hr hek hy)) ?_
        refine J.ast_5 25 dX11_giveShares_23 rfl (by decide) ?_
        refine J.aload 27 dX11_giveShares_25 rfl rfl ?_
        refine J.iload_n 28 dX11_giveShares_27 rfl rfl ?_
        refine J.aload 30 dX11_giveShares_28 rfl rfl ?_
        refine gf_X11_313 rfl 33 dX11_giveShares_30 rfl (hK.load (hK.mem6 hr hek hy)) (v := .int (Sx.2 18 y)) rfl ?_
        refine J.imul 34 dX11_giveShares_33 rfl ?_
        refine J.iload_n 35 dX11_giveShares_34 rfl rfl ?_
        refine J.idiv 36 dX11_giveShares_35 rfl ha ?_
        refine pf_X11_227 rfl 39 dX11_giveShares_36 rfl (hK.load (hK.mem6 hr hek hy)) (Nat.le_of_ble_eq_true rfl) ?_
        refine ks_6_12 (hK.mem6 hr hek hy) hK hF (fun h hK hF => ?_)
        refine J.iload_n 40 dX11_giveShares_39 rfl rfl ?_
        refine J.aload 42 dX11_giveShares_40 rfl rfl ?_
        refine gf_X11_227 rfl 45 dX11_giveShares_42 rfl (hK.load (hK.mem6 hr hek hy)) (v := .int (upd (Sx.2 27) y ((q * (Sx.2 18 y)) / a) y)) rfl ?_
        refine J.iadd 46 dX11_giveShares_45 rfl ?_
        refine J.ist_3 47 dX11_giveShares_46 rfl (by decide) ?_
        refine J.iinc_4 1 50 dX11_giveShares_47 rfl (by decide) (by decide) ?_
        refine J.goto 5 dX11_giveShares_50 (by decide) ?_
        refine J.fg_5 ?_
        exact ih (k + 1) _ _ (by omega) (by omega) (by rw [e4]; exact nI_1 k) _ (by rw [gsN, getD_of hy, eSx]) (by rw [gsN, getD_of hy, e3, eSx, pk_us]) _ hK hF
  exact loop5 ((L r).length + 1) 0 _ _ (Nat.zero_le _) (by omega) rfl S rfl rfl _ hK hF
def tkN (S X : MS) (l : List Nat) (f t : Int32) : Nat → MS × MS
  | 0 => (S, X)
  | k + 1 => (((tkN S X l f t k).1.1, u2 (u2 (u2 (tkN S X l f t k).1.2 23 (l.getD k 0) 2) 24 (l.getD k 0) (-1)) 25 (l.getD k 0) f), ((tkN S X l f t k).2.1, u2 (tkN S X l f t k).2.2 0 (l.getD k 0) t))
theorem c_along {G : Nat → Nat} {O : Nat → Prop} {ad : Nat → Nat → Nat} {S X : MS} {L : Nat → List Nat} {wn : Nat → Option Nat} {sl : Nat → Nat} {fl : Nat} {h h0 : AH} {d : Nat} {r : Nat} {f t : Int32} (hK : KR G O ad S X L wn sl fl h) (hF : KF O h0 h) (hr : r < 8 + (L 1).length) (hek : ek r = 6) (hlen : (L r).length ≤ 1000) : Ct Y_X11_takeAlong (d + 3) G 0 0 [.ref (ad 1 r), .int f, .int t] h (fun r2 h2 => r2 = none ∧ KR G O ad (tkN S X (L r) f t (L r).length).1 (tkN S X (L r) f t (L r).length).2 L wn sl fl h2 ∧ KF O h0 h2) := by
  refine Ct.ofn 2 rfl (Nat.le_of_ble_eq_true rfl) (by simp [Value.category]) ?_
  generalize hpost : (fun (r2 : Option Value) (h2 : AH) => r2 = none ∧ KR G O ad (tkN S X (L r) f t (L r).length).1 (tkN S X (L r) f t (L r).length).2 L wn sl fl h2 ∧ KF O h0 h2) = post
  show J Y_X11_takeAlong (d + 3) G 0 0 0 [some (.ref (ad 1 r)), some (.int f), some (.int t), none, none] [] h post
  refine J.iconst 0 1 dX11_takeAlong_0 rfl (by decide) ?_
  refine J.ist_3 2 dX11_takeAlong_1 rfl (by decide) ?_
  have loop2 : ∀ (j k : Nat) (x3 : Int32), k ≤ (L r).length → (L r).length + 1 ≤ k + j → x3 = nI k → ∀ Tx : MS × MS, (Tx = tkN S X (L r) f t k) → ∀ h, KR G O ad Tx.1 Tx.2 L wn sl fl h → KF O h0 h → J Y_X11_takeAlong (d + 3) G 0 0 2 [some (.ref (ad 1 r)), some (.int f), some (.int t), some (.int x3), none] [] h post := by
    intro j
    induction j with
    | zero => intro k _ g1 g2; exact absurd g2 (by omega)
    | succ j ih =>
      intro k x3 g1 g2 e3 Tx eT h hK hF
      have q3 : x3.toNatClampNeg = k := by rw [e3]; exact nI_clamp (by omega)
      refine J.iload_n 3 dX11_takeAlong_2 rfl rfl ?_
      refine J.aload_n 4 dX11_takeAlong_3 rfl rfl ?_
      refine cv_X11_79 rfl 7 (hK.size hr) dX11_takeAlong_4 rfl (hK.listOb (r := r) hr).choose_spec rfl rfl (Nat.le_of_ble_eq_true rfl) (Nat.zero_le _) (Nat.zero_le _) (fun r h2 hp => ?_)
      obtain ⟨rfl, rfl⟩ := hp
      refine J.icmp_ge 50 10 dX11_takeAlong_7 (by decide) rfl (fun c1 => ?_) (fun c1 => ?_)
      · skip
        have hk : k = (L r).length := Nat.le_antisymm g1 ((nI_leI (by omega) (by omega)).mp (by have z := c1; rw [e3] at z; exact z))
        exact J.vret dX11_takeAlong_50 rfl (by rw [← hpost]; exact ⟨rfl, by rw [← hk, ← eT]; exact hK, hF⟩)
      · skip
        have hk : k < (L r).length := Nat.lt_of_not_le (fun y => c1 (by rw [e3]; exact nI_le y (by omega)))
        have hin : vp_in x3 1000 := by rw [e3]; exact vp_in_nI (by omega) (by decide)
        refine J.aload_n 11 dX11_takeAlong_10 rfl rfl ?_
        refine J.iload_n 12 dX11_takeAlong_11 rfl rfl ?_
        obtain ⟨y, hy⟩ : ∃ y, (L r)[k]? = some y := ⟨_, List.getElem?_eq_getElem hk⟩
        have kg := hK.get (d := d) hr hy
        rw [← e3] at kg
        rw [hek] at kg
        refine cv_X11_132 rfl 15 kg dX11_takeAlong_12 rfl (hK.listOb (r := r) hr).choose_spec rfl rfl (Nat.le_of_ble_eq_true rfl) (Nat.zero_le _) (Nat.zero_le _) (fun r h2 hp => ?_)
        obtain ⟨rfl, rfl⟩ := hp
        refine cc_X11_95 rfl 18 dX11_takeAlong_15 rfl (hK.load (hK.mem6 hr hek hy)) ?_
        refine J.ast_4 20 dX11_takeAlong_18 rfl (by decide) ?_
        refine J.aload 22 dX11_takeAlong_20 rfl rfl ?_
        refine J.iconst 2 23 dX11_takeAlong_22 rfl (by decide) ?_
        refine pf_X11_163 rfl 26 dX11_takeAlong_23 rfl (hK.load (hK.mem6 hr hek hy)) (Nat.le_of_ble_eq_true rfl) ?_
        refine ks_6_7 (hK.mem6 hr hek hy) hK hF (fun h hK hF => ?_)
        refine J.aload 28 dX11_takeAlong_26 rfl rfl ?_
        refine J.iconst (-1) 29 dX11_takeAlong_28 rfl (by decide) ?_
        refine pf_X11_166 rfl 32 dX11_takeAlong_29 rfl (hK.load (hK.mem6 hr hek hy)) (Nat.le_of_ble_eq_true rfl) ?_
        refine ks_6_8 (hK.mem6 hr hek hy) hK hF (fun h hK hF => ?_)
        refine J.aload 34 dX11_takeAlong_32 rfl rfl ?_
        refine J.iload_n 35 dX11_takeAlong_34 rfl rfl ?_
        refine pf_X11_217 rfl 38 dX11_takeAlong_35 rfl (hK.load (hK.mem6 hr hek hy)) (Nat.le_of_ble_eq_true rfl) ?_
        refine ks_6_9 (hK.mem6 hr hek hy) hK hF (fun h hK hF => ?_)
        refine J.aload 40 dX11_takeAlong_38 rfl rfl ?_
        refine J.iload_n 41 dX11_takeAlong_40 rfl rfl ?_
        refine pf_X11_375 rfl 44 dX11_takeAlong_41 rfl (hK.load (hK.mem6 hr hek hy)) (Nat.le_of_ble_eq_true rfl) ?_
        refine ks_6_10 (hK.mem6 hr hek hy) hK hF (fun h hK hF => ?_)
        refine J.iinc_3 1 47 dX11_takeAlong_44 rfl (by decide) (by decide) ?_
        refine J.goto 2 dX11_takeAlong_47 (by decide) ?_
        refine J.fg_4 ?_
        exact ih (k + 1) _ (by omega) (by omega) (by rw [e3]; exact nI_1 k) (((Tx.1).1, u2 (u2 (u2 (Tx.1).2 23 y 2) 24 y (-1)) 25 y f), ((Tx.2).1, u2 (Tx.2).2 0 y t)) (by rw [tkN, getD_of hy, eT]) _ hK hF
  exact loop2 ((L r).length + 1) 0 _ (Nat.zero_le _) (by omega) rfl (S, X) rfl _ hK hF
