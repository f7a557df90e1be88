/-! the component's pile as a list -/
def picX (l : List Int32) (X : MS) : Prop := X.1 0 = nI l.length ∧ ∀ j, j < l.length → X.2 2 j = l.getD (l.length - 1 - j) 0
def xR (T X : MS) : Prop := (∀ k, k ≠ 0 → X.1 k = T.1 k) ∧ ∀ k, k ≠ 2 → X.2 k = T.2 k
theorem xR.refl {T : MS} : xR T T := ⟨fun _ _ => rfl, fun _ _ => rfl⟩
theorem xR.trans {T X Y : MS} (h : xR T X) (h2 : xR X Y) : xR T Y := ⟨fun k hk => (h2.1 k hk).trans (h.1 k hk), fun k hk => (h2.2 k hk).trans (h.2 k hk)⟩
theorem xR.lay {T X : MS} {v : Int32} (h : xR T X) : xR T (x_lay X v) := ⟨fun k hk => by show vf_upd X.1 0 _ k = _; rw [vf_upd, if_neg hk]; exact h.1 k hk, fun k hk => (u2_n hk).trans (h.2 k hk)⟩
theorem xR.take {T X : MS} (h : xR T X) : xR T (x_take X) := ⟨fun k hk => by show vf_upd X.1 0 _ k = _; rw [vf_upd, if_neg hk]; exact h.1 k hk, h.2⟩
theorem picX.lay {l : List Int32} {X : MS} {v : Int32} (h : picX l X) (hl : l.length < 100) : picX (v :: l) (x_lay X v) := by
  obtain ⟨h1, h2⟩ := h
  refine ⟨?_, fun j hj => ?_⟩
  · show vf_upd X.1 0 (X.1 0 + 1) 0 = _
    rw [vf_upd, if_pos rfl, h1, nI_1, List.length_cons]
  · show u2 X.2 2 (X.1 0).toNatClampNeg v 2 j = _
    rw [u2_s, h1, nI_clamp (by omega)]
    rw [List.length_cons] at hj ⊢
    by_cases e : j = l.length
    · rw [e, pk_us, show l.length + 1 - 1 - l.length = 0 from by omega]
      rfl
    · rw [pk_un e, h2 j (by omega), show l.length + 1 - 1 - j = (l.length - 1 - j) + 1 from by omega]
      rfl
theorem picX.take {l : List Int32} {X : MS} {v : Int32} (h : picX (v :: l) X) (hl : l.length < 100) : X.2 2 l.length = v ∧ picX l (x_take X) := by
  obtain ⟨h1, h2⟩ := h
  rw [List.length_cons] at h1 h2
  have e : X.1 0 - 1 = nI l.length := by rw [h1, nI_pred]
  refine ⟨?_, ?_, fun j hj => ?_⟩
  · rw [h2 _ (by omega), show l.length + 1 - 1 - l.length = 0 from by omega]
    rfl
  · show vf_upd X.1 0 (X.1 0 - 1) 0 = _
    rw [vf_upd, if_pos rfl, e]
  · show X.2 2 j = _
    rw [h2 j (by omega), show l.length + 1 - 1 - j = (l.length - 1 - j) + 1 from by omega]
    rfl
section CLT
variable {G : Nat → Nat} {O : Nat → Prop} {ad : Nat → Nat → Nat} {S X : MS} {L : Nat → List Nat} {wn : Nat → Option Nat} {sl : Nat → Nat} {fl : Nat} {h h0 : AH} {d : Nat}
theorem c_layL {v : Int32} {l : List Int32} (hK : KR G O ad S X L wn sl fl h) (hF : KF O h0 h) (hp : picX l X) (hl : l.length < 20) : Ct Y_X8_lay d G 0 0 [.ref (ad 12 0), .int v] h (fun r h2 => r = none ∧ KR G O ad S (x_lay X v) L wn sl fl h2 ∧ KF O h0 h2) := c_lay hK hF hp.1 hl
theorem c_takeL {v : Int32} {l : List Int32} (hK : KR G O ad S X L wn sl fl h) (hF : KF O h0 h) (hp : picX (v :: l) X) (hl : l.length < 20) : Ct Y_X8_take d G 0 0 [.ref (ad 12 0)] h (fun r h2 => r = some (.int v) ∧ KR G O ad S (x_take X) L wn sl fl h2 ∧ KF O h0 h2) := by
  have z := c_take (d := d) hK hF hp.1 hl
  rw [(hp.take (by omega)).1] at z
  exact z
end CLT
/-! a rule's steps, worked out on a list -/
def nmV (nm : Nat → Int32) (x : Int32) : Int32 := if ¬ x < 0 ∧ ¬ 11 ≤ x then nm x.toNatClampNeg else 0
def wk1 (nm : Nat → Int32) (s : Int32) (l : List Int32) : List Int32 := if s < 1000 then s :: l else if s < 2000 then nmV nm (s - 1000) :: l else if s = 2033 then (if l.headD 0 = 0 then 1 else 0) :: l.tail else m_both (s - 2000) (l.tail.headD 0) (l.headD 0) :: l.tail.tail
def wkN (nm b : Nat → Int32) : Nat → List Int32
  | 0 => []
  | k + 1 => wk1 nm (b k) (wkN nm b k)
def wkL (b : Nat → Int32) : Nat → Nat
  | 0 => 0
  | k + 1 => if b k < 2000 then wkL b k + 1 else if b k = 2033 then wkL b k else wkL b k - 1
def wkOK (b : Nat → Int32) (q : Nat) : Prop := (∀ k, k < q → wkL b k ≤ 20 ∧ (b k < 2000 → wkL b k < 20) ∧ (¬ b k < 2000 → b k = 2033 → 1 ≤ wkL b k) ∧ (¬ b k < 2000 → ¬ b k = 2033 → 2 ≤ wkL b k)) ∧ 1 ≤ wkL b q ∧ wkL b q ≤ 20
theorem wkN_len {nm b : Nat → Int32} {q : Nat} (h : wkOK b q) : ∀ k, k ≤ q → (wkN nm b k).length = wkL b k
  | 0, _ => rfl
  | k + 1, hk => by
    have ih := wkN_len (nm := nm) h k (by omega)
    obtain ⟨h1, h2, h3, h4⟩ := h.1 k (by omega)
    simp only [wkN, wk1, wkL]
    by_cases e1 : b k < 1000
    · have e2 : b k < 2000 := Int32.lt_trans e1 (by decide)
      rw [if_pos e1, if_pos e2, List.length_cons, ih]
    · by_cases e2 : b k < 2000
      · rw [if_neg e1, if_pos e2, if_pos e2, List.length_cons, ih]
      · by_cases e3 : b k = 2033
        · have := h3 e2 e3
          rw [if_neg e1, if_neg e2, if_pos e3, if_neg e2, if_pos e3, List.length_cons, List.length_tail, ih]
          omega
        · have := h4 e2 e3
          rw [if_neg e1, if_neg e2, if_neg e3, if_neg e2, if_neg e3, List.length_cons, List.length_tail, List.length_tail, ih]
          omega
def szn (X : MS) (i : Nat) : Nat := (X.2 8 i).toNatClampNeg
def evC (X : MS) (i : Nat) : Int32 := (wkN (X.2 1) (X.2 (100 + i)) (szn X i)).headD 0
def ruOK (X : MS) (sl : Nat → Nat) (i : Nat) : Prop := X.2 8 i = nI (szn X i) ∧ szn X i ≤ sl i ∧ sl i ≤ 100 ∧ wkOK (X.2 (100 + i)) (szn X i)
theorem cons_of {l : List Int32} (h : 1 ≤ l.length) : ∃ v r, l = v :: r := by
  match l, h with
  | v :: r, _ => exact ⟨v, r, rfl⟩
theorem cons2_of {l : List Int32} (h : 2 ≤ l.length) : ∃ v w r, l = v :: w :: r := by
  match l, h with
  | v :: w :: r, _ => exact ⟨v, w, r, rfl⟩
theorem nm_in {x : Int32} (h1 : ¬ x < 0) (h2 : ¬ 11 ≤ x) : vp_in x 11 := by
  obtain ⟨j, hj, rfl⟩ := nI_of h1
  exact vp_in_nI (Nat.lt_of_not_le (fun z => h2 (nI_le (a := 11) z (by omega)))) (by decide)
theorem c_workOut {G : Nat → Nat} {O : Nat → Prop} {ad : Nat → Nat → Nat} {S X : MS} {L : Nat → List Nat} {wn : Nat → Option Nat} {sl : Nat → Nat} {fl : Nat} {h h0 : AH} {d : Nat} {X0 : MS} {i q : Nat} (hK : KR G O ad S X L wn sl fl h) (hF : KF O h0 h) (hx0 : xR X0 X) (hi : i < (L 6).length) (hq : X0.2 8 i = nI q) (hql : q ≤ sl i) (hsl : sl i ≤ 100) (hok : wkOK (X0.2 (100 + i)) q) : Ct Y_X8_workOut (d + 1) G 0 0 [.ref (ad 12 0), .ref (ad 8 i)] h (fun r h2 => r = some (.int ((wkN (X0.2 1) (X0.2 (100 + i)) q).headD 0)) ∧ ∃ X2, xR X0 X2 ∧ KR G O ad S X2 L wn sl fl h2 ∧ KF O h0 h2) := by
  refine Ct.ofn 3 rfl (Nat.le_of_ble_eq_true rfl) (by simp [Value.category]) ?_
  generalize hpost : (fun (r : Option Value) (h2 : AH) => r = some (.int ((wkN (X0.2 1) (X0.2 (100 + i)) q).headD 0)) ∧ ∃ X2, xR X0 X2 ∧ KR G O ad S X2 L wn sl fl h2 ∧ KF O h0 h2) = post
  show J Y_X8_workOut (d + 1) G 0 0 0 [some (.ref (ad 12 0)), some (.ref (ad 8 i)), none, none, none] [] h post
  refine J.aload_n 1 dX8_workOut_0 rfl rfl ?_
  refine J.iconst 0 2 dX8_workOut_1 rfl (by decide) ?_
  refine pf_X8_91 rfl 5 dX8_workOut_2 rfl (hK.book) (Nat.le_of_ble_eq_true rfl) ?_
  refine ks_12_3 hK hF (fun h hK hF => ?_)
  refine J.iconst 0 6 dX8_workOut_5 rfl (by decide) ?_
  refine J.ist_2 7 dX8_workOut_6 rfl (by decide) ?_
  have loop7 : ∀ (j k : Nat) (x2 : Int32), k ≤ q → q + 1 ≤ k + j → x2 = nI k → ∀ Xx : MS, (picX (wkN (X0.2 1) (X0.2 (100 + i)) k) Xx) → (xR X0 Xx) → ∀ h, KR G O ad S Xx L wn sl fl h → KF O h0 h → J Y_X8_workOut (d + 1) G 0 0 7 [some (.ref (ad 12 0)), some (.ref (ad 8 i)), some (.int x2), none, none] [] h post := by
    intro j
    induction j with
    | zero => intro k _ g1 g2; exact absurd g2 (by omega)
    | succ j ih =>
      intro k x2 g1 g2 e2 Xx hp hxr h hK hF
      have q2 : x2.toNatClampNeg = k := by rw [e2]; exact nI_clamp (by omega)
      have hsz : Xx.2 8 i = nI q := by rw [hxr.2 8 (by decide)]; exact hq
      refine J.iload_n 8 dX8_workOut_7 rfl rfl ?_
      refine J.aload_n 9 dX8_workOut_8 rfl rfl ?_
      refine gf_X8_94 rfl 12 dX8_workOut_9 rfl (hK.rule hi) (v := .int (Xx.2 8 i)) rfl ?_
      refine J.icmp_ge 116 15 dX8_workOut_12 (by decide) rfl (fun c1 => ?_) (fun c1 => ?_)
      · skip
        have hk : k = q := Nat.le_antisymm g1 ((nI_leI (by omega) (by omega)).mp (by have z := c1; rw [e2, hsz] at z; exact z))
        refine J.aload_n 117 dX8_workOut_116 rfl rfl ?_
        obtain ⟨v1, l1, hl1⟩ := cons_of (l := wkN (X0.2 1) (X0.2 (100 + i)) q) (by rw [wkN_len hok q (Nat.le_refl _)]; exact hok.2.1)
        rw [hk, hl1] at hp
        have hwq := wkN_len (nm := X0.2 1) hok q (Nat.le_refl _)
        rw [hl1, List.length_cons] at hwq
        have hwq2 := hok.2.2
        refine cv_X8_106 rfl 120 (c_takeL (h0 := h0) (v := v1) (l := l1) hK hF hp (by omega)) dX8_workOut_117 rfl (hK.book) rfl rfl (Nat.le_of_ble_eq_true rfl) (Nat.zero_le _) (Nat.zero_le _) (fun r h hp => ?_)
        obtain ⟨rfl, hK, hF⟩ := hp
        exact J.iret dX8_workOut_120 rfl (by rw [← hpost]; exact ⟨by rw [hl1]; rfl, _, hxr.take, hK, hF⟩)
      · skip
        have hk : k < q := Nat.lt_of_not_le (fun y => c1 (by rw [e2, hsz]; exact nI_le y (by omega)))
        have hin : vp_in x2 100 := by rw [e2]; exact vp_in_nI (by omega) (by decide)
        have hwl := wkN_len (nm := X0.2 1) hok k (by omega)
        obtain ⟨o1, o2, o3, o4⟩ := hok.1 k hk
        have hin2 : vp_in x2 (sl i) := by rw [e2]; exact vp_in_nI (by omega) (by omega)
        refine J.aload_n 16 dX8_workOut_15 rfl rfl ?_
        refine gf_X8_96 rfl 19 dX8_workOut_16 rfl (hK.rule hi) (v := .ref (ad 9 i)) rfl ?_
        refine J.iload_n 20 dX8_workOut_19 rfl rfl ?_
        refine J.iald2 k q2 (x := X0.2 (100 + i) k) (congrFun (hxr.2 (100 + i) (by omega)) _) 21 dX8_workOut_20 rfl (hK.steps hi) hin2 ?_
        refine J.ist_3 22 dX8_workOut_21 rfl (by decide) ?_
        refine J.iload_n 23 dX8_workOut_22 rfl rfl ?_
        refine J.sipush 1000 26 dX8_workOut_23 rfl (by decide) ?_
        refine J.icmp_ge 37 29 dX8_workOut_26 (by decide) rfl (fun c2 => ?_) (fun c2 => ?_)
        · skip
          refine J.iload_n 38 dX8_workOut_37 rfl rfl ?_
          refine J.sipush 2000 41 dX8_workOut_38 rfl (by decide) ?_
          refine J.icmp_ge 60 44 dX8_workOut_41 (by decide) rfl (fun c3 => ?_) (fun c3 => ?_)
          · skip
            refine J.iload_n 61 dX8_workOut_60 rfl rfl ?_
            refine J.sipush 2033 64 dX8_workOut_61 rfl (by decide) ?_
            refine J.icmp_ne 86 67 dX8_workOut_64 (by decide) rfl (fun c4 => ?_) (fun c4 => ?_)
            · skip
              obtain ⟨v1, v2, l2, hl2⟩ := cons2_of (l := wkN (X0.2 1) (X0.2 (100 + i)) k) (by rw [hwl]; exact o4 (Int32.not_lt.mpr (by assumption)) c4)
              refine J.aload_n 87 dX8_workOut_86 rfl rfl ?_
              rw [hl2] at hp hwl
              refine cv_X8_106 rfl 90 (c_takeL (h0 := h0) (v := v1) (l := v2 :: l2) hK hF hp (by simp only [List.length_cons] at hwl ⊢; omega)) dX8_workOut_87 rfl (hK.book) rfl rfl (Nat.le_of_ble_eq_true rfl) (Nat.zero_le _) (Nat.zero_le _) (fun r h hp => ?_)
              obtain ⟨rfl, hK, hF⟩ := hp
              have hp1 := (hp.take (by simp only [List.length_cons] at hwl ⊢; omega)).2
              refine J.ist_4 92 dX8_workOut_90 rfl (by decide) ?_
              refine J.aload_n 93 dX8_workOut_92 rfl rfl ?_
              refine J.iload_n 94 dX8_workOut_93 rfl rfl ?_
              refine J.sipush 2000 97 dX8_workOut_94 rfl (by decide) ?_
              refine J.isub 98 dX8_workOut_97 rfl ?_
              refine J.aload_n 99 dX8_workOut_98 rfl rfl ?_
              refine cv_X8_106 rfl 102 (c_takeL (h0 := h0) (v := v2) (l := l2) hK hF hp1 (by simp only [List.length_cons] at hwl; omega)) dX8_workOut_99 rfl (hK.book) rfl rfl (Nat.le_of_ble_eq_true rfl) (Nat.zero_le _) (Nat.zero_le _) (fun r h hp => ?_)
              obtain ⟨rfl, hK, hF⟩ := hp
              have hp2 := (hp1.take (by simp only [List.length_cons] at hwl; omega)).2
              refine J.iload 104 dX8_workOut_102 rfl rfl ?_
              refine cs_X8_109 rfl 107 (c_joined (c := (X0.2 (100 + i) k) - 2000) (a := v2) (b := v1) _ _) dX8_workOut_104 rfl rfl rfl (Nat.le_of_ble_eq_true rfl) (Nat.zero_le _) (Nat.zero_le _) (fun r h2 hp => ?_)
              obtain ⟨rfl, rfl⟩ := hp
              refine cv_X8_99 rfl 110 (c_layL (h0 := h0) (v := m_both ((X0.2 (100 + i) k) - 2000) v2 v1) hK hF hp2 (by simp only [List.length_cons] at hwl; omega)) dX8_workOut_107 rfl (hK.book) rfl rfl (Nat.le_of_ble_eq_true rfl) (Nat.zero_le _) (Nat.zero_le _) (fun r h hp => ?_)
              obtain ⟨rfl, hK, hF⟩ := hp
              refine J.iinc_2 1 113 dX8_workOut_110 rfl (by decide) (by decide) ?_
              refine J.goto 7 dX8_workOut_113 (by decide) ?_
              refine J.fg_3 ?_
              refine J.fg_4 ?_
              exact ih (k + 1) _ (by omega) (by omega) (by rw [e2]; exact nI_1 k) _ (by rw [wkN, wk1, if_neg (Int32.not_lt.mpr c2), if_neg (Int32.not_lt.mpr c3), if_neg c4, hl2]; exact hp2.lay (by simp only [List.length_cons] at hwl; omega)) hxr.take.take.lay _ hK hF
            · skip
              obtain ⟨v1, l1, hl1⟩ := cons_of (l := wkN (X0.2 1) (X0.2 (100 + i)) k) (by rw [hwl]; exact o3 (Int32.not_lt.mpr (by assumption)) c4)
              refine J.aload_n 68 dX8_workOut_67 rfl rfl ?_
              refine J.aload_n 69 dX8_workOut_68 rfl rfl ?_
              rw [hl1] at hp hwl
              refine cv_X8_106 rfl 72 (c_takeL (h0 := h0) (v := v1) (l := l1) hK hF hp (by simp only [List.length_cons] at hwl; omega)) dX8_workOut_69 rfl (hK.book) rfl rfl (Nat.le_of_ble_eq_true rfl) (Nat.zero_le _) (Nat.zero_le _) (fun r h hp => ?_)
              obtain ⟨rfl, hK, hF⟩ := hp
              have hp1 := (hp.take (by simp only [List.length_cons] at hwl; omega)).2
              refine J.if_ne 79 75 dX8_workOut_72 (by decide) rfl (fun c5 => ?_) (fun c5 => ?_)
              · skip
                refine J.iconst 0 80 dX8_workOut_79 rfl (by decide) ?_
                refine cv_X8_99 rfl 83 (c_layL (h0 := h0) (v := 0) hK hF hp1 (by simp only [List.length_cons] at hwl; omega)) dX8_workOut_80 rfl (hK.book) rfl rfl (Nat.le_of_ble_eq_true rfl) (Nat.zero_le _) (Nat.zero_le _) (fun r h hp => ?_)
                obtain ⟨rfl, hK, hF⟩ := hp
                refine J.goto 110 dX8_workOut_83 (by decide) ?_
                refine J.iinc_2 1 113 dX8_workOut_110 rfl (by decide) (by decide) ?_
                refine J.goto 7 dX8_workOut_113 (by decide) ?_
                refine J.fg_3 ?_
                exact ih (k + 1) _ (by omega) (by omega) (by rw [e2]; exact nI_1 k) _ (by rw [wkN, wk1, if_neg (Int32.not_lt.mpr c2), if_neg (Int32.not_lt.mpr c3), if_pos c4, hl1, show (v1 :: l1).headD 0 = v1 from rfl, if_neg c5]; exact hp1.lay (by simp only [List.length_cons] at hwl; omega)) hxr.take.lay _ hK hF
              · skip
                refine J.iconst 1 76 dX8_workOut_75 rfl (by decide) ?_
                refine J.goto 80 dX8_workOut_76 (by decide) ?_
                refine cv_X8_99 rfl 83 (c_layL (h0 := h0) (v := 1) hK hF hp1 (by simp only [List.length_cons] at hwl; omega)) dX8_workOut_80 rfl (hK.book) rfl rfl (Nat.le_of_ble_eq_true rfl) (Nat.zero_le _) (Nat.zero_le _) (fun r h hp => ?_)
                obtain ⟨rfl, hK, hF⟩ := hp
                refine J.goto 110 dX8_workOut_83 (by decide) ?_
                refine J.iinc_2 1 113 dX8_workOut_110 rfl (by decide) (by decide) ?_
                refine J.goto 7 dX8_workOut_113 (by decide) ?_
                refine J.fg_3 ?_
                exact ih (k + 1) _ (by omega) (by omega) (by rw [e2]; exact nI_1 k) _ (by rw [wkN, wk1, if_neg (Int32.not_lt.mpr c2), if_neg (Int32.not_lt.mpr c3), if_pos c4, hl1, show (v1 :: l1).headD 0 = v1 from rfl, if_pos c5]; exact hp1.lay (by simp only [List.length_cons] at hwl; omega)) hxr.take.lay _ hK hF
          · skip
            have hz := o2 (Int32.not_le.mp c3)
            refine J.aload_n 45 dX8_workOut_44 rfl rfl ?_
            refine J.aload_n 46 dX8_workOut_45 rfl rfl ?_
            refine J.iload_n 47 dX8_workOut_46 rfl rfl ?_
            refine J.sipush 1000 50 dX8_workOut_47 rfl (by decide) ?_
            refine J.isub 51 dX8_workOut_50 rfl ?_
            have kn := c_named (d := d) (x := (X0.2 (100 + i) k) - 1000) hK (fun a b => nm_in a b)
            rw [hxr.2 1 (by decide)] at kn
            refine cv_X8_103 rfl 54 kn dX8_workOut_51 rfl (hK.book) rfl rfl (Nat.le_of_ble_eq_true rfl) (Nat.zero_le _) (Nat.zero_le _) (fun r h2 hp => ?_)
            obtain ⟨rfl, rfl⟩ := hp
            refine cv_X8_99 rfl 57 (c_layL (h0 := h0) (v := nmV (X0.2 1) ((X0.2 (100 + i) k) - 1000)) hK hF hp (by omega)) dX8_workOut_54 rfl (hK.book) rfl rfl (Nat.le_of_ble_eq_true rfl) (Nat.zero_le _) (Nat.zero_le _) (fun r h hp => ?_)
            obtain ⟨rfl, hK, hF⟩ := hp
            refine J.goto 110 dX8_workOut_57 (by decide) ?_
            refine J.iinc_2 1 113 dX8_workOut_110 rfl (by decide) (by decide) ?_
            refine J.goto 7 dX8_workOut_113 (by decide) ?_
            refine J.fg_3 ?_
            exact ih (k + 1) _ (by omega) (by omega) (by rw [e2]; exact nI_1 k) _ (by rw [wkN, wk1, if_neg (Int32.not_lt.mpr c2), if_pos (Int32.not_le.mp c3)]; exact hp.lay (by omega)) hxr.lay _ hK hF
        · skip
          have hz := o2 (Int32.lt_trans (Int32.not_le.mp c2) (by decide))
          refine J.aload_n 30 dX8_workOut_29 rfl rfl ?_
          refine J.iload_n 31 dX8_workOut_30 rfl rfl ?_
          refine cv_X8_99 rfl 34 (c_layL (h0 := h0) (v := X0.2 (100 + i) k) hK hF hp (by omega)) dX8_workOut_31 rfl (hK.book) rfl rfl (Nat.le_of_ble_eq_true rfl) (Nat.zero_le _) (Nat.zero_le _) (fun r h hp => ?_)
          obtain ⟨rfl, hK, hF⟩ := hp
          refine J.goto 110 dX8_workOut_34 (by decide) ?_
          refine J.iinc_2 1 113 dX8_workOut_110 rfl (by decide) (by decide) ?_
          refine J.goto 7 dX8_workOut_113 (by decide) ?_
          refine J.fg_3 ?_
          exact ih (k + 1) _ (by omega) (by omega) (by rw [e2]; exact nI_1 k) _ (by rw [wkN, wk1, if_pos (Int32.not_le.mp c2)]; exact hp.lay (by omega)) hxr.lay _ hK hF
  exact loop7 (q + 1) 0 _ (Nat.zero_le _) (by omega) rfl (vf_upd X.1 0 0, X.2) ⟨rfl, fun j hj => absurd hj (Nat.not_lt_zero _)⟩ (hx0.trans ⟨fun k hk => if_neg hk, fun _ _ => rfl⟩) _ hK hF
def fbN (X : MS) : Nat → Nat → Int32
  | 0, _ => -1
  | j + 1, k => if evC X k = 0 then nI k else fbN X j (k + 1)
theorem c_firstBroken {G : Nat → Nat} {O : Nat → Prop} {ad : Nat → Nat → Nat} {S X : MS} {L : Nat → List Nat} {wn : Nat → Option Nat} {sl : Nat → Nat} {fl : Nat} {h h0 : AH} {d : Nat} {X0 : MS} (hK : KR G O ad S X L wn sl fl h) (hF : KF O h0 h) (hx0 : xR X0 X) (h6r : L 6 = List.range (L 6).length) (hb6 : (L 6).length ≤ 10) (hru : ∀ i, i < (L 6).length → ruOK X0 sl i) : Ct Y_X8_firstBroken (d + 3) G 0 0 [.ref (ad 12 0)] h (fun r h2 => r = some (.int (fbN X0 (L 6).length 0)) ∧ ∃ X2, xR X0 X2 ∧ KR G O ad S X2 L wn sl fl h2 ∧ KF O h0 h2) := by
  refine Ct.ofn 1 rfl (Nat.le_of_ble_eq_true rfl) (by simp [Value.category]) ?_
  generalize hpost : (fun (r : Option Value) (h2 : AH) => r = some (.int (fbN X0 (L 6).length 0)) ∧ ∃ X2, xR X0 X2 ∧ KR G O ad S X2 L wn sl fl h2 ∧ KF O h0 h2) = post
  show J Y_X8_firstBroken (d + 3) G 0 0 0 [some (.ref (ad 12 0)), none] [] h post
  refine J.iconst 0 1 dX8_firstBroken_0 rfl (by decide) ?_
  refine J.ist_1 2 dX8_firstBroken_1 rfl (by decide) ?_
  have loop2 : ∀ (j k : Nat) (x1 : Int32), k ≤ (L 6).length → (L 6).length + 1 ≤ k + j → x1 = nI k → ∀ Xx : MS, (xR X0 Xx) → (fbN X0 ((L 6).length - k) k = fbN X0 (L 6).length 0) → ∀ h, KR G O ad S Xx L wn sl fl h → KF O h0 h → J Y_X8_firstBroken (d + 3) G 0 0 2 [some (.ref (ad 12 0)), some (.int x1)] [] h post := by
    intro j
    induction j with
    | zero => intro k _ g1 g2; exact absurd g2 (by omega)
    | succ j ih =>
      intro k x1 g1 g2 e1 Xx hxr hL h hK hF
      have q1 : x1.toNatClampNeg = k := by rw [e1]; exact nI_clamp (by omega)
      refine J.iload_n 3 dX8_firstBroken_2 rfl rfl ?_
      refine J.aload_n 4 dX8_firstBroken_3 rfl rfl ?_
      refine gf_X8_12 rfl 7 dX8_firstBroken_4 rfl (hK.book) (v := .ref (ad 1 6)) rfl ?_
      refine cv_X8_62 rfl 10 (hK.size (by omega)) dX8_firstBroken_7 rfl (hK.listOb (by omega)).choose_spec rfl rfl (Nat.le_of_ble_eq_true rfl) (Nat.zero_le _) (Nat.zero_le _) (fun r h2 hp => ?_)
      obtain ⟨rfl, rfl⟩ := hp
      refine J.icmp_ge 39 13 dX8_firstBroken_10 (by decide) rfl (fun c1 => ?_) (fun c1 => ?_)
      · skip
        have hk : k = (L 6).length := Nat.le_antisymm g1 ((nI_leI (by omega) (by omega)).mp (by have z := c1; rw [e1] at z; exact z))
        refine J.iconst (-1) 40 dX8_firstBroken_39 rfl (by decide) ?_
        exact J.iret dX8_firstBroken_40 rfl (by rw [← hpost]; exact ⟨by rw [← hL, hk, Nat.sub_self]; rfl, _, hxr, hK, hF⟩)
      · skip
        have hk : k < (L 6).length := Nat.lt_of_not_le (fun y => c1 (by rw [e1]; exact nI_le y (by omega)))
        have hin : vp_in x1 10 := by rw [e1]; exact vp_in_nI (by omega) (by decide)
        refine J.aload_n 14 dX8_firstBroken_13 rfl rfl ?_
        refine J.aload_n 15 dX8_firstBroken_14 rfl rfl ?_
        refine gf_X8_12 rfl 18 dX8_firstBroken_15 rfl (hK.book) (v := .ref (ad 1 6)) rfl ?_
        refine J.iload_n 19 dX8_firstBroken_18 rfl rfl ?_
        have kg := hK.get (d := d) (r := 6) (i := k) (by omega) (rng_get h6r hk)
        rw [← e1] at kg
        refine cv_X8_65 rfl 22 kg dX8_firstBroken_19 rfl (hK.listOb (by omega)).choose_spec rfl rfl (Nat.le_of_ble_eq_true rfl) (Nat.zero_le _) (Nat.zero_le _) (fun r h2 hp => ?_)
        obtain ⟨rfl, rfl⟩ := hp
        refine cc_X8_69 rfl 25 dX8_firstBroken_22 rfl (hK.rule hk) ?_
        obtain ⟨r1, r2, r3, r4⟩ := hru k hk
        refine cv_X8_71 rfl 28 (c_workOut (h0 := h0) (X0 := X0) (i := k) (q := szn X0 k) hK hF hxr hk r1 r2 r3 r4) dX8_firstBroken_25 rfl (hK.book) rfl rfl (Nat.le_of_ble_eq_true rfl) (Nat.zero_le _) (Nat.zero_le _) (fun r h hp => ?_)
        obtain ⟨rfl, X2, hx2, hK, hF⟩ := hp
        refine J.if_ne 33 31 dX8_firstBroken_28 (by decide) rfl (fun c2 => ?_) (fun c2 => ?_)
        · skip
          refine J.iinc_1 1 36 dX8_firstBroken_33 rfl (by decide) (by decide) ?_
          refine J.goto 2 dX8_firstBroken_36 (by decide) ?_
          exact ih (k + 1) _ (by omega) (by omega) (by rw [e1]; exact nI_1 k) _ hx2 (by rw [← hL, show (L 6).length - k = ((L 6).length - (k + 1)) + 1 from by omega, fbN, if_neg (by assumption)]) _ hK hF
        · skip
          refine J.iload_n 32 dX8_firstBroken_31 rfl rfl ?_
          exact J.iret dX8_firstBroken_32 rfl (by rw [← hpost]; exact ⟨by rw [← hL, show (L 6).length - k = ((L 6).length - (k + 1)) + 1 from by omega, fbN, if_pos (by assumption), e1], _, hx2, hK, hF⟩)
  exact loop2 ((L 6).length + 1) 0 _ (Nat.zero_le _) (by omega) rfl X hx0 rfl _ hK hF
