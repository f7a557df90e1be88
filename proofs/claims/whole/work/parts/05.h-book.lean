def a_feedN (S : MS) (v : Int32) : Nat → MS
  | 0 => S
  | k + 1 => (vf_upd (a_feedN S v k).1 30 ((a_feedN S v k).1 30 + 1), u2 (a_feedN S v k).2 29 ((a_feedN S v k).1 30).toNatClampNeg ((v.toUInt32 >>> ((8 * nI k).toUInt32 &&& Int32.toUInt32 31)).toInt32 &&& 255))
theorem a_feedN_30 {S : MS} {v : Int32} {t : Nat} (h : S.1 30 = nI t) : ∀ k, (a_feedN S v k).1 30 = nI (t + k)
  | 0 => h
  | k + 1 => by
    show (a_feedN S v k).1 30 + 1 = _
    rw [a_feedN_30 h k, nI_1]
    rfl
theorem c_write {G : Nat → Nat} {O : Nat → Prop} {ad : Nat → Nat → Nat} {S X : MS} {L : Nat → List Nat} {wn : Nat → Option Nat} {sl : Nat → Nat} {fl : Nat} {h h0 : AH} {d : Nat} {q t : Nat} {v : Int32} (hK : KR G O ad S X L wn sl fl h) (hF : KF O h0 h) (ht : S.1 30 = nI t) (hq : t + q ≤ 60) : Ct Y_X9_write d G 0 0 [.ref (ad 11 0), .int (nI q), .int v] h (fun r h2 => r = none ∧ KR G O ad (a_feedN S v q) X L wn sl fl h2 ∧ KF O h0 h2) := by
  refine Ct.ofn 1 rfl (Nat.le_of_ble_eq_true rfl) (by simp [Value.category]) ?_
  generalize hpost : (fun (r : Option Value) (h2 : AH) => r = none ∧ KR G O ad (a_feedN S v q) X L wn sl fl h2 ∧ KF O h0 h2) = post
  show J Y_X9_write d G 0 0 0 [some (.ref (ad 11 0)), some (.int (nI q)), some (.int v), none] [] h post
  refine J.iconst 0 1 dX9_write_0 rfl (by decide) ?_
  refine J.ist_3 2 dX9_write_1 rfl (by decide) ?_
  have loop2 : ∀ (j k : Nat) (x3 : Int32), k ≤ q → q + 1 ≤ k + j → x3 = nI k → ∀ Sx : MS, (Sx = a_feedN S v k) → ∀ h, KR G O ad Sx X L wn sl fl h → KF O h0 h → J Y_X9_write d G 0 0 2 [some (.ref (ad 11 0)), some (.int (nI q)), some (.int v), some (.int x3)] [] h post := by
    intro j
    induction j with
    | zero => intro k _ g1 g2; exact absurd g2 (by omega)
    | succ j ih =>
      intro k x3 g1 g2 e3 Sx eSx h hK hF
      have q3 : x3.toNatClampNeg = k := by rw [e3]; exact nI_clamp (by omega)
      have h30 : Sx.1 30 = nI (t + k) := by rw [eSx]; exact a_feedN_30 ht k
      refine J.iload_n 3 dX9_write_2 rfl rfl ?_
      refine J.iload_n 4 dX9_write_3 rfl rfl ?_
      refine J.icmp_ge 54 7 dX9_write_4 (by decide) rfl (fun c1 => ?_) (fun c1 => ?_)
      · skip
        have hk : k = q := Nat.le_antisymm g1 ((nI_leI (by omega) (by omega)).mp (by have z := c1; rw [e3] at z; exact z))
        exact J.vret dX9_write_54 rfl (by rw [← hpost]; exact ⟨rfl, by rw [hk] at eSx; rw [← eSx]; exact hK, hF⟩)
      · skip
        have hk : k < q := Nat.lt_of_not_le (fun y => c1 (by rw [e3]; exact nI_le y (by omega)))
        have hin : vp_in x3 60 := by rw [e3]; exact vp_in_nI (by omega) (by decide)
        refine J.aload_n 8 dX9_write_7 rfl rfl ?_
        refine gf_X9_15 rfl 11 dX9_write_8 rfl (hK.tape) (v := .int (Sx.1 30)) rfl ?_
        refine J.aload_n 12 dX9_write_11 rfl rfl ?_
        refine gf_X9_9 rfl 15 dX9_write_12 rfl (hK.tape) (v := .ref (ad 15 3)) rfl ?_
        refine J.alen 16 dX9_write_15 rfl hK.arr3 ?_
        show J _ _ _ _ _ _ _ (.int 60 :: _) _ _
        refine J.icmp_ge 54 19 dX9_write_16 (by decide) rfl (fun c2 => ?_) (fun c2 => ?_)
        · skip
          exact absurd ((nI_leI (a := 60) (b := t + k) (by decide) (by omega)).mp (by rw [← h30]; exact c2)) (by omega)
        · skip
          refine J.aload_n 20 dX9_write_19 rfl rfl ?_
          refine gf_X9_9 rfl 23 dX9_write_20 rfl (hK.tape) (v := .ref (ad 15 3)) rfl ?_
          refine J.aload_n 24 dX9_write_23 rfl rfl ?_
          refine gf_X9_15 rfl 27 dX9_write_24 rfl (hK.tape) (v := .int (Sx.1 30)) rfl ?_
          refine J.iload_n 28 dX9_write_27 rfl rfl ?_
          refine J.bipush 8 30 dX9_write_28 rfl (by decide) ?_
          refine J.iload_n 31 dX9_write_30 rfl rfl ?_
          refine J.imul 32 dX9_write_31 rfl ?_
          refine J.iushr 33 dX9_write_32 rfl ?_
          refine J.sipush 255 36 dX9_write_33 rfl (by decide) ?_
          refine J.iand 37 dX9_write_36 rfl ?_
          refine J.iast2 ((Sx.1 30).toNatClampNeg) rfl 38 dX9_write_37 rfl hK.arr3 (by rw [h30]; exact vp_in_nI (by omega) (by decide)) ?_
          refine ks_15_3 hK hF (fun h hK hF => ?_)
          refine J.aload_n 39 dX9_write_38 rfl rfl ?_
          refine J.dup 40 dX9_write_39 rfl rfl ?_
          refine gf_X9_15 rfl 43 dX9_write_40 rfl (hK.tape) (v := .int (Sx.1 30)) rfl ?_
          refine J.iconst 1 44 dX9_write_43 rfl (by decide) ?_
          refine J.iadd 45 dX9_write_44 rfl ?_
          refine pf_X9_15 rfl 48 dX9_write_45 rfl (hK.tape) (Nat.le_of_ble_eq_true rfl) ?_
          refine ks_11_1 hK hF (fun h hK hF => ?_)
          refine J.iinc_3 1 51 dX9_write_48 rfl (by decide) (by decide) ?_
          refine J.goto 2 dX9_write_51 (by decide) ?_
          exact ih (k + 1) _ (by omega) (by omega) (by rw [e3]; exact nI_1 k) _ (by rw [eSx, e3]; rfl) _ hK hF
  exact loop2 (q + 1) 0 _ (Nat.zero_le _) (by omega) rfl S rfl _ hK hF
def a_feed (S : MS) (q : Nat) (x v : Int32) : Int32 := if ¬ (1 ≤ x ∧ x ≤ 4) then -1 else if 60 < S.1 30 + x then -2 else (a_feedN S v q).1 30
def a_feedS (S : MS) (q : Nat) (x v : Int32) : MS := if ¬ (1 ≤ x ∧ x ≤ 4) ∨ 60 < S.1 30 + x then S else a_feedN S v q
theorem c_feed {G : Nat → Nat} {O : Nat → Prop} {ad : Nat → Nat → Nat} {S X : MS} {L : Nat → List Nat} {wn : Nat → Option Nat} {sl : Nat → Nat} {fl : Nat} {h h0 : AH} {d : Nat} {q t : Nat} {x v : Int32} (hK : KR G O ad S X L wn sl fl h) (hF : KF O h0 h) (hN : (1 ≤ x ∧ x ≤ 4) → x = nI q ∧ q ≤ 4) (ht : S.1 30 = nI t) (ht6 : t ≤ 60) : Ct Y_X11_feed (d + 1) G 0 0 [.ref (ad 0 0), .int x, .int v] h (fun r h2 => r = some (.int (a_feed S q x v)) ∧ KR G O ad (a_feedS S q x v) X L wn sl fl h2 ∧ KF O h0 h2) := by
  refine Ct.ofn 0 rfl (Nat.le_of_ble_eq_true rfl) (by simp [Value.category]) ?_
  generalize hpost : (fun (r : Option Value) (h2 : AH) => r = some (.int (a_feed S q x v)) ∧ KR G O ad (a_feedS S q x v) X L wn sl fl h2 ∧ KF O h0 h2) = post
  show J Y_X11_feed (d + 1) G 0 0 0 [some (.ref (ad 0 0)), some (.int x), some (.int v)] [] h post
  refine J.iload_n 1 dX11_feed_0 rfl rfl ?_
  refine J.iconst 1 2 dX11_feed_1 rfl (by decide) ?_
  refine J.iconst 4 3 dX11_feed_2 rfl (by decide) ?_
  refine cs_X11_75 rfl 6 (c_isWithin (v := x) (a := 1) (b := 4) _ _) dX11_feed_3 rfl rfl rfl (Nat.le_of_ble_eq_true rfl) (Nat.zero_le _) (Nat.zero_le _) (fun r h2 hp => ?_)
  obtain ⟨rfl, rfl⟩ := hp
  refine J.if_ne 11 9 dX11_feed_6 (by decide) rfl (fun c1 => ?_) (fun c1 => ?_)
  · skip
    refine J.aload_n 12 dX11_feed_11 rfl rfl ?_
    refine gf_X11_38 rfl 15 dX11_feed_12 rfl (hK.hut) (v := .ref (ad 11 0)) rfl ?_
    refine gf_X11_104 rfl 18 dX11_feed_15 rfl (hK.tape) (v := .int (S.1 30)) rfl ?_
    refine J.iload_n 19 dX11_feed_18 rfl rfl ?_
    refine J.iadd 20 dX11_feed_19 rfl ?_
    refine J.bipush 60 22 dX11_feed_20 rfl (by decide) ?_
    refine J.icmp_le 28 25 dX11_feed_22 (by decide) rfl (fun c2 => ?_) (fun c2 => ?_)
    · skip
      have hq : t + q ≤ 60 := (nI_leI (b := 60) (by have := (hN (ib_n.mp (by assumption))).2; omega) (by decide)).mp (by rw [← nI_add, ← ht, ← (hN (ib_n.mp (by assumption))).1]; exact c2)
      refine J.aload_n 29 dX11_feed_28 rfl rfl ?_
      refine gf_X11_38 rfl 32 dX11_feed_29 rfl (hK.hut) (v := .ref (ad 11 0)) rfl ?_
      refine J.iload_n 33 dX11_feed_32 rfl rfl ?_
      refine J.iload_n 34 dX11_feed_33 rfl rfl ?_
      have kw := c_write (d := d) (h0 := h0) (q := q) (t := t) (v := v) hK hF ht hq
      rw [← (hN (ib_n.mp (by assumption))).1] at kw
      refine cv_X11_108 rfl 37 kw dX11_feed_34 rfl (hK.tape) rfl rfl (Nat.le_of_ble_eq_true rfl) (Nat.zero_le _) (Nat.zero_le _) (fun r h hp => ?_)
      obtain ⟨rfl, hK, hF⟩ := hp
      refine J.aload_n 38 dX11_feed_37 rfl rfl ?_
      refine gf_X11_38 rfl 41 dX11_feed_38 rfl (hK.hut) (v := .ref (ad 11 0)) rfl ?_
      refine gf_X11_104 rfl 44 dX11_feed_41 rfl (hK.tape) (v := .int ((a_feedN S v q).1 30)) rfl ?_
      exact J.iret dX11_feed_44 rfl (by rw [← hpost]; exact ⟨by simp [a_feed, c1, ib_n.mp c1, c2, Int32.not_lt.mpr c2], by rw [show a_feedS S q x v = a_feedN S v q from by simp [a_feedS, c1, ib_n.mp c1, c2, Int32.not_lt.mpr c2]]; exact hK, hF⟩)
    · skip
      refine J.bipush (-2) 27 dX11_feed_25 rfl (by decide) ?_
      exact J.iret dX11_feed_27 rfl (by rw [← hpost]; exact ⟨by simp [a_feed, c1, ib_n.mp c1, c2, Int32.not_le.mp c2], by rw [show a_feedS S q x v = S from by simp [a_feedS, c1, ib_n.mp c1, c2, Int32.not_le.mp c2]]; exact hK, hF⟩)
  · skip
    refine J.iconst (-1) 10 dX11_feed_9 rfl (by decide) ?_
    exact J.iret dX11_feed_10 rfl (by rw [← hpost]; exact ⟨by simp [a_feed, c1, ib_0.mp c1], by rw [show a_feedS S q x v = S from by simp [a_feedS, c1, ib_0.mp c1]]; exact hK, hF⟩)
def x_lay (X : MS) (v : Int32) : MS := (vf_upd X.1 0 (X.1 0 + 1), u2 X.2 2 (X.1 0).toNatClampNeg v)
def x_take (X : MS) : MS := (vf_upd X.1 0 (X.1 0 - 1), X.2)
theorem c_lay {G : Nat → Nat} {O : Nat → Prop} {ad : Nat → Nat → Nat} {S X : MS} {L : Nat → List Nat} {wn : Nat → Option Nat} {sl : Nat → Nat} {fl : Nat} {h h0 : AH} {d : Nat} {v : Int32} {z : Nat} (hK : KR G O ad S X L wn sl fl h) (hF : KF O h0 h) (hz : X.1 0 = nI z) (hz2 : z < 20) : Ct Y_X8_lay d G 0 0 [.ref (ad 12 0), .int v] h (fun r h2 => r = none ∧ KR G O ad S (x_lay X v) L wn sl fl h2 ∧ KF O h0 h2) := by
  refine Ct.ofn 0 rfl (Nat.le_of_ble_eq_true rfl) (by simp [Value.category]) ?_
  generalize hpost : (fun (r : Option Value) (h2 : AH) => r = none ∧ KR G O ad S (x_lay X v) L wn sl fl h2 ∧ KF O h0 h2) = post
  show J Y_X8_lay d G 0 0 0 [some (.ref (ad 12 0)), some (.int v)] [] h post
  refine J.aload_n 1 dX8_lay_0 rfl rfl ?_
  refine gf_X8_91 rfl 4 dX8_lay_1 rfl (hK.book) (v := .int (X.1 0)) rfl ?_
  refine J.aload_n 5 dX8_lay_4 rfl rfl ?_
  refine gf_X8_22 rfl 8 dX8_lay_5 rfl (hK.book) (v := .ref (ad 15 5)) rfl ?_
  refine J.alen 9 dX8_lay_8 rfl hK.arr5 ?_
  show J _ _ _ _ _ _ _ (.int 20 :: _) _ _
  refine J.icmp_ge 32 12 dX8_lay_9 (by decide) rfl (fun c1 => ?_) (fun c1 => ?_)
  · skip
    exact absurd ((nI_leI (a := 20) (b := z) (by decide) (by omega)).mp (by rw [← hz]; exact c1)) (by omega)
  · skip
    refine J.aload_n 13 dX8_lay_12 rfl rfl ?_
    refine gf_X8_22 rfl 16 dX8_lay_13 rfl (hK.book) (v := .ref (ad 15 5)) rfl ?_
    refine J.aload_n 17 dX8_lay_16 rfl rfl ?_
    refine gf_X8_91 rfl 20 dX8_lay_17 rfl (hK.book) (v := .int (X.1 0)) rfl ?_
    refine J.iload_n 21 dX8_lay_20 rfl rfl ?_
    refine J.iast2 ((X.1 0).toNatClampNeg) rfl 22 dX8_lay_21 rfl hK.arr5 (by rw [hz]; exact vp_in_nI (by omega) (by decide)) ?_
    refine ks_15_5 hK hF (fun h hK hF => ?_)
    refine J.aload_n 23 dX8_lay_22 rfl rfl ?_
    refine J.dup 24 dX8_lay_23 rfl rfl ?_
    refine gf_X8_91 rfl 27 dX8_lay_24 rfl (hK.book) (v := .int (X.1 0)) rfl ?_
    refine J.iconst 1 28 dX8_lay_27 rfl (by decide) ?_
    refine J.iadd 29 dX8_lay_28 rfl ?_
    refine pf_X8_91 rfl 32 dX8_lay_29 rfl (hK.book) (Nat.le_of_ble_eq_true rfl) ?_
    refine ks_12_3 hK hF (fun h hK hF => ?_)
    exact J.vret dX8_lay_32 rfl (by rw [← hpost]; exact ⟨rfl, hK, hF⟩)
theorem c_take {G : Nat → Nat} {O : Nat → Prop} {ad : Nat → Nat → Nat} {S X : MS} {L : Nat → List Nat} {wn : Nat → Option Nat} {sl : Nat → Nat} {fl : Nat} {h h0 : AH} {d : Nat} {z : Nat} (hK : KR G O ad S X L wn sl fl h) (hF : KF O h0 h) (hz : X.1 0 = nI (z + 1)) (hz2 : z < 20) : Ct Y_X8_take d G 0 0 [.ref (ad 12 0)] h (fun r h2 => r = some (.int (X.2 2 z)) ∧ KR G O ad S (x_take X) L wn sl fl h2 ∧ KF O h0 h2) := by
  refine Ct.ofn 0 rfl (Nat.le_of_ble_eq_true rfl) (by simp [Value.category]) ?_
  generalize hpost : (fun (r : Option Value) (h2 : AH) => r = some (.int (X.2 2 z)) ∧ KR G O ad S (x_take X) L wn sl fl h2 ∧ KF O h0 h2) = post
  show J Y_X8_take d G 0 0 0 [some (.ref (ad 12 0))] [] h post
  refine J.aload_n 1 dX8_take_0 rfl rfl ?_
  refine gf_X8_91 rfl 4 dX8_take_1 rfl (hK.book) (v := .int (X.1 0)) rfl ?_
  refine J.if_gt 9 7 dX8_take_4 (by decide) rfl (fun c1 => ?_) (fun c1 => ?_)
  · skip
    refine J.aload_n 10 dX8_take_9 rfl rfl ?_
    refine J.dup 11 dX8_take_10 rfl rfl ?_
    refine gf_X8_91 rfl 14 dX8_take_11 rfl (hK.book) (v := .int (X.1 0)) rfl ?_
    refine J.iconst 1 15 dX8_take_14 rfl (by decide) ?_
    refine J.isub 16 dX8_take_15 rfl ?_
    refine pf_X8_91 rfl 19 dX8_take_16 rfl (hK.book) (Nat.le_of_ble_eq_true rfl) ?_
    refine ks_12_3 hK hF (fun h hK hF => ?_)
    refine J.aload_n 20 dX8_take_19 rfl rfl ?_
    refine gf_X8_22 rfl 23 dX8_take_20 rfl (hK.book) (v := .ref (ad 15 5)) rfl ?_
    refine J.aload_n 24 dX8_take_23 rfl rfl ?_
    refine gf_X8_91 rfl 27 dX8_take_24 rfl (hK.book) (v := .int ((X.1 0) - 1)) rfl ?_
    refine J.iald2 z (by rw [hz, nI_pred]; exact nI_clamp (by omega)) (x := X.2 2 z) rfl 28 dX8_take_27 rfl hK.arr5 (by rw [hz, nI_pred]; exact vp_in_nI (by omega) (by decide)) ?_
    exact J.iret dX8_take_28 rfl (by rw [← hpost]; exact ⟨rfl, hK, hF⟩)
  · skip
    exact absurd (by rw [hz]; exact nI_lt (a := 0) (by omega) (by omega)) c1
theorem c_named {G : Nat → Nat} {O : Nat → Prop} {ad : Nat → Nat → Nat} {S X : MS} {L : Nat → List Nat} {wn : Nat → Option Nat} {sl : Nat → Nat} {fl : Nat} {h : AH} {d : Nat} {x : Int32} (hK : KR G O ad S X L wn sl fl h) (hx : ¬ x < 0 → ¬ 11 ≤ x → vp_in x 11) : Ct Y_X8_named d G 0 0 [.ref (ad 12 0), .int x] h (fun r h2 => r = some (.int (if ¬ x < 0 ∧ ¬ 11 ≤ x then X.2 1 x.toNatClampNeg else 0)) ∧ h2 = h) := by
  refine Ct.ofn 0 rfl (Nat.le_of_ble_eq_true rfl) (by simp [Value.category]) ?_
  generalize hpost : (fun (r : Option Value) (h2 : AH) => r = some (.int (if ¬ x < 0 ∧ ¬ 11 ≤ x then X.2 1 x.toNatClampNeg else 0)) ∧ h2 = h) = post
  show J Y_X8_named d G 0 0 0 [some (.ref (ad 12 0)), some (.int x)] [] h post
  refine J.iload_n 1 dX8_named_0 rfl rfl ?_
  refine J.if_lt 22 4 dX8_named_1 (by decide) rfl (fun c1 => ?_) (fun c1 => ?_)
  · skip
    refine J.iconst 0 23 dX8_named_22 rfl (by decide) ?_
    exact J.iret dX8_named_23 rfl (by rw [← hpost]; exact ⟨by simp [id, c1, Int32.not_le.mpr c1], rfl⟩)
  · skip
    refine J.iload_n 5 dX8_named_4 rfl rfl ?_
    refine J.aload_n 6 dX8_named_5 rfl rfl ?_
    refine gf_X8_18 rfl 9 dX8_named_6 rfl (hK.book) (v := .ref (ad 15 4)) rfl ?_
    refine J.alen 10 dX8_named_9 rfl hK.arr4 ?_
    show J _ _ _ _ _ _ _ (.int 11 :: _) _ _
    refine J.icmp_ge 22 13 dX8_named_10 (by decide) rfl (fun c2 => ?_) (fun c2 => ?_)
    · skip
      refine J.iconst 0 23 dX8_named_22 rfl (by decide) ?_
      exact J.iret dX8_named_23 rfl (by rw [← hpost]; exact ⟨by simp [id, c1, Int32.not_lt.mp c1, c2, Int32.not_lt.mpr c2], rfl⟩)
    · skip
      refine J.aload_n 14 dX8_named_13 rfl rfl ?_
      refine gf_X8_18 rfl 17 dX8_named_14 rfl (hK.book) (v := .ref (ad 15 4)) rfl ?_
      refine J.iload_n 18 dX8_named_17 rfl rfl ?_
      refine J.iald2 x.toNatClampNeg rfl (x := X.2 1 x.toNatClampNeg) rfl 19 dX8_named_18 rfl hK.arr4 (hx (by assumption) (by assumption)) ?_
      refine J.goto 23 dX8_named_19 (by decide) ?_
      exact J.iret dX8_named_23 rfl (by rw [← hpost]; exact ⟨by simp [id, c1, Int32.not_lt.mp c1, c2, Int32.not_le.mp c2], rfl⟩)
theorem c_joined {c a b : Int32} {d : Nat} : CF Y_X8_joined d [.int c, .int a, .int b] (m_both c a b) := by
  refine CF.of 0 rfl (Nat.le_of_ble_eq_true rfl) (by simp [Value.category]) ?_
  intro G h post fin
  show J Y_X8_joined d G 0 0 0 [some (.int c), some (.int a), some (.int b)] [] h post
  refine J.iload_n 1 dX8_joined_0 rfl rfl ?_
  by_cases c1 : (c).toInt < 38 ∨ 62 < (c).toInt
  · refine J.tsOut 175 dX8_joined_1 c1 (by decide) ?_
    refine J.iload_n 176 dX8_joined_175 rfl rfl ?_
    refine J.if_ne 183 179 dX8_joined_176 (by decide) rfl (fun c2 => ?_) (fun c2 => ?_)
    · skip
      refine J.iconst 1 184 dX8_joined_183 rfl (by decide) ?_
      refine J.goto 188 dX8_joined_184 (by decide) ?_
      exact J.iret dX8_joined_188 rfl (fin _ (by simp (decide := true) [m_both, ib, sw_out c1 38 (by decide) (by decide), sw_out c1 42 (by decide) (by decide), sw_out c1 43 (by decide) (by decide), sw_out c1 45 (by decide) (by decide), sw_out c1 60 (by decide) (by decide), sw_out c1 61 (by decide) (by decide), sw_out c1 62 (by decide) (by decide), c2]))
    · skip
      refine J.iload_n 180 dX8_joined_179 rfl rfl ?_
      refine J.if_eq 187 183 dX8_joined_180 (by decide) rfl (fun c3 => ?_) (fun c3 => ?_)
      · skip
        refine J.iconst 0 188 dX8_joined_187 rfl (by decide) ?_
        exact J.iret dX8_joined_188 rfl (fin _ (by simp (decide := true) [m_both, ib, sw_out c1 38 (by decide) (by decide), sw_out c1 42 (by decide) (by decide), sw_out c1 43 (by decide) (by decide), sw_out c1 45 (by decide) (by decide), sw_out c1 60 (by decide) (by decide), sw_out c1 61 (by decide) (by decide), sw_out c1 62 (by decide) (by decide), c2, c3]))
      · skip
        refine J.iconst 1 184 dX8_joined_183 rfl (by decide) ?_
        refine J.goto 188 dX8_joined_184 (by decide) ?_
        exact J.iret dX8_joined_188 rfl (fin _ (by simp (decide := true) [m_both, ib, sw_out c1 38 (by decide) (by decide), sw_out c1 42 (by decide) (by decide), sw_out c1 43 (by decide) (by decide), sw_out c1 45 (by decide) (by decide), sw_out c1 60 (by decide) (by decide), sw_out c1 61 (by decide) (by decide), sw_out c1 62 (by decide) (by decide), c2, c3]))
  · have q1 : (c).toInt = 38 ∨ (c).toInt = 39 ∨ (c).toInt = 40 ∨ (c).toInt = 41 ∨ (c).toInt = 42 ∨ (c).toInt = 43 ∨ (c).toInt = 44 ∨ (c).toInt = 45 ∨ (c).toInt = 46 ∨ (c).toInt = 47 ∨ (c).toInt = 48 ∨ (c).toInt = 49 ∨ (c).toInt = 50 ∨ (c).toInt = 51 ∨ (c).toInt = 52 ∨ (c).toInt = 53 ∨ (c).toInt = 54 ∨ (c).toInt = 55 ∨ (c).toInt = 56 ∨ (c).toInt = 57 ∨ (c).toInt = 58 ∨ (c).toInt = 59 ∨ (c).toInt = 60 ∨ (c).toInt = 61 ∨ (c).toInt = 62 := by omega
    rcases q1 with q1 | q1 | q1 | q1 | q1 | q1 | q1 | q1 | q1 | q1 | q1 | q1 | q1 | q1 | q1 | q1 | q1 | q1 | q1 | q1 | q1 | q1 | q1 | q1 | q1
    · have z1 : c = 38 := Int32.toInt_inj.mp (q1.trans (by decide))
      refine J.tsIn (k := 38) 161 dX8_joined_1 q1 (by decide) (by decide) rfl (by decide) ?_
      refine J.iload_n 162 dX8_joined_161 rfl rfl ?_
      refine J.if_eq 173 165 dX8_joined_162 (by decide) rfl (fun c4 => ?_) (fun c4 => ?_)
      · skip
        refine J.iconst 0 174 dX8_joined_173 rfl (by decide) ?_
        exact J.iret dX8_joined_174 rfl (fin _ (by simp (decide := true) [m_both, ib, z1, c4]))
      · skip
        refine J.iload_n 166 dX8_joined_165 rfl rfl ?_
        refine J.if_eq 173 169 dX8_joined_166 (by decide) rfl (fun c5 => ?_) (fun c5 => ?_)
        · skip
          refine J.iconst 0 174 dX8_joined_173 rfl (by decide) ?_
          exact J.iret dX8_joined_174 rfl (fin _ (by simp (decide := true) [m_both, ib, z1, c4, c5]))
        · skip
          refine J.iconst 1 170 dX8_joined_169 rfl (by decide) ?_
          refine J.goto 174 dX8_joined_170 (by decide) ?_
          exact J.iret dX8_joined_174 rfl (fin _ (by simp (decide := true) [m_both, ib, z1, c4, c5]))
    · have z1 : c = 39 := Int32.toInt_inj.mp (q1.trans (by decide))
      refine J.tsIn (k := 39) 175 dX8_joined_1 q1 (by decide) (by decide) rfl (by decide) ?_
      refine J.iload_n 176 dX8_joined_175 rfl rfl ?_
      refine J.if_ne 183 179 dX8_joined_176 (by decide) rfl (fun c6 => ?_) (fun c6 => ?_)
      · skip
        refine J.iconst 1 184 dX8_joined_183 rfl (by decide) ?_
        refine J.goto 188 dX8_joined_184 (by decide) ?_
        exact J.iret dX8_joined_188 rfl (fin _ (by simp (decide := true) [m_both, ib, z1, c6]))
      · skip
        refine J.iload_n 180 dX8_joined_179 rfl rfl ?_
        refine J.if_eq 187 183 dX8_joined_180 (by decide) rfl (fun c7 => ?_) (fun c7 => ?_)
        · skip
          refine J.iconst 0 188 dX8_joined_187 rfl (by decide) ?_
          exact J.iret dX8_joined_188 rfl (fin _ (by simp (decide := true) [m_both, ib, z1, c6, c7]))
        · skip
          refine J.iconst 1 184 dX8_joined_183 rfl (by decide) ?_
          refine J.goto 188 dX8_joined_184 (by decide) ?_
          exact J.iret dX8_joined_188 rfl (fin _ (by simp (decide := true) [m_both, ib, z1, c6, c7]))
    · have z1 : c = 40 := Int32.toInt_inj.mp (q1.trans (by decide))
      refine J.tsIn (k := 40) 175 dX8_joined_1 q1 (by decide) (by decide) rfl (by decide) ?_
      refine J.iload_n 176 dX8_joined_175 rfl rfl ?_
      refine J.if_ne 183 179 dX8_joined_176 (by decide) rfl (fun c8 => ?_) (fun c8 => ?_)
      · skip
        refine J.iconst 1 184 dX8_joined_183 rfl (by decide) ?_
        refine J.goto 188 dX8_joined_184 (by decide) ?_
        exact J.iret dX8_joined_188 rfl (fin _ (by simp (decide := true) [m_both, ib, z1, c8]))
      · skip
        refine J.iload_n 180 dX8_joined_179 rfl rfl ?_
        refine J.if_eq 187 183 dX8_joined_180 (by decide) rfl (fun c9 => ?_) (fun c9 => ?_)
        · skip
          refine J.iconst 0 188 dX8_joined_187 rfl (by decide) ?_
          exact J.iret dX8_joined_188 rfl (fin _ (by simp (decide := true) [m_both, ib, z1, c8, c9]))
        · skip
          refine J.iconst 1 184 dX8_joined_183 rfl (by decide) ?_
          refine J.goto 188 dX8_joined_184 (by decide) ?_
          exact J.iret dX8_joined_188 rfl (fin _ (by simp (decide := true) [m_both, ib, z1, c8, c9]))
    · have z1 : c = 41 := Int32.toInt_inj.mp (q1.trans (by decide))
      refine J.tsIn (k := 41) 175 dX8_joined_1 q1 (by decide) (by decide) rfl (by decide) ?_
      refine J.iload_n 176 dX8_joined_175 rfl rfl ?_
      refine J.if_ne 183 179 dX8_joined_176 (by decide) rfl (fun c10 => ?_) (fun c10 => ?_)
      · skip
        refine J.iconst 1 184 dX8_joined_183 rfl (by decide) ?_
        refine J.goto 188 dX8_joined_184 (by decide) ?_
        exact J.iret dX8_joined_188 rfl (fin _ (by simp (decide := true) [m_both, ib, z1, c10]))
      · skip
        refine J.iload_n 180 dX8_joined_179 rfl rfl ?_
        refine J.if_eq 187 183 dX8_joined_180 (by decide) rfl (fun c11 => ?_) (fun c11 => ?_)
        · skip
          refine J.iconst 0 188 dX8_joined_187 rfl (by decide) ?_
          exact J.iret dX8_joined_188 rfl (fin _ (by simp (decide := true) [m_both, ib, z1, c10, c11]))
        · skip
          refine J.iconst 1 184 dX8_joined_183 rfl (by decide) ?_
          refine J.goto 188 dX8_joined_184 (by decide) ?_
          exact J.iret dX8_joined_188 rfl (fin _ (by simp (decide := true) [m_both, ib, z1, c10, c11]))
    · have z1 : c = 42 := Int32.toInt_inj.mp (q1.trans (by decide))
      refine J.tsIn (k := 42) 124 dX8_joined_1 q1 (by decide) (by decide) rfl (by decide) ?_
      refine J.iload_n 125 dX8_joined_124 rfl rfl ?_
      refine J.iload_n 126 dX8_joined_125 rfl rfl ?_
      refine J.imul 127 dX8_joined_126 rfl ?_
      exact J.iret dX8_joined_127 rfl (fin _ (by simp (decide := true) [m_both, ib, z1]))
    · have z1 : c = 43 := Int32.toInt_inj.mp (q1.trans (by decide))
      refine J.tsIn (k := 43) 116 dX8_joined_1 q1 (by decide) (by decide) rfl (by decide) ?_
      refine J.iload_n 117 dX8_joined_116 rfl rfl ?_
      refine J.iload_n 118 dX8_joined_117 rfl rfl ?_
      refine J.iadd 119 dX8_joined_118 rfl ?_
      exact J.iret dX8_joined_119 rfl (fin _ (by simp (decide := true) [m_both, ib, z1]))
    · have z1 : c = 44 := Int32.toInt_inj.mp (q1.trans (by decide))
      refine J.tsIn (k := 44) 175 dX8_joined_1 q1 (by decide) (by decide) rfl (by decide) ?_
      refine J.iload_n 176 dX8_joined_175 rfl rfl ?_
      refine J.if_ne 183 179 dX8_joined_176 (by decide) rfl (fun c12 => ?_) (fun c12 => ?_)
      · skip
        refine J.iconst 1 184 dX8_joined_183 rfl (by decide) ?_
        refine J.goto 188 dX8_joined_184 (by decide) ?_
        exact J.iret dX8_joined_188 rfl (fin _ (by simp (decide := true) [m_both, ib, z1, c12]))
      · skip
        refine J.iload_n 180 dX8_joined_179 rfl rfl ?_
        refine J.if_eq 187 183 dX8_joined_180 (by decide) rfl (fun c13 => ?_) (fun c13 => ?_)
        · skip
          refine J.iconst 0 188 dX8_joined_187 rfl (by decide) ?_
          exact J.iret dX8_joined_188 rfl (fin _ (by simp (decide := true) [m_both, ib, z1, c12, c13]))
        · skip
          refine J.iconst 1 184 dX8_joined_183 rfl (by decide) ?_
          refine J.goto 188 dX8_joined_184 (by decide) ?_
          exact J.iret dX8_joined_188 rfl (fin _ (by simp (decide := true) [m_both, ib, z1, c12, c13]))
    · have z1 : c = 45 := Int32.toInt_inj.mp (q1.trans (by decide))
      refine J.tsIn (k := 45) 120 dX8_joined_1 q1 (by decide) (by decide) rfl (by decide) ?_
      refine J.iload_n 121 dX8_joined_120 rfl rfl ?_
      refine J.iload_n 122 dX8_joined_121 rfl rfl ?_
      refine J.isub 123 dX8_joined_122 rfl ?_
      exact J.iret dX8_joined_123 rfl (fin _ (by simp (decide := true) [m_both, ib, z1]))
    · have z1 : c = 46 := Int32.toInt_inj.mp (q1.trans (by decide))
      refine J.tsIn (k := 46) 175 dX8_joined_1 q1 (by decide) (by decide) rfl (by decide) ?_
      refine J.iload_n 176 dX8_joined_175 rfl rfl ?_
      refine J.if_ne 183 179 dX8_joined_176 (by decide) rfl (fun c14 => ?_) (fun c14 => ?_)
      · skip
        refine J.iconst 1 184 dX8_joined_183 rfl (by decide) ?_
        refine J.goto 188 dX8_joined_184 (by decide) ?_
        exact J.iret dX8_joined_188 rfl (fin _ (by simp (decide := true) [m_both, ib, z1, c14]))
      · skip
        refine J.iload_n 180 dX8_joined_179 rfl rfl ?_
        refine J.if_eq 187 183 dX8_joined_180 (by decide) rfl (fun c15 => ?_) (fun c15 => ?_)
        · skip
          refine J.iconst 0 188 dX8_joined_187 rfl (by decide) ?_
          exact J.iret dX8_joined_188 rfl (fin _ (by simp (decide := true) [m_both, ib, z1, c14, c15]))
        · skip
          refine J.iconst 1 184 dX8_joined_183 rfl (by decide) ?_
          refine J.goto 188 dX8_joined_184 (by decide) ?_
          exact J.iret dX8_joined_188 rfl (fin _ (by simp (decide := true) [m_both, ib, z1, c14, c15]))
    · have z1 : c = 47 := Int32.toInt_inj.mp (q1.trans (by decide))
      refine J.tsIn (k := 47) 175 dX8_joined_1 q1 (by decide) (by decide) rfl (by decide) ?_
      refine J.iload_n 176 dX8_joined_175 rfl rfl ?_
      refine J.if_ne 183 179 dX8_joined_176 (by decide) rfl (fun c16 => ?_) (fun c16 => ?_)
      · skip
        refine J.iconst 1 184 dX8_joined_183 rfl (by decide) ?_
        refine J.goto 188 dX8_joined_184 (by decide) ?_
        exact J.iret dX8_joined_188 rfl (fin _ (by simp (decide := true) [m_both, ib, z1, c16]))
      · skip
        refine J.iload_n 180 dX8_joined_179 rfl rfl ?_
        refine J.if_eq 187 183 dX8_joined_180 (by decide) rfl (fun c17 => ?_) (fun c17 => ?_)
        · skip
          refine J.iconst 0 188 dX8_joined_187 rfl (by decide) ?_
          exact J.iret dX8_joined_188 rfl (fin _ (by simp (decide := true) [m_both, ib, z1, c16, c17]))
        · skip
          refine J.iconst 1 184 dX8_joined_183 rfl (by decide) ?_
          refine J.goto 188 dX8_joined_184 (by decide) ?_
          exact J.iret dX8_joined_188 rfl (fin _ (by simp (decide := true) [m_both, ib, z1, c16, c17]))
    · have z1 : c = 48 := Int32.toInt_inj.mp (q1.trans (by decide))
      refine J.tsIn (k := 48) 175 dX8_joined_1 q1 (by decide) (by decide) rfl (by decide) ?_
      refine J.iload_n 176 dX8_joined_175 rfl rfl ?_
      refine J.if_ne 183 179 dX8_joined_176 (by decide) rfl (fun c18 => ?_) (fun c18 => ?_)
      · skip
        refine J.iconst 1 184 dX8_joined_183 rfl (by decide) ?_
        refine J.goto 188 dX8_joined_184 (by decide) ?_
        exact J.iret dX8_joined_188 rfl (fin _ (by simp (decide := true) [m_both, ib, z1, c18]))
      · skip
        refine J.iload_n 180 dX8_joined_179 rfl rfl ?_
        refine J.if_eq 187 183 dX8_joined_180 (by decide) rfl (fun c19 => ?_) (fun c19 => ?_)
        · skip
          refine J.iconst 0 188 dX8_joined_187 rfl (by decide) ?_
          exact J.iret dX8_joined_188 rfl (fin _ (by simp (decide := true) [m_both, ib, z1, c18, c19]))
        · skip
          refine J.iconst 1 184 dX8_joined_183 rfl (by decide) ?_
          refine J.goto 188 dX8_joined_184 (by decide) ?_
          exact J.iret dX8_joined_188 rfl (fin _ (by simp (decide := true) [m_both, ib, z1, c18, c19]))
    · have z1 : c = 49 := Int32.toInt_inj.mp (q1.trans (by decide))
      refine J.tsIn (k := 49) 175 dX8_joined_1 q1 (by decide) (by decide) rfl (by decide) ?_
      refine J.iload_n 176 dX8_joined_175 rfl rfl ?_
      refine J.if_ne 183 179 dX8_joined_176 (by decide) rfl (fun c20 => ?_) (fun c20 => ?_)
      · skip
        refine J.iconst 1 184 dX8_joined_183 rfl (by decide) ?_
        refine J.goto 188 dX8_joined_184 (by decide) ?_
        exact J.iret dX8_joined_188 rfl (fin _ (by simp (decide := true) [m_both, ib, z1, c20]))
      · skip
        refine J.iload_n 180 dX8_joined_179 rfl rfl ?_
        refine J.if_eq 187 183 dX8_joined_180 (by decide) rfl (fun c21 => ?_) (fun c21 => ?_)
        · skip
          refine J.iconst 0 188 dX8_joined_187 rfl (by decide) ?_
          exact J.iret dX8_joined_188 rfl (fin _ (by simp (decide := true) [m_both, ib, z1, c20, c21]))
        · skip
          refine J.iconst 1 184 dX8_joined_183 rfl (by decide) ?_
          refine J.goto 188 dX8_joined_184 (by decide) ?_
          exact J.iret dX8_joined_188 rfl (fin _ (by simp (decide := true) [m_both, ib, z1, c20, c21]))
    · have z1 : c = 50 := Int32.toInt_inj.mp (q1.trans (by decide))
      refine J.tsIn (k := 50) 175 dX8_joined_1 q1 (by decide) (by decide) rfl (by decide) ?_
      refine J.iload_n 176 dX8_joined_175 rfl rfl ?_
      refine J.if_ne 183 179 dX8_joined_176 (by decide) rfl (fun c22 => ?_) (fun c22 => ?_)
      · skip
        refine J.iconst 1 184 dX8_joined_183 rfl (by decide) ?_
        refine J.goto 188 dX8_joined_184 (by decide) ?_
        exact J.iret dX8_joined_188 rfl (fin _ (by simp (decide := true) [m_both, ib, z1, c22]))
      · skip
        refine J.iload_n 180 dX8_joined_179 rfl rfl ?_
        refine J.if_eq 187 183 dX8_joined_180 (by decide) rfl (fun c23 => ?_) (fun c23 => ?_)
        · skip
          refine J.iconst 0 188 dX8_joined_187 rfl (by decide) ?_
          exact J.iret dX8_joined_188 rfl (fin _ (by simp (decide := true) [m_both, ib, z1, c22, c23]))
        · skip
          refine J.iconst 1 184 dX8_joined_183 rfl (by decide) ?_
          refine J.goto 188 dX8_joined_184 (by decide) ?_
          exact J.iret dX8_joined_188 rfl (fin _ (by simp (decide := true) [m_both, ib, z1, c22, c23]))
    · have z1 : c = 51 := Int32.toInt_inj.mp (q1.trans (by decide))
      refine J.tsIn (k := 51) 175 dX8_joined_1 q1 (by decide) (by decide) rfl (by decide) ?_
      refine J.iload_n 176 dX8_joined_175 rfl rfl ?_
      refine J.if_ne 183 179 dX8_joined_176 (by decide) rfl (fun c24 => ?_) (fun c24 => ?_)
      · skip
        refine J.iconst 1 184 dX8_joined_183 rfl (by decide) ?_
        refine J.goto 188 dX8_joined_184 (by decide) ?_
        exact J.iret dX8_joined_188 rfl (fin _ (by simp (decide := true) [m_both, ib, z1, c24]))
      · skip
        refine J.iload_n 180 dX8_joined_179 rfl rfl ?_
        refine J.if_eq 187 183 dX8_joined_180 (by decide) rfl (fun c25 => ?_) (fun c25 => ?_)
        · skip
          refine J.iconst 0 188 dX8_joined_187 rfl (by decide) ?_
          exact J.iret dX8_joined_188 rfl (fin _ (by simp (decide := true) [m_both, ib, z1, c24, c25]))
        · skip
          refine J.iconst 1 184 dX8_joined_183 rfl (by decide) ?_
          refine J.goto 188 dX8_joined_184 (by decide) ?_
          exact J.iret dX8_joined_188 rfl (fin _ (by simp (decide := true) [m_both, ib, z1, c24, c25]))
    · have z1 : c = 52 := Int32.toInt_inj.mp (q1.trans (by decide))
      refine J.tsIn (k := 52) 175 dX8_joined_1 q1 (by decide) (by decide) rfl (by decide) ?_
      refine J.iload_n 176 dX8_joined_175 rfl rfl ?_
      refine J.if_ne 183 179 dX8_joined_176 (by decide) rfl (fun c26 => ?_) (fun c26 => ?_)
      · skip
        refine J.iconst 1 184 dX8_joined_183 rfl (by decide) ?_
        refine J.goto 188 dX8_joined_184 (by decide) ?_
        exact J.iret dX8_joined_188 rfl (fin _ (by simp (decide := true) [m_both, ib, z1, c26]))
      · skip
        refine J.iload_n 180 dX8_joined_179 rfl rfl ?_
        refine J.if_eq 187 183 dX8_joined_180 (by decide) rfl (fun c27 => ?_) (fun c27 => ?_)
        · skip
          refine J.iconst 0 188 dX8_joined_187 rfl (by decide) ?_
          exact J.iret dX8_joined_188 rfl (fin _ (by simp (decide := true) [m_both, ib, z1, c26, c27]))
        · skip
          refine J.iconst 1 184 dX8_joined_183 rfl (by decide) ?_
          refine J.goto 188 dX8_joined_184 (by decide) ?_
          exact J.iret dX8_joined_188 rfl (fin _ (by simp (decide := true) [m_both, ib, z1, c26, c27]))
    · have z1 : c = 53 := Int32.toInt_inj.mp (q1.trans (by decide))
      refine J.tsIn (k := 53) 175 dX8_joined_1 q1 (by decide) (by decide) rfl (by decide) ?_
      refine J.iload_n 176 dX8_joined_175 rfl rfl ?_
      refine J.if_ne 183 179 dX8_joined_176 (by decide) rfl (fun c28 => ?_) (fun c28 => ?_)
      · skip
        refine J.iconst 1 184 dX8_joined_183 rfl (by decide) ?_
        refine J.goto 188 dX8_joined_184 (by decide) ?_
        exact J.iret dX8_joined_188 rfl (fin _ (by simp (decide := true) [m_both, ib, z1, c28]))
      · skip
        refine J.iload_n 180 dX8_joined_179 rfl rfl ?_
        refine J.if_eq 187 183 dX8_joined_180 (by decide) rfl (fun c29 => ?_) (fun c29 => ?_)
        · skip
          refine J.iconst 0 188 dX8_joined_187 rfl (by decide) ?_
          exact J.iret dX8_joined_188 rfl (fin _ (by simp (decide := true) [m_both, ib, z1, c28, c29]))
        · skip
          refine J.iconst 1 184 dX8_joined_183 rfl (by decide) ?_
          refine J.goto 188 dX8_joined_184 (by decide) ?_
          exact J.iret dX8_joined_188 rfl (fin _ (by simp (decide := true) [m_both, ib, z1, c28, c29]))
    · have z1 : c = 54 := Int32.toInt_inj.mp (q1.trans (by decide))
      refine J.tsIn (k := 54) 175 dX8_joined_1 q1 (by decide) (by decide) rfl (by decide) ?_
      refine J.iload_n 176 dX8_joined_175 rfl rfl ?_
      refine J.if_ne 183 179 dX8_joined_176 (by decide) rfl (fun c30 => ?_) (fun c30 => ?_)
      · skip
        refine J.iconst 1 184 dX8_joined_183 rfl (by decide) ?_
        refine J.goto 188 dX8_joined_184 (by decide) ?_
        exact J.iret dX8_joined_188 rfl (fin _ (by simp (decide := true) [m_both, ib, z1, c30]))
      · skip
        refine J.iload_n 180 dX8_joined_179 rfl rfl ?_
        refine J.if_eq 187 183 dX8_joined_180 (by decide) rfl (fun c31 => ?_) (fun c31 => ?_)
        · skip
          refine J.iconst 0 188 dX8_joined_187 rfl (by decide) ?_
          exact J.iret dX8_joined_188 rfl (fin _ (by simp (decide := true) [m_both, ib, z1, c30, c31]))
        · skip
          refine J.iconst 1 184 dX8_joined_183 rfl (by decide) ?_
          refine J.goto 188 dX8_joined_184 (by decide) ?_
          exact J.iret dX8_joined_188 rfl (fin _ (by simp (decide := true) [m_both, ib, z1, c30, c31]))
    · have z1 : c = 55 := Int32.toInt_inj.mp (q1.trans (by decide))
      refine J.tsIn (k := 55) 175 dX8_joined_1 q1 (by decide) (by decide) rfl (by decide) ?_
      refine J.iload_n 176 dX8_joined_175 rfl rfl ?_
      refine J.if_ne 183 179 dX8_joined_176 (by decide) rfl (fun c32 => ?_) (fun c32 => ?_)
      · skip
        refine J.iconst 1 184 dX8_joined_183 rfl (by decide) ?_
        refine J.goto 188 dX8_joined_184 (by decide) ?_
        exact J.iret dX8_joined_188 rfl (fin _ (by simp (decide := true) [m_both, ib, z1, c32]))
      · skip
        refine J.iload_n 180 dX8_joined_179 rfl rfl ?_
        refine J.if_eq 187 183 dX8_joined_180 (by decide) rfl (fun c33 => ?_) (fun c33 => ?_)
        · skip
          refine J.iconst 0 188 dX8_joined_187 rfl (by decide) ?_
          exact J.iret dX8_joined_188 rfl (fin _ (by simp (decide := true) [m_both, ib, z1, c32, c33]))
        · skip
          refine J.iconst 1 184 dX8_joined_183 rfl (by decide) ?_
          refine J.goto 188 dX8_joined_184 (by decide) ?_
          exact J.iret dX8_joined_188 rfl (fin _ (by simp (decide := true) [m_both, ib, z1, c32, c33]))
    · have z1 : c = 56 := Int32.toInt_inj.mp (q1.trans (by decide))
      refine J.tsIn (k := 56) 175 dX8_joined_1 q1 (by decide) (by decide) rfl (by decide) ?_
      refine J.iload_n 176 dX8_joined_175 rfl rfl ?_
      refine J.if_ne 183 179 dX8_joined_176 (by decide) rfl (fun c34 => ?_) (fun c34 => ?_)
      · skip
        refine J.iconst 1 184 dX8_joined_183 rfl (by decide) ?_
        refine J.goto 188 dX8_joined_184 (by decide) ?_
        exact J.iret dX8_joined_188 rfl (fin _ (by simp (decide := true) [m_both, ib, z1, c34]))
      · skip
        refine J.iload_n 180 dX8_joined_179 rfl rfl ?_
        refine J.if_eq 187 183 dX8_joined_180 (by decide) rfl (fun c35 => ?_) (fun c35 => ?_)
        · skip
          refine J.iconst 0 188 dX8_joined_187 rfl (by decide) ?_
          exact J.iret dX8_joined_188 rfl (fin _ (by simp (decide := true) [m_both, ib, z1, c34, c35]))
        · skip
          refine J.iconst 1 184 dX8_joined_183 rfl (by decide) ?_
          refine J.goto 188 dX8_joined_184 (by decide) ?_
          exact J.iret dX8_joined_188 rfl (fin _ (by simp (decide := true) [m_both, ib, z1, c34, c35]))
    · have z1 : c = 57 := Int32.toInt_inj.mp (q1.trans (by decide))
      refine J.tsIn (k := 57) 175 dX8_joined_1 q1 (by decide) (by decide) rfl (by decide) ?_
      refine J.iload_n 176 dX8_joined_175 rfl rfl ?_
      refine J.if_ne 183 179 dX8_joined_176 (by decide) rfl (fun c36 => ?_) (fun c36 => ?_)
      · skip
        refine J.iconst 1 184 dX8_joined_183 rfl (by decide) ?_
        refine J.goto 188 dX8_joined_184 (by decide) ?_
        exact J.iret dX8_joined_188 rfl (fin _ (by simp (decide := true) [m_both, ib, z1, c36]))
      · skip
        refine J.iload_n 180 dX8_joined_179 rfl rfl ?_
        refine J.if_eq 187 183 dX8_joined_180 (by decide) rfl (fun c37 => ?_) (fun c37 => ?_)
        · skip
          refine J.iconst 0 188 dX8_joined_187 rfl (by decide) ?_
          exact J.iret dX8_joined_188 rfl (fin _ (by simp (decide := true) [m_both, ib, z1, c36, c37]))
        · skip
          refine J.iconst 1 184 dX8_joined_183 rfl (by decide) ?_
          refine J.goto 188 dX8_joined_184 (by decide) ?_
          exact J.iret dX8_joined_188 rfl (fin _ (by simp (decide := true) [m_both, ib, z1, c36, c37]))
    · have z1 : c = 58 := Int32.toInt_inj.mp (q1.trans (by decide))
      refine J.tsIn (k := 58) 175 dX8_joined_1 q1 (by decide) (by decide) rfl (by decide) ?_
      refine J.iload_n 176 dX8_joined_175 rfl rfl ?_
      refine J.if_ne 183 179 dX8_joined_176 (by decide) rfl (fun c38 => ?_) (fun c38 => ?_)
      · skip
        refine J.iconst 1 184 dX8_joined_183 rfl (by decide) ?_
        refine J.goto 188 dX8_joined_184 (by decide) ?_
        exact J.iret dX8_joined_188 rfl (fin _ (by simp (decide := true) [m_both, ib, z1, c38]))
      · skip
        refine J.iload_n 180 dX8_joined_179 rfl rfl ?_
        refine J.if_eq 187 183 dX8_joined_180 (by decide) rfl (fun c39 => ?_) (fun c39 => ?_)
        · skip
          refine J.iconst 0 188 dX8_joined_187 rfl (by decide) ?_
          exact J.iret dX8_joined_188 rfl (fin _ (by simp (decide := true) [m_both, ib, z1, c38, c39]))
        · skip
          refine J.iconst 1 184 dX8_joined_183 rfl (by decide) ?_
          refine J.goto 188 dX8_joined_184 (by decide) ?_
          exact J.iret dX8_joined_188 rfl (fin _ (by simp (decide := true) [m_both, ib, z1, c38, c39]))
    · have z1 : c = 59 := Int32.toInt_inj.mp (q1.trans (by decide))
      refine J.tsIn (k := 59) 175 dX8_joined_1 q1 (by decide) (by decide) rfl (by decide) ?_
      refine J.iload_n 176 dX8_joined_175 rfl rfl ?_
      refine J.if_ne 183 179 dX8_joined_176 (by decide) rfl (fun c40 => ?_) (fun c40 => ?_)
      · skip
        refine J.iconst 1 184 dX8_joined_183 rfl (by decide) ?_
        refine J.goto 188 dX8_joined_184 (by decide) ?_
        exact J.iret dX8_joined_188 rfl (fin _ (by simp (decide := true) [m_both, ib, z1, c40]))
      · skip
        refine J.iload_n 180 dX8_joined_179 rfl rfl ?_
        refine J.if_eq 187 183 dX8_joined_180 (by decide) rfl (fun c41 => ?_) (fun c41 => ?_)
        · skip
          refine J.iconst 0 188 dX8_joined_187 rfl (by decide) ?_
          exact J.iret dX8_joined_188 rfl (fin _ (by simp (decide := true) [m_both, ib, z1, c40, c41]))
        · skip
          refine J.iconst 1 184 dX8_joined_183 rfl (by decide) ?_
          refine J.goto 188 dX8_joined_184 (by decide) ?_
          exact J.iret dX8_joined_188 rfl (fin _ (by simp (decide := true) [m_both, ib, z1, c40, c41]))
    · have z1 : c = 60 := Int32.toInt_inj.mp (q1.trans (by decide))
      refine J.tsIn (k := 60) 128 dX8_joined_1 q1 (by decide) (by decide) rfl (by decide) ?_
      refine J.iload_n 129 dX8_joined_128 rfl rfl ?_
      refine J.iload_n 130 dX8_joined_129 rfl rfl ?_
      refine J.icmp_ge 137 133 dX8_joined_130 (by decide) rfl (fun c42 => ?_) (fun c42 => ?_)
      · skip
        refine J.iconst 0 138 dX8_joined_137 rfl (by decide) ?_
        exact J.iret dX8_joined_138 rfl (fin _ (by simp (decide := true) [m_both, ib, z1, c42, Int32.not_lt.mpr c42]))
      · skip
        refine J.iconst 1 134 dX8_joined_133 rfl (by decide) ?_
        refine J.goto 138 dX8_joined_134 (by decide) ?_
        exact J.iret dX8_joined_138 rfl (fin _ (by simp (decide := true) [m_both, ib, z1, c42, Int32.not_le.mp c42]))
    · have z1 : c = 61 := Int32.toInt_inj.mp (q1.trans (by decide))
      refine J.tsIn (k := 61) 139 dX8_joined_1 q1 (by decide) (by decide) rfl (by decide) ?_
      refine J.iload_n 140 dX8_joined_139 rfl rfl ?_
      refine J.iload_n 141 dX8_joined_140 rfl rfl ?_
      refine J.icmp_ne 148 144 dX8_joined_141 (by decide) rfl (fun c43 => ?_) (fun c43 => ?_)
      · skip
        refine J.iconst 0 149 dX8_joined_148 rfl (by decide) ?_
        exact J.iret dX8_joined_149 rfl (fin _ (by simp (decide := true) [m_both, ib, z1, c43]))
      · skip
        refine J.iconst 1 145 dX8_joined_144 rfl (by decide) ?_
        refine J.goto 149 dX8_joined_145 (by decide) ?_
        exact J.iret dX8_joined_149 rfl (fin _ (by simp (decide := true) [m_both, ib, z1, c43]))
    · have z1 : c = 62 := Int32.toInt_inj.mp (q1.trans (by decide))
      refine J.tsIn (k := 62) 150 dX8_joined_1 q1 (by decide) (by decide) rfl (by decide) ?_
      refine J.iload_n 151 dX8_joined_150 rfl rfl ?_
      refine J.iload_n 152 dX8_joined_151 rfl rfl ?_
      refine J.icmp_le 159 155 dX8_joined_152 (by decide) rfl (fun c44 => ?_) (fun c44 => ?_)
      · skip
        refine J.iconst 0 160 dX8_joined_159 rfl (by decide) ?_
        exact J.iret dX8_joined_160 rfl (fin _ (by simp (decide := true) [m_both, ib, z1, c44, Int32.not_lt.mpr c44]))
      · skip
        refine J.iconst 1 156 dX8_joined_155 rfl (by decide) ?_
        refine J.goto 160 dX8_joined_156 (by decide) ?_
        exact J.iret dX8_joined_160 rfl (fin _ (by simp (decide := true) [m_both, ib, z1, c44, Int32.not_le.mp c44]))
def x_time (S X : MS) (t : Int32) : MS := (X.1, u2 (u2 (u2 (u2 (u2 X.2 1 0 (S.2 4 (c_hour t).toNatClampNeg)) 1 1 (S.2 5 (c_hour t).toNatClampNeg)) 1 2 (S.2 6 (c_hour t).toNatClampNeg)) 1 3 (c_hour t)) 1 4 t)
def x_goal (S X : MS) (p : Nat) : MS := (X.1, u2 (u2 X.2 1 5 (nI p)) 1 6 (S.2 1 p))
def x_hang (S X : MS) (l : List Nat) : MS := (X.1, u2 (u2 (u2 X.2 1 7 (lmax (S.2 20) l)) 1 8 (lsum (S.2 18) l)) 1 9 (nI l.length))
def x_flown (X : MS) (f : Int32) : MS := (X.1, u2 X.2 1 10 f)
theorem c_setTime {G : Nat → Nat} {O : Nat → Prop} {ad : Nat → Nat → Nat} {S X : MS} {L : Nat → List Nat} {wn : Nat → Option Nat} {sl : Nat → Nat} {fl : Nat} {h h0 : AH} {d : Nat} {t : Int32} (hK : KR G O ad S X L wn sl fl h) (hF : KF O h0 h) (ht : vp_in (c_hour t) 12) : Ct Y_X8_setTime (d + 2) G 0 0 [.ref (ad 12 0), .ref (ad 10 0), .int t] h (fun r h2 => r = none ∧ KR G O ad S (x_time S X t) L wn sl fl h2 ∧ KF O h0 h2) := by
  refine Ct.ofn 1 rfl (Nat.le_of_ble_eq_true rfl) (by simp [Value.category]) ?_
  generalize hpost : (fun (r : Option Value) (h2 : AH) => r = none ∧ KR G O ad S (x_time S X t) L wn sl fl h2 ∧ KF O h0 h2) = post
  show J Y_X8_setTime (d + 2) G 0 0 0 [some (.ref (ad 12 0)), some (.ref (ad 10 0)), some (.int t), none] [] h post
  refine J.iload_n 1 dX8_setTime_0 rfl rfl ?_
  refine cs_X8_25 rfl 4 (c_hourOf (t := t) _ _) dX8_setTime_1 rfl rfl rfl (Nat.le_of_ble_eq_true rfl) (Nat.zero_le _) (Nat.zero_le _) (fun r h2 hp => ?_)
  obtain ⟨rfl, rfl⟩ := hp
  refine J.ist_3 5 dX8_setTime_4 rfl (by decide) ?_
  refine J.aload_n 6 dX8_setTime_5 rfl rfl ?_
  refine gf_X8_18 rfl 9 dX8_setTime_6 rfl (hK.book) (v := .ref (ad 15 4)) rfl ?_
  refine J.iconst 0 10 dX8_setTime_9 rfl (by decide) ?_
  refine J.aload_n 11 dX8_setTime_10 rfl rfl ?_
  refine gf_X8_31 rfl 14 dX8_setTime_11 rfl (hK.wea) (v := .ref (ad 15 0)) rfl ?_
  refine J.iload_n 15 dX8_setTime_14 rfl rfl ?_
  refine J.iald2 ((c_hour t).toNatClampNeg) rfl (x := S.2 4 ((c_hour t).toNatClampNeg)) rfl 16 dX8_setTime_15 rfl hK.arr0 ht ?_
  refine J.iast2 0 (by decide) 17 dX8_setTime_16 rfl hK.arr4 (by unfold vp_in; decide) ?_
  refine ks_15_4 hK hF (fun h hK hF => ?_)
  refine J.aload_n 18 dX8_setTime_17 rfl rfl ?_
  refine gf_X8_18 rfl 21 dX8_setTime_18 rfl (hK.book) (v := .ref (ad 15 4)) rfl ?_
  refine J.iconst 1 22 dX8_setTime_21 rfl (by decide) ?_
  refine J.aload_n 23 dX8_setTime_22 rfl rfl ?_
  refine gf_X8_34 rfl 26 dX8_setTime_23 rfl (hK.wea) (v := .ref (ad 15 1)) rfl ?_
  refine J.iload_n 27 dX8_setTime_26 rfl rfl ?_
  refine J.iald2 ((c_hour t).toNatClampNeg) rfl (x := S.2 5 ((c_hour t).toNatClampNeg)) rfl 28 dX8_setTime_27 rfl hK.arr1 ht ?_
  refine J.iast2 1 (by decide) 29 dX8_setTime_28 rfl hK.arr4 (by unfold vp_in; decide) ?_
  refine ks_15_4 hK hF (fun h hK hF => ?_)
  refine J.aload_n 30 dX8_setTime_29 rfl rfl ?_
  refine gf_X8_18 rfl 33 dX8_setTime_30 rfl (hK.book) (v := .ref (ad 15 4)) rfl ?_
  refine J.iconst 2 34 dX8_setTime_33 rfl (by decide) ?_
  refine J.aload_n 35 dX8_setTime_34 rfl rfl ?_
  refine gf_X8_37 rfl 38 dX8_setTime_35 rfl (hK.wea) (v := .ref (ad 15 2)) rfl ?_
  refine J.iload_n 39 dX8_setTime_38 rfl rfl ?_
  refine J.iald2 ((c_hour t).toNatClampNeg) rfl (x := S.2 6 ((c_hour t).toNatClampNeg)) rfl 40 dX8_setTime_39 rfl hK.arr2 ht ?_
  refine J.iast2 2 (by decide) 41 dX8_setTime_40 rfl hK.arr4 (by unfold vp_in; decide) ?_
  refine ks_15_4 hK hF (fun h hK hF => ?_)
  refine J.aload_n 42 dX8_setTime_41 rfl rfl ?_
  refine gf_X8_18 rfl 45 dX8_setTime_42 rfl (hK.book) (v := .ref (ad 15 4)) rfl ?_
  refine J.iconst 3 46 dX8_setTime_45 rfl (by decide) ?_
  refine J.iload_n 47 dX8_setTime_46 rfl rfl ?_
  refine J.iast2 3 (by decide) 48 dX8_setTime_47 rfl hK.arr4 (by unfold vp_in; decide) ?_
  refine ks_15_4 hK hF (fun h hK hF => ?_)
  refine J.aload_n 49 dX8_setTime_48 rfl rfl ?_
  refine gf_X8_18 rfl 52 dX8_setTime_49 rfl (hK.book) (v := .ref (ad 15 4)) rfl ?_
  refine J.iconst 4 53 dX8_setTime_52 rfl (by decide) ?_
  refine J.iload_n 54 dX8_setTime_53 rfl rfl ?_
  refine J.iast2 4 (by decide) 55 dX8_setTime_54 rfl hK.arr4 (by unfold vp_in; decide) ?_
  refine ks_15_4 hK hF (fun h hK hF => ?_)
  exact J.vret dX8_setTime_55 rfl (by rw [← hpost]; exact ⟨rfl, hK, hF⟩)
theorem c_setGoal {G : Nat → Nat} {O : Nat → Prop} {ad : Nat → Nat → Nat} {S X : MS} {L : Nat → List Nat} {wn : Nat → Option Nat} {sl : Nat → Nat} {fl : Nat} {h h0 : AH} {d : Nat} {p : Nat} (hK : KR G O ad S X L wn sl fl h) (hF : KF O h0 h) (hp : p < (L 0).length) : Ct Y_X8_setGoal d G 0 0 [.ref (ad 12 0), .ref (ad 3 p)] h (fun r h2 => r = none ∧ KR G O ad S (x_goal S X p) L wn sl fl h2 ∧ KF O h0 h2) := by
  refine Ct.ofn 0 rfl (Nat.le_of_ble_eq_true rfl) (by simp [Value.category]) ?_
  generalize hpost : (fun (r : Option Value) (h2 : AH) => r = none ∧ KR G O ad S (x_goal S X p) L wn sl fl h2 ∧ KF O h0 h2) = post
  show J Y_X8_setGoal d G 0 0 0 [some (.ref (ad 12 0)), some (.ref (ad 3 p))] [] h post
  refine J.aload_n 1 dX8_setGoal_0 rfl rfl ?_
  refine gf_X8_18 rfl 4 dX8_setGoal_1 rfl (hK.book) (v := .ref (ad 15 4)) rfl ?_
  refine J.iconst 5 5 dX8_setGoal_4 rfl (by decide) ?_
  refine J.aload_n 6 dX8_setGoal_5 rfl rfl ?_
  refine gf_X8_40 rfl 9 dX8_setGoal_6 rfl (hK.place hp) (v := .int (nI p)) rfl ?_
  refine J.iast2 5 (by decide) 10 dX8_setGoal_9 rfl hK.arr4 (by unfold vp_in; decide) ?_
  refine ks_15_4 hK hF (fun h hK hF => ?_)
  refine J.aload_n 11 dX8_setGoal_10 rfl rfl ?_
  refine gf_X8_18 rfl 14 dX8_setGoal_11 rfl (hK.book) (v := .ref (ad 15 4)) rfl ?_
  refine J.bipush 6 16 dX8_setGoal_14 rfl (by decide) ?_
  refine J.aload_n 17 dX8_setGoal_16 rfl rfl ?_
  refine gf_X8_46 rfl 20 dX8_setGoal_17 rfl (hK.place hp) (v := .int (S.2 1 p)) rfl ?_
  refine J.iast2 6 (by decide) 21 dX8_setGoal_20 rfl hK.arr4 (by unfold vp_in; decide) ?_
  refine ks_15_4 hK hF (fun h hK hF => ?_)
  exact J.vret dX8_setGoal_21 rfl (by rw [← hpost]; exact ⟨rfl, hK, hF⟩)
theorem c_setHanging {G : Nat → Nat} {O : Nat → Prop} {ad : Nat → Nat → Nat} {S X : MS} {L : Nat → List Nat} {wn : Nat → Option Nat} {sl : Nat → Nat} {fl : Nat} {h h0 : AH} {d : Nat} {m : Nat} (hK : KR G O ad S X L wn sl fl h) (hF : KF O h0 h) (hm : m < (L 1).length) (hlen : (L (8 + m)).length ≤ 1000) : Ct Y_X8_setHanging (d + 4) G 0 0 [.ref (ad 12 0), .ref (ad 4 m)] h (fun r h2 => r = none ∧ KR G O ad S (x_hang S X (L (8 + m))) L wn sl fl h2 ∧ KF O h0 h2) := by
  refine Ct.ofn 0 rfl (Nat.le_of_ble_eq_true rfl) (by simp [Value.category]) ?_
  generalize hpost : (fun (r : Option Value) (h2 : AH) => r = none ∧ KR G O ad S (x_hang S X (L (8 + m))) L wn sl fl h2 ∧ KF O h0 h2) = post
  show J Y_X8_setHanging (d + 4) G 0 0 0 [some (.ref (ad 12 0)), some (.ref (ad 4 m))] [] h post
  refine J.aload_n 1 dX8_setHanging_0 rfl rfl ?_
  refine gf_X8_18 rfl 4 dX8_setHanging_1 rfl (hK.book) (v := .ref (ad 15 4)) rfl ?_
  refine J.bipush 7 6 dX8_setHanging_4 rfl (by decide) ?_
  refine J.aload_n 7 dX8_setHanging_6 rfl rfl ?_
  refine cv_X8_49 rfl 10 (c_greatest (m := m) hK hm hlen) dX8_setHanging_7 rfl (hK.mach hm) rfl rfl (Nat.le_of_ble_eq_true rfl) (Nat.zero_le _) (Nat.zero_le _) (fun r h2 hp => ?_)
  obtain ⟨rfl, rfl⟩ := hp
  refine J.iast2 7 (by decide) 11 dX8_setHanging_10 rfl hK.arr4 (by unfold vp_in; decide) ?_
  refine ks_15_4 hK hF (fun h hK hF => ?_)
  refine J.aload_n 12 dX8_setHanging_11 rfl rfl ?_
  refine gf_X8_18 rfl 15 dX8_setHanging_12 rfl (hK.book) (v := .ref (ad 15 4)) rfl ?_
  refine J.bipush 8 17 dX8_setHanging_15 rfl (by decide) ?_
  refine J.aload_n 18 dX8_setHanging_17 rfl rfl ?_
  refine gf_X8_55 rfl 21 dX8_setHanging_18 rfl (hK.mach hm) (v := .ref (ad 1 (8 + m))) rfl ?_
  refine cs_X8_58 rfl 24 (c_weightOf (r := 8 + m) hK (by omega) (ek8 _) hlen) dX8_setHanging_21 rfl rfl rfl (Nat.le_of_ble_eq_true rfl) (Nat.zero_le _) (Nat.zero_le _) (fun r h2 hp => ?_)
  obtain ⟨rfl, rfl⟩ := hp
  refine J.iast2 8 (by decide) 25 dX8_setHanging_24 rfl hK.arr4 (by unfold vp_in; decide) ?_
  refine ks_15_4 hK hF (fun h hK hF => ?_)
  refine J.aload_n 26 dX8_setHanging_25 rfl rfl ?_
  refine gf_X8_18 rfl 29 dX8_setHanging_26 rfl (hK.book) (v := .ref (ad 15 4)) rfl ?_
  refine J.bipush 9 31 dX8_setHanging_29 rfl (by decide) ?_
  refine J.aload_n 32 dX8_setHanging_31 rfl rfl ?_
  refine gf_X8_55 rfl 35 dX8_setHanging_32 rfl (hK.mach hm) (v := .ref (ad 1 (8 + m))) rfl ?_
  refine cv_X8_62 rfl 38 (hK.size (by omega)) dX8_setHanging_35 rfl (hK.listOb (by omega)).choose_spec rfl rfl (Nat.le_of_ble_eq_true rfl) (Nat.zero_le _) (Nat.zero_le _) (fun r h2 hp => ?_)
  obtain ⟨rfl, rfl⟩ := hp
  refine J.iast2 9 (by decide) 39 dX8_setHanging_38 rfl hK.arr4 (by unfold vp_in; decide) ?_
  refine ks_15_4 hK hF (fun h hK hF => ?_)
  exact J.vret dX8_setHanging_39 rfl (by rw [← hpost]; exact ⟨rfl, hK, hF⟩)
theorem c_setFlown {G : Nat → Nat} {O : Nat → Prop} {ad : Nat → Nat → Nat} {S X : MS} {L : Nat → List Nat} {wn : Nat → Option Nat} {sl : Nat → Nat} {fl : Nat} {h h0 : AH} {d : Nat} {f : Int32} (hK : KR G O ad S X L wn sl fl h) (hF : KF O h0 h) : Ct Y_X8_setFlown d G 0 0 [.ref (ad 12 0), .int f] h (fun r h2 => r = none ∧ KR G O ad S (x_flown X f) L wn sl fl h2 ∧ KF O h0 h2) := by
  refine Ct.ofn 0 rfl (Nat.le_of_ble_eq_true rfl) (by simp [Value.category]) ?_
  generalize hpost : (fun (r : Option Value) (h2 : AH) => r = none ∧ KR G O ad S (x_flown X f) L wn sl fl h2 ∧ KF O h0 h2) = post
  show J Y_X8_setFlown d G 0 0 0 [some (.ref (ad 12 0)), some (.int f)] [] h post
  refine J.aload_n 1 dX8_setFlown_0 rfl rfl ?_
  refine gf_X8_18 rfl 4 dX8_setFlown_1 rfl (hK.book) (v := .ref (ad 15 4)) rfl ?_
  refine J.bipush 10 6 dX8_setFlown_4 rfl (by decide) ?_
  refine J.iload_n 7 dX8_setFlown_6 rfl rfl ?_
  refine J.iast2 10 (by decide) 8 dX8_setFlown_7 rfl hK.arr4 (by unfold vp_in; decide) ?_
  refine ks_15_4 hK hF (fun h hK hF => ?_)
  exact J.vret dX8_setFlown_8 rfl (by rw [← hpost]; exact ⟨rfl, hK, hF⟩)
