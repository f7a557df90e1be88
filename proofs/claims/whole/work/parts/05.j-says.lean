def x_ask (S X : MS) (L : Nat → List Nat) (m y p : Int32) : MS := x_flown (x_hang S (x_goal S (x_time S X (S.1 0)) p.toNatClampNeg) (L (8 + m.toNatClampNeg))) (S.2 14 y.toNatClampNeg)
theorem x_ask_r {S X : MS} {L : Nat → List Nat} {m y p : Int32} (k : Nat) (h : k ≠ 1) : (x_ask S X L m y p).2 k = X.2 k := by
  simp only [x_ask, x_flown, x_hang, x_goal, x_time, u2_n h]
theorem x_ask_i {S X : MS} {L : Nat → List Nat} {m y p : Int32} : (x_ask S X L m y p).1 = X.1 := rfl
theorem ruOK_names {X X2 : MS} {sl : Nat → Nat} {i : Nat} (h : ruOK X sl i) (h2 : ∀ k, k ≠ 1 → k ≠ 2 → X2.2 k = X.2 k) : ruOK X2 sl i := by
  obtain ⟨h1, h3, h4, h5⟩ := h
  have e8 := h2 8 (by decide) (by decide)
  have e1 := h2 (100 + i) (by omega) (by omega)
  have es : szn X2 i = szn X i := by rw [szn, szn, e8]
  refine ⟨by rw [es, e8]; exact h1, by rw [es]; exact h3, h4, ?_⟩
  rw [es, e1]
  exact h5
theorem c_askAbout {G : Nat → Nat} {O : Nat → Prop} {ad : Nat → Nat → Nat} {S X : MS} {L : Nat → List Nat} {wn : Nat → Option Nat} {sl : Nat → Nat} {fl : Nat} {h h0 : AH} {d : Nat} {m y p : Int32} (hK : KR G O ad S X L wn sl fl h) (hF : KF O h0 h) (h0r : L 0 = List.range (L 0).length) (hb0 : (L 0).length ≤ 12) (h1r : L 1 = List.range (L 1).length) (hb1 : (L 1).length ≤ 4) (h2r : L 2 = List.range (L 2).length) (hb2 : (L 2).length ≤ 6) (hlen : ∀ k, k < (L 1).length → (L (8 + k)).length ≤ 80) (hh : vp_in (c_hour (S.1 0)) 12) (im : m.toNatClampNeg < (L 1).length ∧ nI m.toNatClampNeg = m) (iy : y.toNatClampNeg < (L 2).length ∧ nI y.toNatClampNeg = y) (ip : p.toNatClampNeg < (L 0).length ∧ nI p.toNatClampNeg = p) : Ct Y_X11_askAbout (d + 5) G 0 0 [.ref (ad 0 0), .int m, .int y, .int p] h (fun r h2 => r = none ∧ KR G O ad S (x_ask S X L m y p) L wn sl fl h2 ∧ KF O h0 h2) := by
  refine Ct.ofn 0 rfl (Nat.le_of_ble_eq_true rfl) (by simp [Value.category]) ?_
  generalize hpost : (fun (r : Option Value) (h2 : AH) => r = none ∧ KR G O ad S (x_ask S X L m y p) L wn sl fl h2 ∧ KF O h0 h2) = post
  show J Y_X11_askAbout (d + 5) G 0 0 0 [some (.ref (ad 0 0)), some (.int m), some (.int y), some (.int p)] [] h post
  refine J.aload_n 1 dX11_askAbout_0 rfl rfl ?_
  refine gf_X11_45 rfl 4 dX11_askAbout_1 rfl (hK.hut) (v := .ref (ad 12 0)) rfl ?_
  refine J.aload_n 5 dX11_askAbout_4 rfl rfl ?_
  refine gf_X11_31 rfl 8 dX11_askAbout_5 rfl (hK.hut) (v := .ref (ad 10 0)) rfl ?_
  refine J.aload_n 9 dX11_askAbout_8 rfl rfl ?_
  refine gf_X11_150 rfl 12 dX11_askAbout_9 rfl (hK.hut) (v := .int (S.1 0)) rfl ?_
  refine cv_X11_319 rfl 15 (c_setTime (h0 := h0) (t := S.1 0) hK hF hh) dX11_askAbout_12 rfl (hK.book) rfl rfl (Nat.le_of_ble_eq_true rfl) (Nat.zero_le _) (Nat.zero_le _) (fun r h hp => ?_)
  obtain ⟨rfl, hK, hF⟩ := hp
  refine J.aload_n 16 dX11_askAbout_15 rfl rfl ?_
  refine gf_X11_45 rfl 19 dX11_askAbout_16 rfl (hK.hut) (v := .ref (ad 12 0)) rfl ?_
  refine J.aload_n 20 dX11_askAbout_19 rfl rfl ?_
  refine gf_X11_10 rfl 23 dX11_askAbout_20 rfl (hK.hut) (v := .ref (ad 1 0)) rfl ?_
  refine J.iload_n 24 dX11_askAbout_23 rfl rfl ?_
  have kg := hK.get (d := d + 2) (r := 0) (i := p.toNatClampNeg) (by omega) (rng_get h0r ip.1)
  rw [ip.2] at kg
  refine cv_X11_132 rfl 27 kg dX11_askAbout_24 rfl (hK.listOb (by omega)).choose_spec rfl rfl (Nat.le_of_ble_eq_true rfl) (Nat.zero_le _) (Nat.zero_le _) (fun r h2 hp => ?_)
  obtain ⟨rfl, rfl⟩ := hp
  refine cc_X11_66 rfl 30 dX11_askAbout_27 rfl (hK.place ip.1) ?_
  refine cv_X11_323 rfl 33 (c_setGoal (h0 := h0) (p := p.toNatClampNeg) hK hF ip.1) dX11_askAbout_30 rfl (hK.book) rfl rfl (Nat.le_of_ble_eq_true rfl) (Nat.zero_le _) (Nat.zero_le _) (fun r h hp => ?_)
  obtain ⟨rfl, hK, hF⟩ := hp
  refine J.aload_n 34 dX11_askAbout_33 rfl rfl ?_
  refine gf_X11_45 rfl 37 dX11_askAbout_34 rfl (hK.hut) (v := .ref (ad 12 0)) rfl ?_
  refine J.aload_n 38 dX11_askAbout_37 rfl rfl ?_
  refine gf_X11_16 rfl 41 dX11_askAbout_38 rfl (hK.hut) (v := .ref (ad 1 1)) rfl ?_
  refine J.iload_n 42 dX11_askAbout_41 rfl rfl ?_
  have kg := hK.get (d := d + 2) (r := 1) (i := m.toNatClampNeg) (by omega) (rng_get h1r im.1)
  rw [im.2] at kg
  refine cv_X11_132 rfl 45 kg dX11_askAbout_42 rfl (hK.listOb (by omega)).choose_spec rfl rfl (Nat.le_of_ble_eq_true rfl) (Nat.zero_le _) (Nat.zero_le _) (fun r h2 hp => ?_)
  obtain ⟨rfl, rfl⟩ := hp
  refine cc_X11_83 rfl 48 dX11_askAbout_45 rfl (hK.mach im.1) ?_
  refine cv_X11_284 rfl 51 (c_setHanging (h0 := h0) (m := m.toNatClampNeg) hK hF im.1 (by have := hlen _ im.1; omega)) dX11_askAbout_48 rfl (hK.book) rfl rfl (Nat.le_of_ble_eq_true rfl) (Nat.zero_le _) (Nat.zero_le _) (fun r h hp => ?_)
  obtain ⟨rfl, hK, hF⟩ := hp
  refine J.aload_n 52 dX11_askAbout_51 rfl rfl ?_
  refine gf_X11_45 rfl 55 dX11_askAbout_52 rfl (hK.hut) (v := .ref (ad 12 0)) rfl ?_
  refine J.aload_n 56 dX11_askAbout_55 rfl rfl ?_
  refine gf_X11_19 rfl 59 dX11_askAbout_56 rfl (hK.hut) (v := .ref (ad 1 2)) rfl ?_
  refine J.iload_n 60 dX11_askAbout_59 rfl rfl ?_
  have kg := hK.get (d := d + 2) (r := 2) (i := y.toNatClampNeg) (by omega) (rng_get h2r iy.1)
  rw [iy.2] at kg
  refine cv_X11_132 rfl 63 kg dX11_askAbout_60 rfl (hK.listOb (by omega)).choose_spec rfl rfl (Nat.le_of_ble_eq_true rfl) (Nat.zero_le _) (Nat.zero_le _) (fun r h2 hp => ?_)
  obtain ⟨rfl, rfl⟩ := hp
  refine cc_X11_88 rfl 66 dX11_askAbout_63 rfl (hK.pil iy.1) ?_
  refine gf_X11_210 rfl 69 dX11_askAbout_66 rfl (hK.pil iy.1) (v := .int (S.2 14 y.toNatClampNeg)) rfl ?_
  refine cv_X11_326 rfl 72 (c_setFlown (h0 := h0) (f := S.2 14 y.toNatClampNeg) hK hF) dX11_askAbout_69 rfl (hK.book) rfl rfl (Nat.le_of_ble_eq_true rfl) (Nat.zero_le _) (Nat.zero_le _) (fun r h hp => ?_)
  obtain ⟨rfl, hK, hF⟩ := hp
  exact J.vret dX11_askAbout_72 rfl (by rw [← hpost]; exact ⟨rfl, hK, hF⟩)
def a_says (S X : MS) (L : Nat → List Nat) (i m y p : Int32) : Int32 := if (0 ≤ i ∧ i < nI (L 6).length) ∧ ((0 ≤ m ∧ m < nI (L 1).length) ∧ (0 ≤ y ∧ y < nI (L 2).length) ∧ (0 < p ∧ p < nI (L 0).length)) then evC (x_ask S X L m y p) i.toNatClampNeg else -2000000000
theorem c_says {G : Nat → Nat} {O : Nat → Prop} {ad : Nat → Nat → Nat} {S X : MS} {L : Nat → List Nat} {wn : Nat → Option Nat} {sl : Nat → Nat} {fl : Nat} {h h0 : AH} {d : Nat} {i m y p : Int32} (hK : KR G O ad S X L wn sl fl h) (hF : KF O h0 h) (h0r : L 0 = List.range (L 0).length) (hb0 : (L 0).length ≤ 12) (h1r : L 1 = List.range (L 1).length) (hb1 : (L 1).length ≤ 4) (h2r : L 2 = List.range (L 2).length) (hb2 : (L 2).length ≤ 6) (h6r : L 6 = List.range (L 6).length) (hb6 : (L 6).length ≤ 10) (hlen : ∀ k, k < (L 1).length → (L (8 + k)).length ≤ 80) (hh : vp_in (c_hour (S.1 0)) 12) (hru : ∀ i, i < (L 6).length → ruOK X sl i) : Ct Y_X11_says (d + 6) G 0 0 [.ref (ad 0 0), .int i, .int m, .int y, .int p] h (fun r h2 => r = some (.int (a_says S X L i m y p)) ∧ ∃ X2, (∀ k, k ≠ 0 → X2.1 k = X.1 k) ∧ (∀ k, k ≠ 1 → k ≠ 2 → X2.2 k = X.2 k) ∧ KR G O ad S X2 L wn sl fl h2 ∧ KF O h0 h2) := by
  refine Ct.ofn 0 rfl (Nat.le_of_ble_eq_true rfl) (by simp [Value.category]) ?_
  generalize hpost : (fun (r : Option Value) (h2 : AH) => r = some (.int (a_says S X L i m y p)) ∧ ∃ X2, (∀ k, k ≠ 0 → X2.1 k = X.1 k) ∧ (∀ k, k ≠ 1 → k ≠ 2 → X2.2 k = X.2 k) ∧ KR G O ad S X2 L wn sl fl h2 ∧ KF O h0 h2) = post
  show J Y_X11_says (d + 6) G 0 0 0 [some (.ref (ad 0 0)), some (.int i), some (.int m), some (.int y), some (.int p)] [] h post
  refine J.iload_n 1 dX11_says_0 rfl rfl ?_
  refine J.iconst 0 2 dX11_says_1 rfl (by decide) ?_
  refine J.aload_n 3 dX11_says_2 rfl rfl ?_
  refine gf_X11_45 rfl 6 dX11_says_3 rfl (hK.hut) (v := .ref (ad 12 0)) rfl ?_
  refine gf_X11_111 rfl 9 dX11_says_6 rfl (hK.book) (v := .ref (ad 1 6)) rfl ?_
  refine cv_X11_79 rfl 12 (hK.size (by omega)) dX11_says_9 rfl (hK.listOb (by omega)).choose_spec rfl rfl (Nat.le_of_ble_eq_true rfl) (Nat.zero_le _) (Nat.zero_le _) (fun r h2 hp => ?_)
  obtain ⟨rfl, rfl⟩ := hp
  refine J.iconst 1 13 dX11_says_12 rfl (by decide) ?_
  refine J.isub 14 dX11_says_13 rfl ?_
  refine cs_X11_75 rfl 17 (c_isWithin (v := i) (a := 0) (b := (nI (L 6).length) - 1) _ _) dX11_says_14 rfl rfl rfl (Nat.le_of_ble_eq_true rfl) (Nat.zero_le _) (Nat.zero_le _) (fun r h2 hp => ?_)
  obtain ⟨rfl, rfl⟩ := hp
  refine J.if_eq 31 20 dX11_says_17 (by decide) rfl (fun c1 => ?_) (fun c1 => ?_)
  · skip
    have hi0 : ¬ (0 ≤ i ∧ i < nI (L 6).length) := fun z => ib_0.mp c1 ((lt1b (show (L 6).length ≤ 100000 by omega) i).mpr z)
    refine J.ldc (-2000000000) 33 dX11_says_31 rfl wm_625 ?_
    exact J.iret dX11_says_33 rfl (by rw [← hpost]; exact ⟨by rw [a_says, if_neg (fun z => hi0 z.1)], _, fun _ _ => rfl, fun _ _ _ => rfl, hK, hF⟩)
  · skip
    have hi0 := (lt1b (show (L 6).length ≤ 100000 by omega) i).mp (ib_n.mp c1)
    have ii := idx_of hi0 (show (L 6).length ≤ 100000 by omega)
    refine J.aload_n 21 dX11_says_20 rfl rfl ?_
    refine J.iload_n 22 dX11_says_21 rfl rfl ?_
    refine J.iload_n 23 dX11_says_22 rfl rfl ?_
    refine J.iload 25 dX11_says_23 rfl rfl ?_
    refine cv_X11_125 rfl 28 (c_isFlight (m := m) (y := y) (p := p) hK (by omega) (by omega) (by omega)) dX11_says_25 rfl (hK.hut) rfl rfl (Nat.le_of_ble_eq_true rfl) (Nat.zero_le _) (Nat.zero_le _) (fun r h2 hp => ?_)
    obtain ⟨rfl, rfl⟩ := hp
    refine J.if_ne 34 31 dX11_says_28 (by decide) rfl (fun c2 => ?_) (fun c2 => ?_)
    · skip
      have hok := ib_n.mp c2
      have im := idx_of hok.1 (show (L 1).length ≤ 100000 by omega)
      have iy := idx_of hok.2.1 (show (L 2).length ≤ 100000 by omega)
      have ip := idx_of1 hok.2.2 (show (L 0).length ≤ 100000 by omega)
      refine J.aload_n 35 dX11_says_34 rfl rfl ?_
      refine J.iload_n 36 dX11_says_35 rfl rfl ?_
      refine J.iload_n 37 dX11_says_36 rfl rfl ?_
      refine J.iload 39 dX11_says_37 rfl rfl ?_
      refine cv_X11_129 rfl 42 (c_askAbout (h0 := h0) (m := m) (y := y) (p := p) hK hF h0r hb0 h1r hb1 h2r hb2 hlen hh im iy ip) dX11_says_39 rfl (hK.hut) rfl rfl (Nat.le_of_ble_eq_true rfl) (Nat.zero_le _) (Nat.zero_le _) (fun r h hp => ?_)
      obtain ⟨rfl, hK, hF⟩ := hp
      refine J.aload_n 43 dX11_says_42 rfl rfl ?_
      refine gf_X11_45 rfl 46 dX11_says_43 rfl (hK.hut) (v := .ref (ad 12 0)) rfl ?_
      refine J.aload_n 47 dX11_says_46 rfl rfl ?_
      refine gf_X11_45 rfl 50 dX11_says_47 rfl (hK.hut) (v := .ref (ad 12 0)) rfl ?_
      refine gf_X11_111 rfl 53 dX11_says_50 rfl (hK.book) (v := .ref (ad 1 6)) rfl ?_
      refine J.iload_n 54 dX11_says_53 rfl rfl ?_
      have kg := hK.get (d := d + 3) (r := 6) (i := i.toNatClampNeg) (by omega) (rng_get h6r ii.1)
      rw [ii.2] at kg
      refine cv_X11_132 rfl 57 kg dX11_says_54 rfl (hK.listOb (by omega)).choose_spec rfl rfl (Nat.le_of_ble_eq_true rfl) (Nat.zero_le _) (Nat.zero_le _) (fun r h2 hp => ?_)
      obtain ⟨rfl, rfl⟩ := hp
      refine cc_X11_135 rfl 60 dX11_says_57 rfl (hK.rule ii.1) ?_
      obtain ⟨r1, r2, r3, r4⟩ := ruOK_names (X2 := (x_ask S X L m y p)) (hru i.toNatClampNeg ii.1) (fun k k1 _ => x_ask_r k k1)
      refine cv_X11_137 rfl 63 (c_workOut (h0 := h0) (X0 := (x_ask S X L m y p)) (i := i.toNatClampNeg) (q := szn (x_ask S X L m y p) i.toNatClampNeg) hK hF xR.refl ii.1 r1 r2 r3 r4) dX11_says_60 rfl (hK.book) rfl rfl (Nat.le_of_ble_eq_true rfl) (Nat.zero_le _) (Nat.zero_le _) (fun r h hp => ?_)
      obtain ⟨rfl, X2, hx2, hK, hF⟩ := hp
      exact J.iret dX11_says_63 rfl (by rw [← hpost]; exact ⟨by rw [a_says, if_pos ⟨hi0, hok⟩]; rfl, _, fun k hk => (hx2.1 k hk).trans (congrFun x_ask_i k), fun k k1 k2 => (hx2.2 k k2).trans (x_ask_r k k1), hK, hF⟩)
    · skip
      have hok := ib_0.mp c2
      refine J.ldc (-2000000000) 33 dX11_says_31 rfl wm_625 ?_
      exact J.iret dX11_says_33 rfl (by rw [← hpost]; exact ⟨by rw [a_says, if_neg (fun z => hok z.2)], _, fun _ _ => rfl, fun _ _ _ => rfl, hK, hF⟩)
