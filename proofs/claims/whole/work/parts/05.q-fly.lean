section TKS
variable {S X X' : MS} {l : List Nat} {f t : Int32}
theorem tkN_S (k : Nat) : (tkN S X l f t k).1 = (tkN S X' l f t k).1 := by
  induction k with
  | zero => rfl
  | succ k ih => simp only [tkN, ih]
theorem tkN_Xi (k : Nat) : (tkN S X l f t k).2.1 = X.1 := by
  induction k with
  | zero => rfl
  | succ k ih => simp only [tkN, ih]
theorem tkN_Xr (k : Nat) {j : Nat} (hj : j ≠ 0) : (tkN S X l f t k).2.2 j = X.2 j := by
  induction k with
  | zero => rfl
  | succ k ih => simp only [tkN, u2_n hj, ih]
end TKS
section B4X
variable {S X X' : MS} {L : Nat → List Nat} {f : Nat}
theorem a_b3_S : (a_b3 S X L f).1 = (a_b3 S X' L f).1 := tkN_S _
theorem a_b4_S : (a_b4 S X L f).1 = (a_b4 S X' L f).1 := by
  rw [a_b4, a_b4, a_b3_S (X := X) (X' := X')]
  exact tkN_S _
theorem a_b4_Xi : (a_b4 S X L f).2.1 = X.1 := by
  rw [a_b4, tkN_Xi, a_b3, tkN_Xi]
theorem tkN_X0 {l : List Nat} {g t : Int32} (h : X.2 0 = X'.2 0) (k : Nat) : (tkN S X l g t k).2.2 0 = (tkN S X' l g t k).2.2 0 := by
  induction k with
  | zero => exact h
  | succ k ih => simp only [tkN, u2_s, ih]
theorem a_b4_X0 (h : X.2 0 = X'.2 0) : (a_b4 S X L f).2.2 0 = (a_b4 S X' L f).2.2 0 := by
  rw [a_b4, a_b4, a_b3_S (X := X) (X' := X')]
  exact tkN_X0 (S := (a_b3 S X' L f).1) (tkN_X0 h _) _
theorem a_b4_Xr {j : Nat} (hj : j ≠ 0) : (a_b4 S X L f).2.2 j = X.2 j := by
  rw [a_b4, tkN_Xr _ hj, a_b3, tkN_Xr _ hj]
end B4X
def a_fl (S X : MS) (L : Nat → List Nat) (m y p : Int32) : Prop := ((0 ≤ m ∧ m < nI (L 1).length) ∧ (0 ≤ y ∧ y < nI (L 2).length) ∧ (0 < p ∧ p < nI (L 0).length)) ∧ a_why (a_plan S L m y p) X (lset L 5 (a_rid S L m p)) (L 4).length = 0 ∧ (L 4).length < 200
def a_flS (S : MS) (L : Nat → List Nat) (m y p : Int32) : MS := (a_b4 (a_plan S L m y p) (fun _ => 0, fun _ _ => 0) (lset L 5 (a_rid S L m p)) (L 4).length).1
def a_fly (S X : MS) (L : Nat → List Nat) (m y p : Int32) : Int32 := if ((0 ≤ m ∧ m < nI (L 1).length) ∧ (0 ≤ y ∧ y < nI (L 2).length) ∧ (0 < p ∧ p < nI (L 0).length)) then (if a_why (a_plan S L m y p) X (lset L 5 (a_rid S L m p)) (L 4).length = 0 then (if (L 4).length < 200 then nI (L 4).length else -2) else -10 - a_why (a_plan S L m y p) X (lset L 5 (a_rid S L m p)) (L 4).length) else -1
theorem nI_m1 {n : Nat} : nI (n + 1) - 1 = nI n := by
  rw [← nI_1 n]
  exact Int32.add_sub_cancel _ _
theorem c_fly {G : Nat → Nat} {O : Nat → Prop} {ad : Nat → Nat → Nat} {S X : MS} {L : Nat → List Nat} {wn : Nat → Option Nat} {sl : Nat → Nat} {fl : Nat} {h h0 : AH} {d : Nat} {m y p : Int32} (hK : KR G O ad S X L wn sl fl h) (hF : KF O h0 h) (h0r : L 0 = List.range (L 0).length) (hb0 : (L 0).length ≤ 12) (h1r : L 1 = List.range (L 1).length) (hb1 : (L 1).length ≤ 4) (h2r : L 2 = List.range (L 2).length) (hb2 : (L 2).length ≤ 6) (h3r : L 3 = List.range (L 3).length) (hb3 : (L 3).length ≤ 80) (h4r : L 4 = List.range (L 4).length) (hb4 : (L 4).length ≤ 200) (h6r : L 6 = List.range (L 6).length) (hb6 : (L 6).length ≤ 10) (hlen : ∀ k, k < (L 1).length → (L (8 + k)).length ≤ 80) (hru : ∀ i, i < (L 6).length → ruOK X sl i) (hfl : (L 4).length ≤ fl) (hb5 : (L 5).length ≤ 80) (hh : vp_in (c_hour (S.1 0)) 12) (hh2 : ((0 ≤ m ∧ m < nI (L 1).length) ∧ (0 ≤ y ∧ y < nI (L 2).length) ∧ (0 < p ∧ p < nI (L 0).length)) → vp_in (c_hour (S.1 0 + a_way S L m p)) 12) : Ct Y_X11_fly (d + 9) G ((L 3).length + 2) (170 * (L 3).length + 419) [.ref (ad 0 0), .int m, .int y, .int p] h (fun r h2 => r = some (.int (a_fly S X L m y p)) ∧ ((a_fl S X L m y p ∧ ∃ ad2 X2, (∀ c i, c ≠ 7 → ad2 c i = ad c i) ∧ (∀ k, k ≠ 0 → X2.1 k = X.1 k) ∧ (∀ k, k ≠ 0 → k ≠ 1 → k ≠ 2 → X2.2 k = X.2 k) ∧ X2.2 0 = (a_b4 (a_plan S L m y p) X (lset L 5 (a_rid S L m p)) (L 4).length).2.2 0 ∧ KR G O ad2 (a_flS S L m y p) X2 (lset (lset (lset L 5 (a_rid S L m p)) (8 + m.toNatClampNeg) []) 4 (L 4 ++ [(L 4).length])) wn sl ((L 4).length + 1) h2 ∧ KF O h0 h2) ∨ (¬ a_fl S X L m y p ∧ ∃ ad2 X2 l, (∀ c i, c ≠ 7 → ad2 c i = ad c i) ∧ (∀ k, k ≠ 0 → X2.1 k = X.1 k) ∧ (∀ k, k ≠ 1 → k ≠ 2 → X2.2 k = X.2 k) ∧ l.length ≤ 80 ∧ KR G O ad2 S X2 (lset L 5 l) wn sl (L 4).length h2 ∧ KF O h0 h2))) := by
  refine Ct.ofn 2 rfl (Nat.le_of_ble_eq_true rfl) (by simp [Value.category]) ?_
  generalize hpost : (fun (r : Option Value) (h2 : AH) => r = some (.int (a_fly S X L m y p)) ∧ ((a_fl S X L m y p ∧ ∃ ad2 X2, (∀ c i, c ≠ 7 → ad2 c i = ad c i) ∧ (∀ k, k ≠ 0 → X2.1 k = X.1 k) ∧ (∀ k, k ≠ 0 → k ≠ 1 → k ≠ 2 → X2.2 k = X.2 k) ∧ X2.2 0 = (a_b4 (a_plan S L m y p) X (lset L 5 (a_rid S L m p)) (L 4).length).2.2 0 ∧ KR G O ad2 (a_flS S L m y p) X2 (lset (lset (lset L 5 (a_rid S L m p)) (8 + m.toNatClampNeg) []) 4 (L 4 ++ [(L 4).length])) wn sl ((L 4).length + 1) h2 ∧ KF O h0 h2) ∨ (¬ a_fl S X L m y p ∧ ∃ ad2 X2 l, (∀ c i, c ≠ 7 → ad2 c i = ad c i) ∧ (∀ k, k ≠ 0 → X2.1 k = X.1 k) ∧ (∀ k, k ≠ 1 → k ≠ 2 → X2.2 k = X.2 k) ∧ l.length ≤ 80 ∧ KR G O ad2 S X2 (lset L 5 l) wn sl (L 4).length h2 ∧ KF O h0 h2))) = post
  show J Y_X11_fly (d + 9) G ((L 3).length + 2) (170 * (L 3).length + 419) 0 [some (.ref (ad 0 0)), some (.int m), some (.int y), some (.int p), none, none] [] h post
  refine J.aload_n 1 dX11_fly_0 rfl rfl ?_
  refine J.iload_n 2 dX11_fly_1 rfl rfl ?_
  refine J.iload_n 3 dX11_fly_2 rfl rfl ?_
  refine J.iload_n 4 dX11_fly_3 rfl rfl ?_
  refine cv_X11_125 rfl 7 (c_isFlight (m := m) (y := y) (p := p) hK (by omega) (by omega) (by omega)) dX11_fly_4 rfl (hK.hut) rfl rfl (Nat.le_of_ble_eq_true rfl) (Nat.zero_le _) (Nat.zero_le _) (fun r h2 hp => ?_)
  obtain ⟨rfl, rfl⟩ := hp
  refine J.if_ne 12 10 dX11_fly_7 (by decide) rfl (fun c1 => ?_) (fun c1 => ?_)
  · skip
    have hok := ib_n.mp c1
    have im := idx_of hok.1 (show (L 1).length ≤ 100000 by omega)
    have iy := idx_of hok.2.1 (show (L 2).length ≤ 100000 by omega)
    have ip := idx_of1 hok.2.2 (show (L 0).length ≤ 100000 by omega)
    have hh2 := hh2 hok
    refine J.aload_n 13 dX11_fly_12 rfl rfl ?_
    refine J.iload_n 14 dX11_fly_13 rfl rfl ?_
    refine J.iload_n 15 dX11_fly_14 rfl rfl ?_
    refine J.iload_n 16 dX11_fly_15 rfl rfl ?_
    refine cv_X11_173 rfl 19 (c_planned (h0 := h0) (m := m) (y := y) (p := p) hK hF h0r hb0 h1r hb1 h3r hb3 h4r hb4 hlen hfl im ip hh2) dX11_fly_16 rfl (hK.hut) rfl rfl (Nat.le_of_ble_eq_true rfl) (by omega) (by omega) (fun r h hp => ?_)
    obtain ⟨q, rfl, hqq, hK, hF⟩ := hp
    show J _ _ _ _ _ _ _ [.ref q] _ _
    rw [show Value.ref q = Value.ref ((adU ad 7 (L 4).length q) 7 (L 4).length) from by rw [← hqq]]
    refine J.ast_4 21 dX11_fly_19 rfl (by decide) ?_
    refine J.aload_n 22 dX11_fly_21 rfl rfl ?_
    refine J.aload 24 dX11_fly_22 rfl rfl ?_
    have kw := c_why (d := d + 2) (h0 := h0) (f := (L 4).length) hK hF (by rw [lset_n (by decide)]; exact h0r) (by rw [lset_n (by decide)]; exact hb0) (by rw [lset_n (by decide)]; exact h1r) (by rw [lset_n (by decide)]; exact hb1) (by rw [lset_n (by decide)]; exact h2r) (by rw [lset_n (by decide)]; exact hb2) (by rw [lset_n (by decide)]; exact h6r) (by rw [lset_n (by decide)]; exact hb6) (fun k hk => by rw [lset_n (by decide)] at hk; rw [lset_n (by omega)]; exact hlen k hk) (fun i hi => hru i (by rw [lset_n (by decide)] at hi; exact hi)) (Nat.lt_succ_self _) (by rw [a_plan_36, lset_n (by decide)]; exact im) (by rw [a_plan_37, lset_n (by decide)]; exact iy) (by rw [a_plan_38, lset_n (by decide)]; exact ip) hh (by rw [a_plan_40]; exact hh2)
    refine cv_X11_177 rfl 27 kw dX11_fly_24 rfl (hK.hut) rfl rfl (Nat.le_of_ble_eq_true rfl) (Nat.zero_le _) (Nat.zero_le _) (fun r h hp => ?_)
    obtain ⟨rfl, X2, hx1, hx2, hK, hF⟩ := hp
    refine J.ist_5 29 dX11_fly_27 rfl (by decide) ?_
    refine J.iload 31 dX11_fly_29 rfl rfl ?_
    refine J.if_eq 40 34 dX11_fly_31 (by decide) rfl (fun c2 => ?_) (fun c2 => ?_)
    · skip
      have hw := c2
      refine J.aload_n 41 dX11_fly_40 rfl rfl ?_
      refine gf_X11_25 rfl 44 dX11_fly_41 rfl (hK.hut) (v := .ref ((adU ad 7 (L 4).length q) 1 4)) rfl ?_
      have ks := hK.size (d := d + 8) (r := 4) (by omega)
      rw [lset_n (by decide)] at ks
      refine cv_X11_79 rfl 47 ks dX11_fly_44 rfl (hK.listOb (r := 4) (by omega)).choose_spec rfl rfl (Nat.le_of_ble_eq_true rfl) (Nat.zero_le _) (Nat.zero_le _) (fun r h2 hp => ?_)
      obtain ⟨rfl, rfl⟩ := hp
      refine J.sipush 200 50 dX11_fly_47 rfl (by decide) ?_
      refine J.icmp_lt 56 53 dX11_fly_50 (by decide) rfl (fun c3 => ?_) (fun c3 => ?_)
      · skip
        have hn := (nI_ltI (b := 200) (by omega) (by omega)).mp c3
        refine J.aload_n 57 dX11_fly_56 rfl rfl ?_
        refine J.aload 59 dX11_fly_57 rfl rfl ?_
        have kb := c_begin (d := d + 1) (h0 := h0) (f := (L 4).length) hK hF (by rw [lset_n (by decide)]; exact h1r) (by rw [lset_n (by decide)]; exact hb1) (by rw [lset_n (by decide)]; exact h2r) (by rw [lset_n (by decide)]; exact hb2) (fun k hk => by rw [lset_n (by decide)] at hk; rw [lset_n (by omega)]; exact hlen k hk) (by rw [lset_s]; exact Nat.le_trans (rid_len _ _ _ _ _) hb3) (by rw [lset_n (by decide)]; exact hb3) (by rw [lset_n (by decide)]; exact hb4) (Nat.lt_succ_self _) (by rw [a_plan_36, lset_n (by decide)]; exact im) (by rw [a_plan_37, lset_n (by decide)]; exact iy)
        rw [a_plan_36, show (lset L 5 (a_rid S L m p)) 4 = L 4 from lset_n (by decide)] at kb
        refine cv_X11_181 rfl 62 kb dX11_fly_59 rfl (hK.hut) rfl rfl (Nat.le_of_ble_eq_true rfl) (by omega) (by omega) (fun r h hp => ?_)
        obtain ⟨rfl, hK, hF⟩ := hp
        refine J.aload_n 63 dX11_fly_62 rfl rfl ?_
        refine gf_X11_25 rfl 66 dX11_fly_63 rfl (hK.hut) (v := .ref ((adU ad 7 (L 4).length q) 1 4)) rfl ?_
        have ks := hK.size (d := d + 8) (r := 4) (by omega)
        rw [lset_s, List.length_append, List.length_singleton] at ks
        refine cv_X11_79 rfl 69 ks dX11_fly_66 rfl (hK.listOb (r := 4) (by omega)).choose_spec rfl rfl (Nat.le_of_ble_eq_true rfl) (Nat.zero_le _) (Nat.zero_le _) (fun r h2 hp => ?_)
        obtain ⟨rfl, rfl⟩ := hp
        refine J.iconst 1 70 dX11_fly_69 rfl (by decide) ?_
        refine J.isub 71 dX11_fly_70 rfl ?_
        exact J.iret dX11_fly_71 rfl (by rw [← hpost]; exact ⟨by rw [a_fly, if_pos hok, if_pos hw, if_pos hn, nI_m1], Or.inl ⟨⟨hok, hw, hn⟩, (adU ad 7 (L 4).length q), _, fun c i hc => adU_n (fun z => hc z.1), fun k hk => (congrFun a_b4_Xi k).trans (hx1 k hk), fun k k0 k1 k2 => (a_b4_Xr k0).trans (hx2 k k1 k2), a_b4_X0 (hx2 0 (by decide) (by decide)), by rw [a_flS, a_b4_S (X' := X2)]; exact hK, hF⟩⟩)
      · skip
        have hn := fun z => c3 ((nI_ltI (b := 200) (by omega) (by omega)).mpr z)
        refine J.bipush (-2) 55 dX11_fly_53 rfl (by decide) ?_
        exact J.iret dX11_fly_55 rfl (by rw [← hpost]; exact ⟨by rw [a_fly, if_pos hok, if_pos hw, if_neg hn], Or.inr ⟨fun z => hn z.2.2, (adU ad 7 (L 4).length q), X2, a_rid S L m p, fun c i hc => adU_n (fun z => hc z.1), hx1, hx2, Nat.le_trans (rid_len _ _ _ _ _) hb3, hK.back h4r, hF⟩⟩)
    · skip
      have hw := c2
      refine J.bipush (-10) 36 dX11_fly_34 rfl (by decide) ?_
      refine J.iload 38 dX11_fly_36 rfl rfl ?_
      refine J.isub 39 dX11_fly_38 rfl ?_
      exact J.iret dX11_fly_39 rfl (by rw [← hpost]; exact ⟨by rw [a_fly, if_pos hok, if_neg hw], Or.inr ⟨fun z => hw z.2.1, (adU ad 7 (L 4).length q), X2, a_rid S L m p, fun c i hc => adU_n (fun z => hc z.1), hx1, hx2, Nat.le_trans (rid_len _ _ _ _ _) hb3, hK.back h4r, hF⟩⟩)
  · skip
    refine J.iconst (-1) 11 dX11_fly_10 rfl (by decide) ?_
    exact J.iret dX11_fly_11 rfl (by rw [← hpost]; exact ⟨by rw [a_fly, if_neg (ib_0.mp (by assumption))], Or.inr ⟨fun z => ib_0.mp (by assumption) z.1, ad, X, L 5, fun _ _ _ => rfl, fun _ _ => rfl, fun _ _ _ => rfl, hb5, by rw [lset_id]; exact hK.shrinkF h4r hfl, hF⟩⟩)
