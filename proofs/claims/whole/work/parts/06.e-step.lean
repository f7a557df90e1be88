/-! ===== drop, minute, hang, off ===== -/
theorem s_minN_r (T : MS) {j : Nat} (h1 : j ≠ 23) (h2 : j ≠ 26) : ∀ k, (s_minN T k).2 j = T.2 j
  | 0 => rfl
  | k + 1 => by
    have ih := s_minN_r T h1 h2 k
    have e : ∀ (Y : MS) (v : Int32), u2 (u2 Y.2 23 k 3) 26 k v j = Y.2 j := fun Y v => by rw [u2_n h2, u2_n h1]
    simp only [s_minN]
    (repeat' split) <;> first | exact ih | exact (e _ _).trans ih
theorem s_minN_c (T : MS) : ∀ k j, (s_minN T k).2 23 j = T.2 23 j ∨ (T.2 23 j = 2 ∧ (s_minN T k).2 23 j = 3)
  | 0, _ => Or.inl rfl
  | k + 1, j => by
    have ih := s_minN_c T k j
    have e : ∀ v, u2 (u2 (s_minN T k).2 23 k 3) 26 k v 23 j = upd ((s_minN T k).2 23) k 3 j := fun v => by rw [u2_n (by decide), u2_s]
    have key : (s_minN T k).2 23 k = 2 → ∀ v, u2 (u2 (s_minN T k).2 23 k 3) 26 k v 23 j = T.2 23 j ∨ (T.2 23 j = 2 ∧ u2 (u2 (s_minN T k).2 23 k 3) 26 k v 23 j = 3) := by
      intro h2 v
      rw [e v]
      by_cases q : j = k
      · subst q
        rw [pk_us]
        exact Or.inr ⟨(s_minN_23 T j j (Nat.le_refl _)).symm.trans h2, rfl⟩
      · rw [pk_un q]
        exact ih
    simp only [s_minN]
    (repeat' split) <;> first | exact ih | exact key (by assumption) 0
theorem minN_eq {T X : MS} {t : Int32} {n nf : Nat} (ht : T.1 0 = t) (hf : nf ≤ 100000) (hfy : IFl (T.2 20) (T.2 23) (T.2 25) (X.2 0) (T.2 40) (T.2 41) n nf) : ∀ k, k ≤ n → a_minN T X t k = s_minN T k
  | 0, _ => rfl
  | k + 1, hk => by
    rw [a_minN, minN_eq ht hf hfy k (by omega), s_minN, a_shel]
    have e1 : (s_minN T k).1 0 = t := by rw [s_minN_1]; exact ht
    have e23 := s_minN_23 T k k (Nat.le_refl _)
    by_cases h2 : (s_minN T k).2 23 k = 2
    · obtain ⟨f, f1, f2, f3⟩ := hfy k (by omega) (e23.symm.trans h2)
      have ef : ((s_minN T k).2 25 k).toNatClampNeg = f := by rw [s_minN_r T (by decide) (by decide), f2]; exact nI_clamp (by omega)
      rw [if_pos h2, ef, e1, s_minN_r T (j := 20) (by decide) (by decide), s_minN_r T (j := 40) (by decide) (by decide), s_minN_r T (j := 41) (by decide) (by decide)]
      by_cases h4 : T.2 20 k = 4
      · rw [if_pos h4] at f3
        rw [if_pos h4, f3]
        by_cases h5 : t < T.2 41 f
        · rw [if_pos h5, if_neg (fun z => Int32.not_lt.mpr z.2 h5)]
        · rw [if_neg h5, if_pos ⟨h2, Int32.not_lt.mp h5⟩]
      · rw [if_neg h4] at f3
        rw [if_neg h4, f3]
        by_cases h5 : t < T.2 40 f
        · rw [if_pos h5, if_neg (fun z => Int32.not_lt.mpr z.2 h5)]
        · rw [if_neg h5, if_pos ⟨h2, Int32.not_lt.mp h5⟩]
    · rw [if_neg h2, if_neg (fun z => h2 z.1)]
/-- a number of one side under a sum -/
theorem rg_add {x y : Int32} {a b : Nat} (hx : rg x a) (hy : rg y b) : rg (x + y) (a + b) := by
  obtain ⟨i, hi, rfl⟩ := hx
  obtain ⟨j, hj, rfl⟩ := hy
  exact ⟨i + j, by omega, nI_add i j⟩
theorem rg_cut {x : Int32} {a b : Nat} (hx : rg x a) (ha : a ≤ 100000) (hb : b ≤ 100000) (h : ¬ nI b < x) : rg x b := by
  obtain ⟨i, hi, rfl⟩ := hx
  refine ⟨i, ?_, rfl⟩
  exact Nat.not_lt.mp (fun z => h ((nI_ltI (by omega) (by omega)).mpr z))
section ST
variable {G : Nat → Nat} {x0 m0 : Nat} {adm : Nat → Nat} {S X : MS} {L : Nat → List Nat} {wn : Nat → Option Nat} {sl : Nat → Nat} {fl : Nat} {ad : Nat → Nat → Nat} {h : AH}
theorem t_drop (hM : MR m0 adm S h) (hK : KR G (OM m0 adm) ad S X L wn sl fl h) (ha : ad 0 0 = x0) (hI : Inv S X L wn sl fl) : Two G x0 m0 adm Y_X11_drop Y_X12_drop [] h := by
  have e0 : (S.1 33 = 0) ↔ (L 6).length = 0 := by
    rw [hI.co.n6]
    exact nI_eq (b := 0) (by have := hI.co.b6; omega) (by decide)
  have hv : a_drop L = r_drop S := by
    rw [a_drop, r_drop]
    by_cases h1 : (L 6).length = 0
    · rw [if_pos h1, if_pos (e0.mpr h1)]
    · rw [if_neg h1, if_neg (fun z => h1 (e0.mp z)), hI.co.n6, nI_sub1 (by omega)]
  have hc := c_drop (d := 17) (h0 := h) hK (KF.self hM) hI.co.r6 hI.co.b6
  rw [ha] at hc
  refine two_of (Q := fun S2 => S2 = s_drop S) (v := r_drop S) hM (Nat.zero_le _) (Nat.zero_le _) (hc.weaken (fun r h2 hp => ?_)) (k_drop (d := 20))
  obtain ⟨e, hp⟩ := hp
  refine ⟨by rw [e, hv], ?_⟩
  rcases hp with ⟨h1, hK2, hF2⟩ | ⟨h1, hK2, hF2⟩
  · refine ⟨_, _, _, _, _, _, _, hK2, hF2, ha, fun S2 z => ?_⟩
    subst z
    rw [s_drop, if_neg (fun z => h1 (e0.mp z))]
    refine ⟨sS.of rfl rfl (fun k _ _ _ _ _ _ _ _ _ _ _ => rfl), ?_⟩
    have hlen : (lset L 6 (List.range ((L 6).length - 1)) 6).length = (L 6).length - 1 := by rw [lset_s, List.length_range]
    refine ⟨?_, hI.tm, hI.tp, hI.tb, hI.pl, hI.ma, hI.pi, hI.lo, hI.st, ?_, hI.fy, ?_, hI.li, hI.be, hI.sc⟩
    · have c := hI.co
      refine ⟨c.r0, c.r1, c.r2, c.r3, c.r4, ?_, c.p0, c.b0, c.b1, c.b2, c.b3, c.b4, c.b5, ?_, c.b7, c.n0, c.n1, c.n2, c.n3, c.n4, ?_, c.hfl⟩
      · rw [hlen, lset_s]
      · rw [hlen]; have := c.b6; omega
      · rw [hlen]
        show S.1 33 - 1 = _
        rw [c.n6, nI_sub1 (by omega)]
    · rw [hagL (by decide)]
      exact hI.ha
    · rw [hlen]
      exact fun i hi => hI.ru i (by omega)
  · refine ⟨S, X, L, wn, sl, fl, ad, hK2, hF2, ha, fun S2 z => ?_⟩
    subst z
    rw [s_drop, if_pos (e0.mpr h1)]
    exact ⟨sS.same0, hI⟩
theorem t_minute {x : Int32} (hM : MR m0 adm S h) (hK : KR G (OM m0 adm) ad S X L wn sl fl h) (ha : ad 0 0 = x0) (hI : Inv S X L wn sl fl) : Two G x0 m0 adm Y_X11_minute Y_X12_minute [.int x] h := by
  have hc := c_minute (d := 17) (h0 := h) (x := x) hK (KF.self hM) hI.co.r3 hI.co.b3
  rw [ha] at hc
  have b4 := hI.co.b4
  refine two_of (Q := fun S2 => S2 = s_minute S (L 3).length x) (v := r_minute S x) hM (Nat.zero_le _) (Nat.zero_le _) (hc.weaken (fun r h2 hp => ?_)) (k_minute (d := 19) hI.co.n3 hI.co.b3 (fun k hk z => ?_))
  · obtain ⟨e, hK2, hF2⟩ := hp
    refine ⟨e, _, _, _, _, _, _, _, hK2, hF2, ha, fun S2 z => ?_⟩
    subst z
    rw [a_minute, s_minute]
    by_cases hcn : ¬ (1 ≤ x ∧ x ≤ 120) ∨ 720 < S.1 0 + x
    · rw [if_pos hcn, if_pos hcn]
      exact ⟨sS.same0, hI⟩
    · rw [if_neg hcn, if_neg hcn, minN_eq (T := (vf_upd S.1 0 (S.1 0 + x), S.2)) (t := S.1 0 + x) (nf := (L 4).length) rfl (by omega) hI.fy _ (Nat.le_refl _)]
      refine ⟨sS.same0, ?_⟩
      generalize hT : ((vf_upd S.1 0 (S.1 0 + x), S.2) : MS) = T
      have hr : ∀ j, j ≠ 23 → j ≠ 26 → (s_minN T (L 3).length).2 j = S.2 j := fun j a b => by rw [s_minN_r T a b, ← hT]
      have hi1 : ∀ j, j ≠ 0 → (s_minN T (L 3).length).1 j = S.1 j := fun j a => by
        rw [s_minN_1, ← hT]
        show vf_upd S.1 0 _ j = _
        rw [vf_upd, if_neg a]
      have h0 : (s_minN T (L 3).length).1 0 = S.1 0 + x := by
        rw [s_minN_1, ← hT]
        rfl
      have h23 : ∀ j, (s_minN T (L 3).length).2 23 j = S.2 23 j ∨ (S.2 23 j = 2 ∧ (s_minN T (L 3).length).2 23 j = 3) := fun j => by
        have := s_minN_c T (L 3).length j
        rw [← hT] at this ⊢
        exact this
      have h1 : 1 ≤ x ∧ x ≤ 120 := Classical.byContradiction (fun z => hcn (Or.inl z))
      unfold Inv
      rw [hi1 3 (by decide), hi1 11 (by decide), hi1 16 (by decide), hi1 28 (by decide), hi1 45 (by decide), hi1 33 (by decide), hi1 30 (by decide), hi1 51 (by decide), hi1 55 (by decide), h0, hr 29 (by decide) (by decide), hr 1 (by decide) (by decide), hr 2 (by decide) (by decide), hr 8 (by decide) (by decide), hr 9 (by decide) (by decide), hr 10 (by decide) (by decide), hr 12 (by decide) (by decide), hr 13 (by decide) (by decide), hr 14 (by decide) (by decide), hr 15 (by decide) (by decide), hr 17 (by decide) (by decide), hr 18 (by decide) (by decide), hr 19 (by decide) (by decide), hr 20 (by decide) (by decide), hr 21 (by decide) (by decide), hr 24 (by decide) (by decide), hr 25 (by decide) (by decide), hr 27 (by decide) (by decide), hr 40 (by decide) (by decide), hr 41 (by decide) (by decide), hr 31 (by decide) (by decide), hr 32 (by decide) (by decide), hr 50 (by decide) (by decide), hr 53 (by decide) (by decide)]
      refine ⟨hI.co, ?_, hI.tp, hI.tb, hI.pl, hI.ma, hI.pi, hI.lo, ⟨fun i hi => ⟨?_, (hI.st.nw i hi).2⟩, hI.st.by_⟩, ?_, ?_, hI.ru, hI.li, hI.be, hI.sc⟩
      · exact rg_cut (rg_add hI.tm (rg_of (Int32.le_trans (by decide) h1.1) h1.2 (by decide) : rg x 120)) (by decide) (by decide) (fun z => hcn (Or.inr z))
      · rcases h23 i with q | ⟨q, -⟩
        · rw [q]; exact (hI.st.nw i hi).1
        · exact absurd ((hI.st.nw i hi).1.symm.trans q) (by decide)
      · refine hI.ha.congr (fun i hi => ⟨rfl, rfl, rfl, ?_, rfl⟩) (Nat.le_refl _) (fun i a b => by omega)
        rcases h23 i with q | ⟨q1, q2⟩
        · rw [q]
        · rw [q1, q2]; decide
      · intro i hi hst
        rcases h23 i with q | ⟨q1, q2⟩
        · exact hI.fy i hi (q.symm.trans hst)
        · exact absurd (q2.symm.trans hst) (by decide)
  · obtain ⟨f, f1, f2, f3⟩ := hI.fy k hk z
    rw [f2]
    exact vp_in_nI (by omega) (by decide)
end ST
