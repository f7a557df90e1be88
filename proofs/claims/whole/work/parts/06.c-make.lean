/-! ===== what is made: place, machine, pilot, load; hour, fuel, drop, list ===== -/
theorem rng_s {l : List Nat} (h : l = List.range l.length) : l ++ [l.length] = List.range (l ++ [l.length]).length := by
  rw [List.length_append, List.length_singleton, List.range_succ, ← h]
theorem rg_of {x : Int32} {B : Nat} (h0 : 0 ≤ x) (h1 : x ≤ nI B) (hB : B ≤ 100000) : rg x B := by
  obtain ⟨j, hj, rfl⟩ := nI_of (Int32.not_lt.mpr h0)
  exact ⟨j, (nI_leI hj (by omega)).mp h1, rfl⟩
theorem rg0 {B : Nat} : rg 0 B := ⟨0, Nat.zero_le _, rfl⟩
theorem hagL {L : Nat → List Nat} {r : Nat} {v : List Nat} (h : r < 8) : (fun m => lset L r v (8 + m)) = (fun m => L (8 + m)) := funext fun m => lset_n (by omega)
theorem ICo.g0 {c0 c1 c2 c3 c4 c6 : Int32} {l0 l1 l2 l3 l4 l5 l6 l7 : List Nat} {fl : Nat} (h : ICo c0 c1 c2 c3 c4 c6 l0 l1 l2 l3 l4 l5 l6 l7 fl) (hl : l0.length < 12) : ICo (c0 + 1) c1 c2 c3 c4 c6 (l0 ++ [l0.length]) l1 l2 l3 l4 l5 l6 l7 fl :=
  ⟨rng_s h.r0, h.r1, h.r2, h.r3, h.r4, h.r6, by rw [List.length_append, List.length_singleton]; omega, by rw [List.length_append, List.length_singleton]; omega, h.b1, h.b2, h.b3, h.b4, h.b5, h.b6, h.b7, by rw [h.n0, nI_1, List.length_append, List.length_singleton], h.n1, h.n2, h.n3, h.n4, h.n6, h.hfl⟩
theorem ICo.g1 {c0 c1 c2 c3 c4 c6 : Int32} {l0 l1 l2 l3 l4 l5 l6 l7 : List Nat} {fl : Nat} (h : ICo c0 c1 c2 c3 c4 c6 l0 l1 l2 l3 l4 l5 l6 l7 fl) (hl : l1.length < 4) : ICo c0 (c1 + 1) c2 c3 c4 c6 l0 (l1 ++ [l1.length]) l2 l3 l4 l5 l6 l7 fl :=
  ⟨h.r0, rng_s h.r1, h.r2, h.r3, h.r4, h.r6, h.p0, h.b0, by rw [List.length_append, List.length_singleton]; omega, h.b2, h.b3, h.b4, h.b5, h.b6, h.b7, h.n0, by rw [h.n1, nI_1, List.length_append, List.length_singleton], h.n2, h.n3, h.n4, h.n6, h.hfl⟩
theorem ICo.g2 {c0 c1 c2 c3 c4 c6 : Int32} {l0 l1 l2 l3 l4 l5 l6 l7 : List Nat} {fl : Nat} (h : ICo c0 c1 c2 c3 c4 c6 l0 l1 l2 l3 l4 l5 l6 l7 fl) (hl : l2.length < 6) : ICo c0 c1 (c2 + 1) c3 c4 c6 l0 l1 (l2 ++ [l2.length]) l3 l4 l5 l6 l7 fl :=
  ⟨h.r0, h.r1, rng_s h.r2, h.r3, h.r4, h.r6, h.p0, h.b0, h.b1, by rw [List.length_append, List.length_singleton]; omega, h.b3, h.b4, h.b5, h.b6, h.b7, h.n0, h.n1, by rw [h.n2, nI_1, List.length_append, List.length_singleton], h.n3, h.n4, h.n6, h.hfl⟩
theorem ICo.g3 {c0 c1 c2 c3 c4 c6 : Int32} {l0 l1 l2 l3 l4 l5 l6 l7 : List Nat} {fl : Nat} (h : ICo c0 c1 c2 c3 c4 c6 l0 l1 l2 l3 l4 l5 l6 l7 fl) (hl : l3.length < 80) : ICo c0 c1 c2 (c3 + 1) c4 c6 l0 l1 l2 (l3 ++ [l3.length]) l4 l5 l6 l7 fl :=
  ⟨h.r0, h.r1, h.r2, rng_s h.r3, h.r4, h.r6, h.p0, h.b0, h.b1, h.b2, by rw [List.length_append, List.length_singleton]; omega, h.b4, h.b5, h.b6, h.b7, h.n0, h.n1, h.n2, by rw [h.n3, nI_1, List.length_append, List.length_singleton], h.n4, h.n6, h.hfl⟩
theorem IPl.grow {a b : Nat → Int32} {n : Nat} {x y : Int32} (h : IPl a b n) (hn : 1 ≤ n) (hx : rg x 9) (hy : rg y 60) : IPl (upd a n x) (upd b n y) (n + 1) := by
  refine ⟨?_, fun i hi => ?_⟩
  · rw [pk_un (show 0 ≠ n by omega)]
    exact h.1
  · by_cases e : i = n
    · subst e
      rw [pk_us, pk_us]
      exact ⟨hx, hy⟩
    · rw [pk_un e, pk_un e]
      exact h.2 i (by omega)
theorem ILo.np {pl we ro ki re : Nat → Int32} {n np np2 : Nat} (h : ILo pl we ro ki re n np) (hn : np ≤ np2) : ILo pl we ro ki re n np2 :=
  ⟨fun i hi => (by obtain ⟨p, e, a, b⟩ := h.pl i hi; exact ⟨p, e, a, by omega⟩), h.we, h.ro, h.ki, h.re⟩
theorem ILi.np {li : Nat → Int32} {c x : Int32} {wn : Nat → Option Nat} {np np2 : Nat} (h : ILi li c x wn np) (hn : np ≤ np2) : ILi li c x wn np2 := by
  obtain ⟨n, l, h1, h2, h3, h4, h5, h6, h7, h8, h9, h10⟩ := h
  exact ⟨n, l, h1, h2, h3, h4, h5, fun p hp => ⟨(h6 p hp).1, by have := (h6 p hp).2; omega⟩, h7, h8, h9, fun j p hj => by have := h10 j p hj; omega⟩
theorem eq_cap {c : Int32} {n k : Nat} (e : c = nI n) (hn : n ≤ k) (hk : k ≤ 100000) : (c = nI k) ↔ ¬ n < k := by
  rw [e, nI_eq (by omega) (by omega)]
  omega
section MK
variable {G : Nat → Nat} {x0 m0 : Nat} {adm : Nat → Nat} {S X : MS} {L : Nat → List Nat} {wn : Nat → Option Nat} {sl : Nat → Nat} {fl : Nat} {ad : Nat → Nat → Nat} {h : AH}
theorem Inv.wa (hI : Inv S X L wn sl fl) : ∀ j p, wn j = some p → p < (L 0).length := by
  obtain ⟨n, l, h1, h2, h3, h4, h5, h6, h7, h8, h9, h10⟩ := hI.li
  exact h10
theorem t_place {x y : Int32} (hM : MR m0 adm S h) (hK : KR G (OM m0 adm) ad S X L wn sl fl h) (ha : ad 0 0 = x0) (hI : Inv S X L wn sl fl) : Two G x0 m0 adm Y_X11_place Y_X12_place [.int x, .int y] h := by
  have e12 : (S.1 3 = 12) ↔ ¬ (L 0).length < 12 := eq_cap hI.co.n0 hI.co.b0 (by decide)
  have hv : a_place L x y = r_place S x y := by
    rw [a_place, r_place]
    by_cases h1 : (0 ≤ x ∧ x ≤ 9) ∧ (1 ≤ y ∧ y ≤ 60)
    · rw [if_pos h1, if_neg (show ¬ (¬ (0 ≤ x ∧ x ≤ 9) ∨ ¬ (1 ≤ y ∧ y ≤ 60)) from fun z => z.elim (fun q => q h1.1) (fun q => q h1.2))]
      by_cases h2 : (L 0).length < 12
      · rw [if_pos h2, if_neg (fun z => e12.mp z h2), hI.co.n0, nI_1, nI_m1]
      · rw [if_neg h2, if_pos (e12.mpr h2)]
    · rw [if_neg h1, if_pos (show ¬ (0 ≤ x ∧ x ≤ 9) ∨ ¬ (1 ≤ y ∧ y ≤ 60) from Classical.not_and_iff_not_or_not.mp h1)]
  have hc := c_place (d := 13) (h0 := h) (x := x) (y := y) hK (KF.self hM) hI.co.r0 hI.co.b0 hI.wa
  rw [ha] at hc
  refine two_of (Q := fun S2 => S2 = s_place S x y) (v := r_place S x y) hM (by decide) (by decide) (hc.weaken (fun r h2 hp => ?_)) (k_place (d := 19) (fun z => by rw [hI.co.n0]; exact vp_in_nI (Nat.not_le.mp (fun q => z (e12.mpr (by omega)))) (by decide)))
  obtain ⟨e, hp⟩ := hp
  refine ⟨by rw [e, hv], ?_⟩
  rcases hp with ⟨⟨h1, h2⟩, q, hK2, hF2⟩ | ⟨hno, hK2, hF2⟩
  · refine ⟨_, _, _, _, _, _, _, hK2, hF2, ha, fun S2 z => ?_⟩
    subst z
    have hn : ¬ ((¬ (0 ≤ x ∧ x ≤ 9) ∨ ¬ (1 ≤ y ∧ y ≤ 60)) ∨ S.1 3 = 12) := fun z => z.elim (fun q => q.elim (fun q => q h1.1) (fun q => q h1.2)) (fun q => e12.mp q h2)
    rw [s_place, if_neg hn, show (S.1 3).toNatClampNeg = (L 0).length from by rw [hI.co.n0]; exact nI_clamp (by omega)]
    refine ⟨sS.of rfl rfl (fun k _ _ _ _ _ _ _ _ _ _ _ => rfl), ?_⟩
    have hlen : (lset L 0 (L 0 ++ [(L 0).length]) 0).length = (L 0).length + 1 := by rw [lset_s, List.length_append, List.length_singleton]
    refine ⟨hI.co.g0 h2, hI.tm, hI.tp, hI.tb, ?_, hI.ma, hI.pi, ?_, hI.st, ?_, hI.fy, hI.ru, ?_, hI.be, hI.sc⟩
    · rw [hlen]
      exact hI.pl.grow hI.co.p0 (rg_of h1.1.1 h1.1.2 (by decide)) (rg_of (Int32.le_trans (by decide) h1.2.1) h1.2.2 (by decide))
    · rw [hlen]
      exact hI.lo.np (Nat.le_succ _)
    · rw [hagL (by decide)]
      exact hI.ha
    · rw [hlen]
      exact hI.li.np (Nat.le_succ _)
  · refine ⟨S, X, L, wn, sl, fl, ad, hK2, hF2, ha, fun S2 z => ?_⟩
    subst z
    have hn : (¬ (0 ≤ x ∧ x ≤ 9) ∨ ¬ (1 ≤ y ∧ y ≤ 60)) ∨ S.1 3 = 12 := Classical.byContradiction (fun z => hno ⟨⟨Classical.byContradiction (fun q => z (Or.inl (Or.inl q))), Classical.byContradiction (fun q => z (Or.inl (Or.inr q)))⟩, Classical.byContradiction (fun q => z (Or.inr (e12.mpr q)))⟩)
    rw [s_place, if_pos hn]
    exact ⟨sS.same0, hI⟩
theorem IPi.grow {a r f b : Nat → Int32} {n : Nat} {x y : Int32} (h : IPi a r f b n) (hx : rg x 720) (hy : rg y 120) : IPi (upd a n x) (upd r n y) f b (n + 1) := by
  refine ⟨fun i hi => ?_, fun i hi => h.2 i (by omega)⟩
  by_cases e : i = n
  · subst e
    rw [pk_us, pk_us, (h.2 i (Nat.le_refl _)).1, (h.2 i (Nat.le_refl _)).2]
    exact ⟨hx, hy, rg0, rg0⟩
  · rw [pk_un e, pk_un e]
    exact h.1 i (by omega)
theorem upd_0 {f : Nat → Int32} {n : Nat} {x : Int32} (h : f n = x) : upd f n x = f := by
  funext i
  by_cases e : i = n
  · subst e
    rw [pk_us, h]
  · rw [pk_un e]
theorem t_pilot {x y : Int32} (hM : MR m0 adm S h) (hK : KR G (OM m0 adm) ad S X L wn sl fl h) (ha : ad 0 0 = x0) (hI : Inv S X L wn sl fl) : Two G x0 m0 adm Y_X11_pilot Y_X12_pilot [.int x, .int y] h := by
  have e12 : (S.1 16 = 6) ↔ ¬ (L 2).length < 6 := eq_cap hI.co.n2 hI.co.b2 (by decide)
  have hv : a_pilot L x y = r_pilot S x y := by
    rw [a_pilot, r_pilot]
    by_cases h1 : (0 ≤ x ∧ x ≤ 720) ∧ (0 ≤ y ∧ y ≤ 120)
    · rw [if_pos h1, if_neg (show ¬ (¬ (0 ≤ x ∧ x ≤ 720) ∨ ¬ (0 ≤ y ∧ y ≤ 120)) from fun z => z.elim (fun q => q h1.1) (fun q => q h1.2))]
      by_cases h2 : (L 2).length < 6
      · rw [if_pos h2, if_neg (fun z => e12.mp z h2), hI.co.n2, nI_1, nI_m1]
      · rw [if_neg h2, if_pos (e12.mpr h2)]
    · rw [if_neg h1, if_pos (show ¬ (0 ≤ x ∧ x ≤ 720) ∨ ¬ (0 ≤ y ∧ y ≤ 120) from Classical.not_and_iff_not_or_not.mp h1)]
  have hc := c_pilot (d := 13) (h0 := h) (x := x) (y := y) hK (KF.self hM) hI.co.r2 hI.co.b2
  rw [ha] at hc
  refine two_of (Q := fun S2 => S2 = s_pilot S x y) (v := r_pilot S x y) hM (by decide) (by decide) (hc.weaken (fun r h2 hp => ?_)) (k_pilot (d := 19) (fun z => by rw [hI.co.n2]; exact vp_in_nI (Nat.not_le.mp (fun q => z (e12.mpr (by omega)))) (by decide)))
  obtain ⟨e, hp⟩ := hp
  refine ⟨by rw [e, hv], ?_⟩
  rcases hp with ⟨⟨h1, h2⟩, q, hK2, hF2⟩ | ⟨hno, hK2, hF2⟩
  · refine ⟨_, _, _, _, _, _, _, hK2, hF2, ha, fun S2 z => ?_⟩
    subst z
    have hn : ¬ ((¬ (0 ≤ x ∧ x ≤ 720) ∨ ¬ (0 ≤ y ∧ y ≤ 120)) ∨ S.1 16 = 6) := fun z => z.elim (fun q => q.elim (fun q => q h1.1) (fun q => q h1.2)) (fun q => e12.mp q h2)
    have hnl : (L 2).length ≤ (L 2).length := Nat.le_refl _
    rw [s_pilot, if_neg hn, show (S.1 16).toNatClampNeg = (L 2).length from by rw [hI.co.n2]; exact nI_clamp (by omega)]
    refine ⟨sS.of rfl rfl (fun k hk _ _ _ _ _ _ _ _ _ _ => ?_), ?_⟩
    · show u2 (u2 (u2 (u2 S.2 12 (L 2).length x) 13 (L 2).length y) 14 (L 2).length 0) 15 (L 2).length 0 k = u2 (u2 S.2 12 (L 2).length x) 13 (L 2).length y k
      by_cases k15 : k = 15
      · subst k15
        rw [u2_s]
        exact upd_0 (hI.pi.2 _ hnl).2
      · rw [u2_n k15]
        by_cases k14 : k = 14
        · subst k14
          rw [u2_s]
          exact upd_0 (hI.pi.2 _ hnl).1
        · rw [u2_n k14]
    have hlen : (lset L 2 (L 2 ++ [(L 2).length]) 2).length = (L 2).length + 1 := by rw [lset_s, List.length_append, List.length_singleton]
    refine ⟨hI.co.g2 h2, hI.tm, hI.tp, hI.tb, hI.pl, hI.ma, ?_, hI.lo, hI.st, ?_, hI.fy, hI.ru, hI.li, hI.be, hI.sc⟩
    · rw [hlen]
      exact hI.pi.grow (rg_of h1.1.1 h1.1.2 (by decide)) (rg_of h1.2.1 h1.2.2 (by decide))
    · rw [hagL (by decide)]
      exact hI.ha
  · refine ⟨S, X, L, wn, sl, fl, ad, hK2, hF2, ha, fun S2 z => ?_⟩
    subst z
    have hn : (¬ (0 ≤ x ∧ x ≤ 720) ∨ ¬ (0 ≤ y ∧ y ≤ 120)) ∨ S.1 16 = 6 := Classical.byContradiction (fun z => hno ⟨⟨Classical.byContradiction (fun q => z (Or.inl (Or.inl q))), Classical.byContradiction (fun q => z (Or.inl (Or.inr q)))⟩, Classical.byContradiction (fun q => z (Or.inr (e12.mpr q)))⟩)
    rw [s_pilot, if_pos hn]
    exact ⟨sS.same0, hI⟩
/-- a question that writes a row or nothing -/
theorem t_hour {x w t u : Int32} (hM : MR m0 adm S h) (hK : KR G (OM m0 adm) ad S X L wn sl fl h) (ha : ad 0 0 = x0) (hI : Inv S X L wn sl fl) : Two G x0 m0 adm Y_X11_hour Y_X12_hour [.int x, .int w, .int t, .int u] h := by
  have hx : (0 ≤ x ∧ x ≤ 11) → vp_in x 12 := fun z => by rw [← hour_60 z]; exact c_hour_in
  have hc := c_hourP (d := 19) (h0 := h) (x := x) (w := w) (t := t) (u := u) hK (KF.self hM) hx
  rw [ha] at hc
  refine two_of (Q := fun S2 => S2 = s_hour S x w t u) (v := r_hour S x w t u) hM (Nat.zero_le _) (Nat.zero_le _) (hc.weaken (fun r h2 hp => ?_)) (k_hour (d := 19) hx)
  obtain ⟨e, hK2, hF2⟩ := hp
  refine ⟨e, _, _, _, _, _, _, _, hK2, hF2, ha, fun S2 z => ?_⟩
  subst z
  refine ⟨sS.same0, ?_⟩
  rw [s_hour]
  split
  · exact hI
  · exact ⟨hI.co, hI.tm, hI.tp, hI.tb, hI.pl, hI.ma, hI.pi, hI.lo, hI.st, hI.ha, hI.fy, hI.ru, hI.li, hI.be, hI.sc⟩
theorem t_fuel {m : Int32} (hM : MR m0 adm S h) (hK : KR G (OM m0 adm) ad S X L wn sl fl h) (ha : ad 0 0 = x0) (hI : Inv S X L wn sl fl) : Two G x0 m0 adm Y_X11_fuel Y_X12_fuel [.int m] h := by
  have hc := c_fuel (d := 17) (h0 := h) (m := m) hK (KF.self hM) hI.co.r1 hI.co.b1 hI.co.n1
  rw [ha] at hc
  refine two_of (Q := fun S2 => S2 = s_fuel S m) (v := r_fuel S m) hM (Nat.zero_le _) (Nat.zero_le _) (hc.weaken (fun r h2 hp => ?_)) (k_fuel (d := 19) (fun z => vp_of z hI.co.n1 hI.co.b1 (by decide)))
  obtain ⟨e, hK2, hF2⟩ := hp
  refine ⟨e, _, _, _, _, _, _, _, hK2, hF2, ha, fun S2 z => ?_⟩
  subst z
  refine ⟨sS.same0, ?_⟩
  rw [s_fuel]
  by_cases hc : (¬ (0 ≤ m ∧ m < S.1 11)) ∨ (S.1 0 < S.2 10 m.toNatClampNeg)
  · rw [if_pos hc]
    exact hI
  · rw [if_neg hc]
    refine ⟨hI.co, hI.tm, hI.tp, hI.tb, hI.pl, ⟨fun i hi => ?_, hI.ma.2⟩, hI.pi, hI.lo, hI.st, hI.ha, hI.fy, hI.ru, hI.li, hI.be, hI.sc⟩
    obtain ⟨a1, a2, a3⟩ := hI.ma.1 i hi
    refine ⟨a1, ?_, a3⟩
    show rg (upd (S.2 9) m.toNatClampNeg (S.2 8 m.toNatClampNeg) i) 2000
    by_cases e : i = m.toNatClampNeg
    · rw [e, pk_us, ← e]
      exact a1
    · rw [pk_un e]
      exact a2
end MK
