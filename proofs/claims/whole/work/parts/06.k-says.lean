/-! ===== says ===== -/
section SY
variable {G : Nat → Nat} {x0 m0 : Nat} {adm : Nat → Nat} {S X : MS} {L : Nat → List Nat} {wn : Nat → Option Nat} {sl : Nat → Nat} {fl : Nat} {ad : Nat → Nat → Nat} {h : AH}
/-- the component's scratch: the pile, its height, the names, the lists of riders and of what is packed -/
theorem Inv.scr {X2 : MS} {l5 l7 : List Nat} {fl2 : Nat} (hI : Inv S X L wn sl fl) (h1 : X2.1 3 = X.1 3) (h4 : X2.1 4 = X.1 4) (hr : ∀ k, k ≠ 1 → k ≠ 2 → k ≠ 5 → X2.2 k = X.2 k) (h5 : l5.length ≤ 80) (h7 : l7.length ≤ 80) (hf : (L 4).length ≤ fl2) : Inv S X2 (lset (lset L 5 l5) 7 l7) wn sl fl2 := by
  unfold Inv
  rw [h1, h4, hr 0 (by decide) (by decide) (by decide), hr 3 (by decide) (by decide) (by decide), hr 4 (by decide) (by decide) (by decide), hr 6 (by decide) (by decide) (by decide), hagL (show 7 < 8 by decide), hagL (show 5 < 8 by decide)]
  have c := hI.co
  exact ⟨⟨c.r0, c.r1, c.r2, c.r3, c.r4, c.r6, c.p0, c.b0, c.b1, c.b2, c.b3, c.b4, h5, c.b6, h7, c.n0, c.n1, c.n2, c.n3, c.n4, c.n6, hf⟩, hI.tm, hI.tp, hI.tb, hI.pl, hI.ma, hI.pi, hI.lo, hI.st, hI.ha, hI.fy, hI.ru.xg (fun k hk => hr k (by omega) (by omega) (by omega)), hI.li, hI.be, hI.sc⟩
/-- the model's scratch: the pile and its height -/
theorem Inv.ofpR {T : MS} (hI : Inv S X L wn sl fl) (hR : pR S T) : Inv T X L wn sl fl := by
  obtain ⟨h1, h2⟩ := hR
  unfold Inv
  rw [h1 3 (by decide), h1 11 (by decide), h1 16 (by decide), h1 28 (by decide), h1 45 (by decide), h1 33 (by decide), h1 0 (by decide), h1 30 (by decide), h1 51 (by decide), h1 55 (by decide), h2 29 (by decide), h2 1 (by decide), h2 2 (by decide), h2 8 (by decide), h2 9 (by decide), h2 10 (by decide), h2 12 (by decide), h2 13 (by decide), h2 14 (by decide), h2 15 (by decide), h2 17 (by decide), h2 18 (by decide), h2 19 (by decide), h2 20 (by decide), h2 21 (by decide), h2 23 (by decide), h2 24 (by decide), h2 25 (by decide), h2 27 (by decide), h2 40 (by decide), h2 41 (by decide), h2 31 (by decide), h2 32 (by decide), h2 50 (by decide), h2 53 (by decide)]
  exact hI
theorem sS.ofpR {S T : MS} {L : Nat → List Nat} {fl : Nat} (hR : pR S T) : sS S T L fl := sS.of (hR.1 0 (by decide)).symm (hR.1 30 (by decide)).symm (fun k _ _ _ _ _ _ _ _ _ k34 _ => (hR.2 k k34).symm)
/-- the names that the component asks, for a flight -/
theorem Inv.env {m y p : Int32} (hI : Inv S X L wn sl fl) (hm : 0 ≤ m ∧ m < nI (L 1).length) (hp : 0 < p ∧ p < nI (L 0).length) : ∀ c, pName c → nmV ((x_ask S X L m y p).2 1) (nmX c) = r_named S (L 3).length c (S.1 0) p m (S.2 14 y.toNatClampNeg) := by
  obtain ⟨t, ht, et⟩ := hI.tm
  have b0 := hI.co.b0
  obtain ⟨i1, i2⟩ := idx_of1 hp (show (L 0).length ≤ 100000 by omega)
  have eh := hour_eq et (by omega)
  obtain ⟨n1, n2, n3, n4⟩ := hI.hn hm
  refine env_of ?_ ?_ ?_ ?_ ?_ ?_ ?_ ?_ ?_ ?_ ?_
  · rw [eh]; rfl
  · rw [eh]; rfl
  · rw [eh]; rfl
  · rw [eh]; rfl
  · rfl
  · exact i2
  · rfl
  · rw [n4 107 (by decide) (by decide) (by decide)]; rfl
  · rw [n2]; rfl
  · rw [n1]; rfl
  · rfl
theorem t_says {i m y p : Int32} (hM : MR m0 adm S h) (hK : KR G (OM m0 adm) ad S X L wn sl fl h) (ha : ad 0 0 = x0) (hI : Inv S X L wn sl fl) : Two G x0 m0 adm Y_X11_says Y_X12_says [.int i, .int m, .int y, .int p] h := by
  have b6 := hI.co.b6
  obtain ⟨t, ht, et⟩ := hI.tm
  have hc := c_says (d := 14) (h0 := h) (i := i) (m := m) (y := y) (p := p) hK (KF.self hM) hI.co.r0 hI.co.b0 hI.co.r1 hI.co.b1 hI.co.r2 hI.co.b2 hI.co.r6 hI.co.b6 hI.ha.len c_hour_in (hI.ru.ruok b6)
  rw [ha] at hc
  have key : ok_says S i m y p → ∃ j, i = nI j ∧ j < (L 6).length ∧ i.toNatClampNeg = j := by
    intro z
    have z1 := z.1
    rw [hI.co.n6] at z1
    obtain ⟨j1, j2⟩ := idx_of z1 (show (L 6).length ≤ 100000 by omega)
    exact ⟨_, j2.symm, j1, rfl⟩
  have hw : ok_says S i m y p → wHyp S (L 3).length i (S.1 0) p m (S.2 14 y.toNatClampNeg) := by
    intro z
    obtain ⟨j, e1, e2, -⟩ := key z
    obtain ⟨q, g, g1, g2, -, -, -, g6, -⟩ := hI.ru.at b6 e2
    rw [e1]
    exact (wHyp_of hI.co.n3 hI.co.b3 (by omega) g1 g2 g6 (vp_of (lt0_of z.2.2.2) hI.co.n0 hI.co.b0 (by decide)) (hour_in et (by omega))).1
  have hv : a_says S X L i m y p = r_says S (L 3).length i m y p := by
    rw [a_says, r_says, hI.co.n6, hI.co.n1, hI.co.n2, hI.co.n0]
    by_cases h1 : (0 ≤ i ∧ i < nI (L 6).length) ∧ (0 ≤ m ∧ m < nI (L 1).length) ∧ (0 ≤ y ∧ y < nI (L 2).length) ∧ (0 < p ∧ p < nI (L 0).length)
    · rw [if_pos h1, if_pos h1]
      obtain ⟨j1, j2⟩ := idx_of h1.1 (show (L 6).length ≤ 100000 by omega)
      obtain ⟨q, g, g1, g2, g3, -, -, g6, -⟩ := hI.ru.at b6 j1
      rw [hI.ru.ev b6 j1 (congrFun (x_ask_r 8 (by decide)) _) (x_ask_r _ (by omega)) (hI.env h1.2.1 h1.2.2.2)]
      have := (rW_ev (n := (L 3).length) (t := S.1 0) (p := p) (m := m) (f := S.2 14 y.toNatClampNeg) (show i.toNatClampNeg < 10 by omega) g1 g2 g6).1
      rw [j2] at this
      rw [this, rEv, g3, j2]
    · rw [if_neg h1, if_neg h1]
  refine two_of (Q := fun S2 => S2 = s_says S (L 3).length i m y p) (v := r_says S (L 3).length i m y p) hM (Nat.zero_le _) (Nat.zero_le _) (hc.weaken (fun r h2 hp => ?_)) (k_says (d := 17) hw (fun z => vp_of z hI.co.n2 hI.co.b2 (by decide)))
  obtain ⟨e, X2, x1, x2, hK2, hF2⟩ := hp
  refine ⟨by rw [e, hv], S, X2, L, wn, sl, fl, ad, hK2, hF2, ha, fun S2 z => ?_⟩
  subst z
  have hR : pR S (s_says S (L 3).length i m y p) := by
    rw [s_says]
    by_cases h1 : (0 ≤ i ∧ i < S.1 33) ∧ (0 ≤ m ∧ m < S.1 11) ∧ (0 ≤ y ∧ y < S.1 16) ∧ (0 < p ∧ p < S.1 3)
    · rw [if_pos h1]
      obtain ⟨j, e1, e2, -⟩ := key h1
      obtain ⟨q, g, g1, g2, -, -, -, g6, -⟩ := hI.ru.at b6 e2
      rw [e1]
      exact (rW_ev (show j < 10 by omega) g1 g2 g6).2
    · rw [if_neg h1]
      exact pR.refl
  refine ⟨sS.ofpR hR, ?_⟩
  have := (hI.scr (X2 := X2) (l5 := L 5) (l7 := L 7) (fl2 := fl) (x1 3 (by decide)) (x1 4 (by decide)) (fun k a b _ => x2 k a b) hI.co.b5 hI.co.b7 hI.co.hfl).ofpR hR
  rw [lset_id, lset_id] at this
  exact this
end SY
