/-! ===== rule, says ===== -/
theorem dig_congr {b c : Nat → Int32} : ∀ k, (∀ j, j < k → b j = c j) → digN b k = digN c k
  | 0, _ => rfl
  | k + 1, h => by rw [digN, digN, dig_congr k (fun j hj => h j (by omega)), h k (Nat.lt_succ_self k)]
theorem lie_congr {b c : Nat → Int32} : ∀ k, (∀ j, j < k → b j = c j) → lieN b k = lieN c k
  | 0, _ => rfl
  | k + 1, h => by rw [lieN, lieN, lie_congr k (fun j hj => h j (by omega)), laysB, laysB, dig_congr (k + 1) h, h k (Nat.lt_succ_self k)]
theorem st_congr {b c : Nat → Int32} {k : Nat} (h : ∀ j, j < k + 1 → b j = c j) (hs : stOK b k) : stOK c k := by
  rw [stOK, laysB, ← dig_congr (k + 1) h, ← lie_congr k (fun j hj => h j (by omega)), ← h k (Nat.lt_succ_self k)]
  exact hs
theorem okT_congr {b c : Nat → Int32} {q : Nat} (h : ∀ j, j < q → b j = c j) (hs : okT b q) : okT c q := ⟨fun k hk => st_congr (fun j hj => h j (by omega)) (hs.1 k hk), by rw [← lie_congr q h]; exact hs.2⟩
theorem evP_congr {env : Int32 → Int32} {b c : Nat → Int32} : ∀ k, (∀ j, j < k → b j = c j) → evP env b k = evP env c k
  | 0, _ => rfl
  | k + 1, h => by rw [evP, evP, evP_congr k (fun j hj => h j (by omega)), h k (Nat.lt_succ_self k)]
theorem btext_eq {S : MS} {i k : Nat} (hi : i < 10) (hk : k < 60) : btext S (nI i) k = S.2 31 (60 * i + k) := by
  rw [btext, nI_60, nI_clamp (by omega)]
theorem IRu.at {S X : MS} {sl : Nat → Nat} {n i : Nat} (h : IRu (S.2 31) (S.2 32) X.2 sl n) (hn : n ≤ 10) (hi : i < n) : ∃ (q : Nat) (g : Nat → Int32), q ≤ 60 ∧ S.2 32 i = nI q ∧ rlen S i = q ∧ sl i = q ∧ okT g q ∧ okT (btext S (nI i)) q ∧ (∀ j, j < q → btext S (nI i) j = g j) ∧ X.2 8 i = nI (arS g q).2.1 ∧ szn X i = (arS g q).2.1 ∧ (arS g q).2.1 ≤ q ∧ X.2 9 i = amN (arS g q).1 (arS g q).2.1 ∧ X.2 10 i = ahN (arS g q).1 (arS g q).2.1 ∧ X.2 (100 + i) = (arS g q).1 := by
  obtain ⟨q, g, h1, h2, h3, h4, h5, h6, h7, h8, h9, h10⟩ := h i hi
  have hb : ∀ j, j < q → btext S (nI i) j = g j := fun j hj => by rw [btext_eq (by omega) (by omega)]; exact h4 j hj
  have hz := (ar_inv (env := fun c => nmV (fun _ => 0) (nmX c)) (nm := fun _ => 0) (fun c _ => rfl) q h5.1).2.2.2.2.2
  refine ⟨q, g, h1, h2, by rw [rlen, h2]; exact nI_clamp (by omega), h3, h5, okT_congr (fun j hj => (hb j hj).symm) h5, hb, h7, by rw [szn, h7]; exact nI_clamp (by omega), hz, h8, h9, h10⟩
theorem IRu.rok {S X : MS} {sl : Nat → Nat} {n : Nat} (h : IRu (S.2 31) (S.2 32) X.2 sl n) (hn : n ≤ 10) : rOK S n := fun i hi => by
  obtain ⟨q, g, h1, h2, -, -, -, h6, -⟩ := h.at hn hi
  exact ⟨q, h1, h2, h6⟩
theorem IRu.ruok {S X : MS} {sl : Nat → Nat} {n : Nat} (h : IRu (S.2 31) (S.2 32) X.2 sl n) (hn : n ≤ 10) : ∀ i, i < n → ruOK X sl i := fun i hi => by
  obtain ⟨q, g, h1, h2, h3, h4, h5, -, -, h7, h8, h9, -, -, h10⟩ := h.at hn hi
  obtain ⟨-, -, -, p4, p5, -⟩ := ar_inv (env := fun c => nmV (fun _ => 0) (nmX c)) (nm := fun _ => 0) (fun c _ => rfl) q h5.1
  refine ⟨by rw [h8]; exact h7, by rw [h8, h4]; exact h9, by rw [h4]; omega, ?_⟩
  rw [h8, h10]
  exact ⟨p5, by rw [p4, h5.2]; exact Nat.le_refl _, by rw [p4, h5.2]; decide⟩
/-- a rule is worked out alike on both sides, if the names say the same -/
theorem IRu.ev {S X Y : MS} {sl : Nat → Nat} {n i nl : Nat} {t p m f : Int32} (h : IRu (S.2 31) (S.2 32) X.2 sl n) (hn : n ≤ 10) (hi : i < n) (h8 : Y.2 8 i = X.2 8 i) (h100 : Y.2 (100 + i) = X.2 (100 + i)) (henv : ∀ c, pName c → nmV (Y.2 1) (nmX c) = r_named S nl c t p m f) : evC Y i = rEv S nl i t p m f := by
  obtain ⟨q, g, h1, h2, h3, h4, h5, -, hb, h7, hz, h9, -, -, h10⟩ := h.at hn hi
  obtain ⟨p1, -⟩ := ar_inv (env := fun c => r_named S nl c t p m f) (nm := Y.2 1) henv q h5.1
  rw [evC, h100, h10, show szn Y i = (arS g q).2.1 from by rw [szn, h8]; exact hz, p1, rEv, h3, evR, evP_congr q hb]
  split <;> rfl
theorem env_of {S : MS} {nl : Nat} {t p m f : Int32} {nm : Nat → Int32} (h0 : nm 0 = S.2 4 (m_hour t).toNatClampNeg) (h1 : nm 1 = S.2 5 (m_hour t).toNatClampNeg) (h2 : nm 2 = S.2 6 (m_hour t).toNatClampNeg) (h3 : nm 3 = m_hour t) (h4 : nm 4 = t) (h5 : nm 5 = p) (h6 : nm 6 = S.2 1 p.toNatClampNeg) (h7 : nm 7 = r_hangN S m 107 nl) (h8 : nm 8 = r_hangN S m 108 nl) (h9 : nm 9 = r_hangN S m 110 nl) (h10 : nm 10 = f) : ∀ c, pName c → nmV nm (nmX c) = r_named S nl c t p m f := by
  intro c hc
  rcases hc with rfl | rfl | rfl | rfl | rfl | rfl | rfl | rfl | rfl | rfl | rfl
  · exact h0
  · exact h1
  · exact h2
  · exact h3
  · exact h4
  · exact h5
  · exact h6
  · exact h7
  · exact h8
  · exact h9
  · exact h10
theorem s_rulN_r (T : MS) {j : Nat} (hj : j ≠ 31) : ∀ k, (s_rulN T k).2 j = T.2 j
  | 0 => rfl
  | k + 1 => by
    rw [s_rulN]
    exact (u2_n hj).trans (s_rulN_r T hj k)
theorem s_rulN_31 (T : MS) {n : Nat} (h33 : T.1 33 = nI n) (hn : n ≤ 10) : ∀ k, k ≤ 60 → (∀ x, x < 60 * n → (s_rulN T k).2 31 x = T.2 31 x) ∧ ∀ j, j < k → (s_rulN T k).2 31 (60 * n + j) = T.2 29 j
  | 0, _ => ⟨fun _ _ => rfl, fun j hj => absurd hj (Nat.not_lt_zero _)⟩
  | k + 1, hk => by
    obtain ⟨i1, i2⟩ := s_rulN_31 T h33 hn k (by omega)
    have e : (s_rulN T (k + 1)).2 31 = upd ((s_rulN T k).2 31) (60 * n + k) (T.2 29 k) := by
      rw [s_rulN, s_rulN_1, h33, nI_60, nI_clamp (by omega), s_rulN_r T (by decide)]
      show u2 (s_rulN T k).2 31 (60 * n + k) (T.2 29 k) 31 = _
      exact u2_s
    rw [e]
    refine ⟨fun x hx => ?_, fun j hj => ?_⟩
    · rw [pk_un (by omega)]; exact i1 x hx
    · by_cases q : j = k
      · rw [q, pk_us]
      · rw [pk_un (by omega)]; exact i2 j (by omega)
theorem ICo.g6 {c0 c1 c2 c3 c4 c6 : Int32} {l0 l1 l2 l3 l4 l5 l6 l7 : List Nat} {fl : Nat} (h : ICo c0 c1 c2 c3 c4 c6 l0 l1 l2 l3 l4 l5 l6 l7 fl) (hl : l6.length < 10) : ICo c0 c1 c2 c3 c4 (c6 + 1) l0 l1 l2 l3 l4 l5 (l6 ++ [l6.length]) l7 fl :=
  ⟨h.r0, h.r1, h.r2, h.r3, h.r4, rng_s h.r6, h.p0, h.b0, h.b1, h.b2, h.b3, h.b4, h.b5, by rw [List.length_append, List.length_singleton]; omega, h.b7, h.n0, h.n1, h.n2, h.n3, h.n4, by rw [h.n6, nI_1, List.length_append, List.length_singleton], h.hfl⟩
section RU
variable {G : Nat → Nat} {x0 m0 : Nat} {adm : Nat → Nat} {S X : MS} {L : Nat → List Nat} {wn : Nat → Option Nat} {sl : Nat → Nat} {fl : Nat} {ad : Nat → Nat → Nat} {h : AH}
theorem t_rule (hM : MR m0 adm S h) (hK : KR G (OM m0 adm) ad S X L wn sl fl h) (ha : ad 0 0 = x0) (hI : Inv S X L wn sl fl) : Two G x0 m0 adm Y_X11_rule Y_X12_rule [] h := by
  obtain ⟨q, hq, et⟩ := hI.tp
  have b6 := hI.co.b6
  have e10 : (S.1 33 = 10) ↔ ¬ (L 6).length < 10 := eq_cap hI.co.n6 b6 (by decide)
  have hfe : cfF S q 0 0 0 = r_fault S q := fault_eq hI.tb
  have hv : a_rule S L q = r_rule S q := by
    rw [a_rule, r_rule, hfe]
    by_cases h1 : (L 6).length < 10
    · rw [if_pos h1, if_neg (fun z => e10.mp z h1)]
      by_cases h2 : r_fault S q < 0
      · rw [if_pos h2, if_neg (Int32.not_le.mpr h2), hI.co.n6, nI_1, nI_m1]
      · rw [if_neg h2, if_pos (Int32.not_lt.mp h2)]
    · rw [if_neg h1, if_pos (e10.mpr h1)]
  have hc := c_rule (d := 13) (h0 := h) hK (KF.self hM) et hq b6
  rw [ha] at hc
  refine two_of (Q := fun S2 => S2 = s_rule S q) (v := r_rule S q) hM (by decide) (by decide) (hc.weaken (fun r h2 hp => ?_)) (k_rule (d := 18) et hq hI.co.n6 b6)
  obtain ⟨e, hp⟩ := hp
  refine ⟨by rw [e, hv], ?_⟩
  rcases hp with ⟨h1, hf, p, a, hK2, hF2⟩ | ⟨h1, hf, hK2, hF2⟩ | ⟨h1, hK2, hF2⟩
  · refine ⟨_, _, _, _, _, _, _, hK2, hF2, ha, fun S2 z => ?_⟩
    subst z
    rw [hfe] at hf
    have hok : okT (S.2 29) q := by
      have := (ffN_ok (b := S.2 29) (j := q) (k := 0) (by omega) (fun i hi => absurd hi (Nat.not_lt_zero _))).1
      rw [← r_fault_ff, Nat.zero_add] at this
      exact (this hf).2
    have hT33 : ((vf_upd S.1 30 0, S.2) : MS).1 33 = nI (L 6).length := hI.co.n6
    rw [s_rule, if_neg (fun z => e10.mp z h1), if_neg (Int32.not_le.mpr hf), show (S.1 33).toNatClampNeg = (L 6).length from by rw [hI.co.n6]; exact nI_clamp (by omega), s_rulN_1]
    have hr : ∀ j, j ≠ 31 → j ≠ 32 → u2 (s_rulN (vf_upd S.1 30 0, S.2) q).2 32 (L 6).length (S.1 30) j = S.2 j := fun j a b => (u2_n b).trans (s_rulN_r _ a q)
    have hr31 : u2 (s_rulN (vf_upd S.1 30 0, S.2) q).2 32 (L 6).length (S.1 30) 31 = (s_rulN (vf_upd S.1 30 0, S.2) q).2 31 := u2_n (by decide)
    have hr32 : u2 (s_rulN (vf_upd S.1 30 0, S.2) q).2 32 (L 6).length (S.1 30) 32 = upd (S.2 32) (L 6).length (S.1 30) := by rw [u2_s, s_rulN_r _ (by decide)]
    obtain ⟨t1, t2⟩ := s_rulN_31 (vf_upd S.1 30 0, S.2) hT33 (by omega) q hq
    refine ⟨sS.of rfl rfl (fun k _ _ _ _ _ _ k31 k32 _ _ _ => (hr k k31 k32).symm), ?_⟩
    have hlen : (lset L 6 (L 6 ++ [(L 6).length]) 6).length = (L 6).length + 1 := by rw [lset_s, List.length_append, List.length_singleton]
    have hx0 : (s_ruX X (L 6).length (arS (S.2 29) q)).2 0 = X.2 0 := s_ruX_lo (by decide)
    have hx3 : (s_ruX X (L 6).length (arS (S.2 29) q)).2 3 = X.2 3 := s_ruX_lo (by decide)
    have hx4 : (s_ruX X (L 6).length (arS (S.2 29) q)).2 4 = X.2 4 := s_ruX_lo (by decide)
    have hx6 : (s_ruX X (L 6).length (arS (S.2 29) q)).2 6 = X.2 6 := s_ruX_lo (by decide)
    unfold Inv
    simp only [hr31, hr32, hr 29 (by decide) (by decide), hr 1 (by decide) (by decide), hr 2 (by decide) (by decide), hr 8 (by decide) (by decide), hr 9 (by decide) (by decide), hr 10 (by decide) (by decide), hr 12 (by decide) (by decide), hr 13 (by decide) (by decide), hr 14 (by decide) (by decide), hr 15 (by decide) (by decide), hr 17 (by decide) (by decide), hr 18 (by decide) (by decide), hr 19 (by decide) (by decide), hr 20 (by decide) (by decide), hr 21 (by decide) (by decide), hr 23 (by decide) (by decide), hr 24 (by decide) (by decide), hr 25 (by decide) (by decide), hr 27 (by decide) (by decide), hr 40 (by decide) (by decide), hr 41 (by decide) (by decide), hr 50 (by decide) (by decide), hr 53 (by decide) (by decide), hx0, hx3, hx4, hx6, hagL (show 6 < 8 by decide)]
    refine ⟨hI.co.g6 h1, hI.tm, rg0, hI.tb, hI.pl, hI.ma, hI.pi, hI.lo, hI.st, hI.ha, hI.fy, ?_, hI.li, hI.be, hI.sc⟩
    rw [hlen]
    intro i hi
    by_cases qi : i = (L 6).length
    · subst qi
      exact ⟨q, S.2 29, hq, by rw [pk_us]; exact et, if_pos rfl, t2, hok, hI.tb, by rw [s_ruX_8, if_pos rfl], by rw [s_ruX_9, if_pos rfl], by rw [s_ruX_10, if_pos rfl], s_ruX_100s⟩
    · obtain ⟨u, g, g1, g2, g3, g4, g5, g6, g7, g8, g9, g10⟩ := hI.ru i (by omega)
      exact ⟨u, g, g1, by rw [pk_un qi]; exact g2, (if_neg qi).trans g3, fun j hj => (t1 _ (by omega)).trans (g4 j hj), g5, g6, by rw [s_ruX_8, if_neg qi]; exact g7, by rw [s_ruX_9, if_neg qi]; exact g8, by rw [s_ruX_10, if_neg qi]; exact g9, by rw [s_ruX_100 qi]; exact g10⟩
  · refine ⟨_, _, _, _, _, _, _, hK2, hF2, ha, fun S2 z => ?_⟩
    subst z
    rw [hfe] at hf
    rw [s_rule, if_neg (fun z => e10.mp z h1), if_pos (Int32.not_lt.mp hf)]
    exact ⟨sS.same0, hI.co, hI.tm, rg0, hI.tb, hI.pl, hI.ma, hI.pi, hI.lo, hI.st, hI.ha, hI.fy, hI.ru, hI.li, hI.be, hI.sc⟩
  · refine ⟨S, X, L, wn, sl, fl, ad, hK2, hF2, ha, fun S2 z => ?_⟩
    subst z
    rw [s_rule, if_pos (e10.mpr h1)]
    exact ⟨sS.same0, hI⟩
end RU
