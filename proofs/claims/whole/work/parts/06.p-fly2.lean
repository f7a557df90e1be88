/-! ===== a flight on the model's side ===== -/
abbrev BKw (S : MS) (L : Nat → List Nat) (m p : Int32) : Int32 := S.1 0 + a_way S L m p + 2 + a_way S L m p
def FW (S : MS) (L : Nat → List Nat) (m p : Int32) (W : MS) : Prop := mSc S W ∧ W.1 46 = S.1 0 + a_way S L m p ∧ W.1 47 = BKw S L m p ∧ W.1 48 = a_burn S L m p ∧ ∀ j, j < (L 3).length → (¬ W.2 49 j = 0 ↔ j ∈ a_rid S L m p)
section FM
variable {S X W : MS} {L : Nat → List Nat} {wn : Nat → Option Nat} {sl : Nat → Nat} {fl : Nat} {m y p : Int32}
theorem fly0_r {j : Nat} (h : j < 36 ∨ 44 < j) : (s_fly0 W m y p).2 j = W.2 j := by
  show u2 (u2 (u2 (u2 (u2 (u2 (u2 (u2 (u2 W.2 36 _ _) 37 _ _) 38 _ _) 39 _ _) 40 _ _) 41 _ _) 42 _ _) 43 _ _) 44 _ _ j = _
  rw [u2_n (by omega), u2_n (by omega), u2_n (by omega), u2_n (by omega), u2_n (by omega), u2_n (by omega), u2_n (by omega), u2_n (by omega), u2_n (by omega)]
theorem FW.r (h : FW S L m p W) {k : Nat} (h1 : k ≠ 34) (h2 : k ≠ 49) : W.2 k = S.2 k := h.1.2 k h1 h2
theorem FW.n45 (h : FW S L m p W) (hI : Inv S X L wn sl fl) : W.1 45 = nI (L 4).length := by rw [h.1.1 45 (by decide) (by decide) (by decide) (by decide)]; exact hI.co.n4
theorem FW.i0 (h : FW S L m p W) : W.1 0 = S.1 0 := h.1.1 0 (by decide) (by decide) (by decide) (by decide)
theorem FW.f45 (h : FW S L m p W) (hI : Inv S X L wn sl fl) : (W.1 45).toNatClampNeg = (L 4).length := by
  rw [h.n45 hI]
  exact nI_clamp (by have := hI.co.b4; omega)
theorem FW.hP (h : FW S L m p W) (hI : Inv S X L wn sl fl) (hm : 0 ≤ m ∧ m < nI (L 1).length) (x : Nat) : (x < (L 3).length ∧ (((s_fly0 W m y p).2 23 x = 1 ∧ (s_fly0 W m y p).2 24 x = m) ∨ ¬ (s_fly0 W m y p).2 49 x = 0)) ↔ (x ∈ L (8 + m.toNatClampNeg) ∨ x ∈ a_rid S L m p) := by
  obtain ⟨i1, i2, hp⟩ := hI.prm hm
  rw [fly0_r (Or.inl (by decide)), fly0_r (Or.inl (by decide)), fly0_r (Or.inr (by decide)), h.r (by decide) (by decide), h.r (by decide) (by decide)]
  have hmem := hI.ha.mem _ i1 x
  rw [i2] at hmem
  constructor
  · rintro ⟨a, b | b⟩
    · exact Or.inl (hmem.mpr ⟨a, b⟩)
    · exact Or.inr ((h.2.2.2.2 x a).mp b)
  · rintro (a | a)
    · obtain ⟨b, c⟩ := hmem.mp a
      exact ⟨b, Or.inl c⟩
    · have b := (rid_in a).1
      exact ⟨b, Or.inr ((h.2.2.2.2 x b).mpr a)⟩
/-- behind the loop and the sums: T2 -/
theorem T2_x (h : FW S L m p W) (hI : Inv S X L wn sl fl) (hm : 0 ≤ m ∧ m < nI (L 1).length) (x : Nat) : (s_fly1 W (L 3).length m y p).2 23 x = (if x ∈ L (8 + m.toNatClampNeg) ∨ x ∈ a_rid S L m p then 2 else S.2 23 x) ∧ (s_fly1 W (L 3).length m y p).2 24 x = (if x ∈ L (8 + m.toNatClampNeg) ∨ x ∈ a_rid S L m p then -1 else S.2 24 x) ∧ (s_fly1 W (L 3).length m y p).2 25 x = (if x ∈ L (8 + m.toNatClampNeg) ∨ x ∈ a_rid S L m p then nI (L 4).length else S.2 25 x) := by
  have hP := h.hP (y := y) hI hm x
  obtain ⟨a1, a2, a3⟩ := (flyN_x (T := s_fly0 W m y p) (m := m) (f := W.1 45) (L 3).length).1 x
  have e : ∀ j, j ≠ 9 → j ≠ 10 → j ≠ 15 → j ≠ 14 → (s_fly1 W (L 3).length m y p).2 j = (s_flyN (s_fly0 W m y p) m (W.1 45) (L 3).length).2 j := fun j h1 h2 h3 h4 => by
    show u2 (u2 (u2 (u2 _ 9 _ _) 10 _ _) 15 _ _) 14 _ _ j = _
    rw [u2_n h4, u2_n h3, u2_n h2, u2_n h1]
  rw [e 23 (by decide) (by decide) (by decide) (by decide), e 24 (by decide) (by decide) (by decide) (by decide), e 25 (by decide) (by decide) (by decide) (by decide), a1, a2, a3, h.n45 hI]
  have o23 : (s_fly0 W m y p).2 23 x = S.2 23 x := by rw [fly0_r (Or.inl (by decide)), h.r (by decide) (by decide)]
  have o24 : (s_fly0 W m y p).2 24 x = S.2 24 x := by rw [fly0_r (Or.inl (by decide)), h.r (by decide) (by decide)]
  have o25 : (s_fly0 W m y p).2 25 x = S.2 25 x := by rw [fly0_r (Or.inl (by decide)), h.r (by decide) (by decide)]
  by_cases c : x ∈ L (8 + m.toNatClampNeg) ∨ x ∈ a_rid S L m p
  · have c2 := hP.mpr c
    rw [if_pos c2, if_pos c2, if_pos c2, if_pos c, if_pos c, if_pos c]
    exact ⟨rfl, rfl, rfl⟩
  · have c2 := fun z => c (hP.mp z)
    rw [if_neg c2, if_neg c2, if_neg c2, if_neg c, if_neg c, if_neg c]
    exact ⟨o23, o24, o25⟩
theorem T2_r {j : Nat} (h1 : j ≠ 23) (h2 : j ≠ 24) (h3 : j ≠ 25) (h4 : j ≠ 43) (h5 : j ≠ 44) (h6 : j ≠ 9) (h7 : j ≠ 10) (h8 : j ≠ 15) (h9 : j ≠ 14) : (s_fly1 W (L 3).length m y p).2 j = (s_fly0 W m y p).2 j := by
  show u2 (u2 (u2 (u2 _ 9 _ _) 10 _ _) 15 _ _) 14 _ _ j = _
  rw [u2_n h9, u2_n h8, u2_n h7, u2_n h6]
  exact flyN_r h1 h2 h3 h4 h5 _
theorem T2_1 : (s_fly1 W (L 3).length m y p).1 = W.1 := s_flyN_1 _ _ _ _
theorem T2_18 (h : FW S L m p W) : (s_fly1 W (L 3).length m y p).2 18 = S.2 18 := by
  rw [T2_r (by decide) (by decide) (by decide) (by decide) (by decide) (by decide) (by decide) (by decide) (by decide), fly0_r (Or.inl (by decide)), h.r (by decide) (by decide)]
theorem T2_27 (h : FW S L m p W) : (s_fly1 W (L 3).length m y p).2 27 = S.2 27 := by
  rw [T2_r (by decide) (by decide) (by decide) (by decide) (by decide) (by decide) (by decide) (by decide) (by decide), fly0_r (Or.inl (by decide)), h.r (by decide) (by decide)]
theorem byF_mem (h : FW S L m p W) (hI : Inv S X L wn sl fl) (hm : 0 ≤ m ∧ m < nI (L 1).length) (x : Nat) : x ∈ byF (s_fly1 W (L 3).length m y p) (nI (L 4).length) (L 3).length ↔ (x ∈ L (8 + m.toNatClampNeg) ∨ x ∈ a_rid S L m p) := by
  obtain ⟨i1, i2, hp⟩ := hI.prm hm
  have b4 := hI.co.b4
  rw [byF, List.mem_filter, List.mem_range, decide_eq_true_iff, (T2_x h hI hm x).2.2]
  constructor
  · rintro ⟨a, b⟩
    refine Classical.byContradiction (fun c => ?_)
    rw [if_neg c] at b
    rcases hI.st.by_ x a with q | ⟨g, hg, q⟩
    · rw [q] at b
      exact absurd b.symm (fun z => nI_pos (show (L 4).length < 2 ^ 31 by omega) (by rw [z]; decide))
    · rw [q, nI_eq (by omega) (by omega)] at b
      omega
  · intro c
    rw [if_pos c]
    refine ⟨?_, rfl⟩
    rcases c with c | c
    · exact ((hI.ha.mem _ i1 x).mp c).1
    · exact (rid_in c).1
theorem byF_perm (h : FW S L m p W) (hI : Inv S X L wn sl fl) (hm : 0 ≤ m ∧ m < nI (L 1).length) : (byF (s_fly1 W (L 3).length m y p) (nI (L 4).length) (L 3).length).Perm (L (8 + m.toNatClampNeg) ++ a_rid S L m p) := by
  obtain ⟨i1, i2, hp⟩ := hI.prm hm
  refine (List.perm_ext_iff_of_nodup (List.Pairwise.filter _ List.nodup_range) (List.nodup_append.mpr ⟨hI.ha.nd _ i1, rid_nd, fun a ha b hb e => ?_⟩)).mpr (fun x => ?_)
  · have q1 := ((hI.ha.mem _ i1 a).mp ha).2.1
    have q2 := (rid_in hb).2.1
    rw [e] at q1
    exact absurd (q2.symm.trans q1) (by decide)
  · rw [List.mem_append]
    exact byF_mem h hI hm x
theorem byF_sum (h : FW S L m p W) (hI : Inv S X L wn sl fl) (hm : 0 ≤ m ∧ m < nI (L 1).length) (g : Nat → Int32) : lsum g (byF (s_fly1 W (L 3).length m y p) (nI (L 4).length) (L 3).length) = lsum g (L (8 + m.toNatClampNeg)) + lsum g (a_rid S L m p) := by
  rw [lsum_perm (byF_perm h hI hm), lsum_app]
/-- the weight of all is a small number, and 0 only where there is none -/
theorem byF_wt (h : FW S L m p W) (hI : Inv S X L wn sl fl) (hm : 0 ≤ m ∧ m < nI (L 1).length) : ∃ s, lsum (S.2 18) (L (8 + m.toNatClampNeg)) + lsum (S.2 18) (a_rid S L m p) = nI s ∧ s ≤ 8000 ∧ (s = 0 ↔ byF (s_fly1 W (L 3).length m y p) (nI (L 4).length) (L 3).length = []) := by
  have b3 := hI.co.b3
  have hlen : (byF (s_fly1 W (L 3).length m y p) (nI (L 4).length) (L 3).length).length ≤ 80 := by
    refine Nat.le_trans (List.length_filter_le _ _) ?_
    rw [List.length_range]
    exact b3
  obtain ⟨s, e, h1, h2⟩ := lsum_nat (f := S.2 18) (B := 99) (l := byF (s_fly1 W (L 3).length m y p) (nI (L 4).length) (L 3).length) (fun x hx => hI.lo.we x (by
    rw [byF, List.mem_filter, List.mem_range] at hx
    exact hx.1))
  rw [byF_sum h hI hm] at e
  refine ⟨s, e, by omega, ⟨fun z => ?_, fun z => ?_⟩⟩
  · exact List.eq_nil_of_length_eq_zero (by omega)
  · rw [z] at h2
    simpa using h2
theorem mfl_r {j : Nat} (hj : j ≠ 27) : (s_fly4 W (L 3).length m y p).2 j = (s_fly1 W (L 3).length m y p).2 j := by
  show (s_part _ _ _ _).2 j = _
  rw [s_part]
  split
  · exact partN_r hj _
  · show u2 _ 27 _ _ j = _
    rw [u2_n hj]
    exact partN_r hj _
theorem mfl_1 {k : Nat} (hk : k ≠ 45) : (s_fly4 W (L 3).length m y p).1 k = W.1 k := by
  show vf_upd (s_part _ _ _ _).1 45 _ k = _
  rw [vf_upd, if_neg hk, s_part]
  split
  · rw [s_partN_1, T2_1]
  · show (s_partN _ _ _ _ _).1 k = _
    rw [s_partN_1, T2_1]
theorem mfl_45 (h : FW S L m p W) (hI : Inv S X L wn sl fl) : (s_fly4 W (L 3).length m y p).1 45 = nI ((L 4).length + 1) := by
  have e : (s_fly3 W (L 3).length m y p).1 45 = nI (L 4).length := by
    rw [s_fly3, s_part]
    split
    · rw [s_partN_1, T2_1]; exact h.n45 hI
    · show (s_partN _ _ _ _ _).1 45 = _
      rw [s_partN_1, T2_1]; exact h.n45 hI
  show (s_fly3 W (L 3).length m y p).1 45 + 1 = _
  rw [e, nI_1]
theorem mfl_27 (h : FW S L m p W) (hI : Inv S X L wn sl fl) (hm : 0 ≤ m ∧ m < nI (L 1).length) (x : Nat) : (s_fly4 W (L 3).length m y p).2 27 x = (a_flS S L m y p).2 27 x := by
  have b3 := hI.co.b3
  obtain ⟨s, es, s8, s0⟩ := byF_wt (y := y) h hI hm
  have eq : W.1 47 - W.1 0 = BKw S L m p - S.1 0 := by rw [h.2.2.1, h.i0]
  have epos : (0 < lsum (S.2 18) (L (8 + m.toNatClampNeg)) + lsum (S.2 18) (a_rid S L m p)) ↔ 0 < s := by rw [es]; exact nI_ltI (a := 0) (by decide) (by omega)
  have hlow : ∀ z, ((z < (L 3).length ∧ (s_fly1 W (L 3).length m y p).2 25 z = nI (L 4).length) ↔ (z ∈ L (8 + m.toNatClampNeg) ∨ z ∈ a_rid S L m p)) := fun z => by
    rw [← byF_mem (y := y) h hI hm z, byF, List.mem_filter, List.mem_range, decide_eq_true_iff]
  show (s_part (s_fly1 W (L 3).length m y p) (L 3).length (W.1 45) (W.1 47 - W.1 0)).2 27 x = _
  rw [eq, h.n45 hI, s_part, leastN_eq _ (by omega), allN_eq, T2_18 h, byF_sum h hI hm]
  by_cases e0 : byF (s_fly1 W (L 3).length m y p) (nI (L 4).length) (L 3).length = []
  · rw [if_pos e0, if_pos (show (-1 : Int32) < 0 by decide), partN_27, T2_27 h, cfl_27n x (fun z => by have := epos.mp z; have := s0.mpr e0; omega)]
    rw [if_neg (fun z => by
      have := (byF_mem (y := y) h hI hm x).mpr ((hlow x).mp z)
      rw [e0] at this
      cases this)]
  · have hb : hd0 (byF (s_fly1 W (L 3).length m y p) (nI (L 4).length) (L 3).length) < (L 3).length := by
      have := hd0_mem e0
      rw [byF, List.mem_filter, List.mem_range] at this
      exact this.1
    have hpos : 0 < s := Nat.pos_of_ne_zero (fun z => e0 (s0.mp z))
    rw [if_neg e0, if_neg (nI_pos (by omega)), nI_clamp (by omega), cfl_27 x (epos.mpr hpos), lst_eq (g := byF (s_fly1 W (L 3).length m y p) (nI (L 4).length) (L 3).length) e0 (byF_mem h hI hm) (fun z hz => byF_hd hz), leftN_eq, T2_18 h, byF_sum h hI hm]
    have e27 : (s_partN (s_fly1 W (L 3).length m y p) (nI (L 4).length) (BKw S L m p - S.1 0) (lsum (S.2 18) (L (8 + m.toNatClampNeg)) + lsum (S.2 18) (a_rid S L m p)) (L 3).length).2 27 = (fun x => if x ∈ L (8 + m.toNatClampNeg) ∨ x ∈ a_rid S L m p then (BKw S L m p - S.1 0) * S.2 18 x / (lsum (S.2 18) (L (8 + m.toNatClampNeg)) + lsum (S.2 18) (a_rid S L m p)) else S.2 27 x) := by
      funext z
      rw [partN_27, T2_18 h, T2_27 h]
      by_cases c : z ∈ L (8 + m.toNatClampNeg) ∨ z ∈ a_rid S L m p
      · rw [if_pos ((hlow z).mpr c), if_pos c]
      · rw [if_neg (fun q => c ((hlow z).mp q)), if_neg c]
    show u2 (s_partN (s_fly1 W (L 3).length m y p) (nI (L 4).length) (BKw S L m p - S.1 0) (lsum (S.2 18) (L (8 + m.toNatClampNeg)) + lsum (S.2 18) (a_rid S L m p)) (L 3).length).2 27 _ _ 27 x = _
    rw [u2_s, e27]
theorem mfl_9 (h : FW S L m p W) : (s_fly4 W (L 3).length m y p).2 9 = upd (S.2 9) m.toNatClampNeg (S.2 9 m.toNatClampNeg - a_burn S L m p) := by
  rw [mfl_r (by decide)]
  have e9 : (s_flyN (s_fly0 W m y p) m (W.1 45) (L 3).length).2 9 = S.2 9 := by rw [flyN_r (by decide) (by decide) (by decide) (by decide) (by decide), fly0_r (Or.inl (by decide)), h.r (by decide) (by decide)]
  show upd ((s_flyN (s_fly0 W m y p) m (W.1 45) (L 3).length).2 9) m.toNatClampNeg ((s_flyN (s_fly0 W m y p) m (W.1 45) (L 3).length).2 9 m.toNatClampNeg - (s_flyN (s_fly0 W m y p) m (W.1 45) (L 3).length).1 48) = _
  rw [e9, s_flyN_1]
  show upd (S.2 9) m.toNatClampNeg (S.2 9 m.toNatClampNeg - W.1 48) = _
  rw [h.2.2.2.1]
theorem mfl_10 (h : FW S L m p W) : (s_fly4 W (L 3).length m y p).2 10 = upd (S.2 10) m.toNatClampNeg (BKw S L m p) := by
  rw [mfl_r (by decide)]
  have e9 : (s_flyN (s_fly0 W m y p) m (W.1 45) (L 3).length).2 10 = S.2 10 := by rw [flyN_r (by decide) (by decide) (by decide) (by decide) (by decide), fly0_r (Or.inl (by decide)), h.r (by decide) (by decide)]
  show upd ((s_flyN (s_fly0 W m y p) m (W.1 45) (L 3).length).2 10) m.toNatClampNeg ((s_flyN (s_fly0 W m y p) m (W.1 45) (L 3).length).1 47) = _
  rw [e9, s_flyN_1]
  show upd (S.2 10) m.toNatClampNeg (W.1 47) = _
  rw [h.2.2.1]
theorem mfl_15 (h : FW S L m p W) : (s_fly4 W (L 3).length m y p).2 15 = upd (S.2 15) y.toNatClampNeg (BKw S L m p + S.2 13 y.toNatClampNeg) := by
  rw [mfl_r (by decide)]
  have e15 : (s_flyN (s_fly0 W m y p) m (W.1 45) (L 3).length).2 15 = S.2 15 := by rw [flyN_r (by decide) (by decide) (by decide) (by decide) (by decide), fly0_r (Or.inl (by decide)), h.r (by decide) (by decide)]
  have e13 : (s_flyN (s_fly0 W m y p) m (W.1 45) (L 3).length).2 13 = S.2 13 := by rw [flyN_r (by decide) (by decide) (by decide) (by decide) (by decide), fly0_r (Or.inl (by decide)), h.r (by decide) (by decide)]
  show upd ((s_flyN (s_fly0 W m y p) m (W.1 45) (L 3).length).2 15) y.toNatClampNeg ((s_flyN (s_fly0 W m y p) m (W.1 45) (L 3).length).1 47 + (s_flyN (s_fly0 W m y p) m (W.1 45) (L 3).length).2 13 y.toNatClampNeg) = _
  rw [e15, e13, s_flyN_1]
  show upd (S.2 15) y.toNatClampNeg (W.1 47 + S.2 13 y.toNatClampNeg) = _
  rw [h.2.2.1]
theorem mfl_14 (h : FW S L m p W) : (s_fly4 W (L 3).length m y p).2 14 = upd (S.2 14) y.toNatClampNeg (S.2 14 y.toNatClampNeg + (BKw S L m p - S.1 0)) := by
  rw [mfl_r (by decide)]
  have e14 : (s_flyN (s_fly0 W m y p) m (W.1 45) (L 3).length).2 14 = S.2 14 := by rw [flyN_r (by decide) (by decide) (by decide) (by decide) (by decide), fly0_r (Or.inl (by decide)), h.r (by decide) (by decide)]
  show upd ((s_flyN (s_fly0 W m y p) m (W.1 45) (L 3).length).2 14) y.toNatClampNeg ((s_flyN (s_fly0 W m y p) m (W.1 45) (L 3).length).2 14 y.toNatClampNeg + ((s_flyN (s_fly0 W m y p) m (W.1 45) (L 3).length).1 47 - (s_flyN (s_fly0 W m y p) m (W.1 45) (L 3).length).1 0)) = _
  rw [e14, s_flyN_1]
  show upd (S.2 14) y.toNatClampNeg (S.2 14 y.toNatClampNeg + (W.1 47 - W.1 0)) = _
  rw [h.2.2.1, h.i0]
theorem mfl_low (h : FW S L m p W) {j : Nat} (hj : j < 36 ∨ 44 < j) (h1 : j ≠ 23) (h2 : j ≠ 24) (h3 : j ≠ 25) (h4 : j ≠ 27) (h6 : j ≠ 9) (h7 : j ≠ 10) (h8 : j ≠ 15) (h9 : j ≠ 14) (h10 : j ≠ 34) (h11 : j ≠ 49) : (s_fly4 W (L 3).length m y p).2 j = S.2 j := by
  rw [mfl_r h4, T2_r h1 h2 h3 (by omega) (by omega) h6 h7 h8 h9, fly0_r hj, h.r h10 h11]
/-- the flight's own row, and all rows of flights -/
theorem mfl_f (h : FW S L m p W) (hI : Inv S X L wn sl fl) (hm : 0 ≤ m ∧ m < nI (L 1).length) {j : Nat} (h1 : 36 ≤ j) (h2 : j ≤ 44) : (s_fly4 W (L 3).length m y p).2 j = (a_plan S L m y p).2 j := by
  obtain ⟨i1, i2, hp⟩ := hI.prm hm
  have f45 := h.f45 hI
  rw [mfl_r (by omega)]
  have e0 : (s_fly1 W (L 3).length m y p).2 j = (s_flyN (s_fly0 W m y p) m (W.1 45) (L 3).length).2 j := by
    show u2 (u2 (u2 (u2 _ 9 _ _) 10 _ _) 15 _ _) 14 _ _ j = _
    rw [u2_n (by omega), u2_n (by omega), u2_n (by omega), u2_n (by omega)]
  rw [e0]
  funext x
  have oth : x ≠ (L 4).length → (s_fly0 W m y p).2 j x = S.2 j x := fun hx => by
    have e : ∀ (g : Nat → Nat → Int32) (k : Nat) (v : Int32), u2 g k (W.1 45).toNatClampNeg v j x = g j x := fun g k v => by
      by_cases q : j = k
      · subst q; rw [u2_s, pk_un (by rw [f45]; exact hx)]
      · rw [u2_n q]
    show u2 (u2 (u2 (u2 (u2 (u2 (u2 (u2 (u2 W.2 36 _ _) 37 _ _) 38 _ _) 39 _ _) 40 _ _) 41 _ _) 42 _ _) 43 _ _) 44 _ _ j x = _
    rw [e, e, e, e, e, e, e, e, e, h.r (by omega) (by omega)]
  by_cases q : x = (L 4).length
  · subst q
    have hj : j = 36 ∨ j = 37 ∨ j = 38 ∨ j = 39 ∨ j = 40 ∨ j = 41 ∨ j = 42 ∨ j = 43 ∨ j = 44 := by omega
    have p0 : ∀ j, (s_fly0 W m y p).2 j = u2 (u2 (u2 (u2 (u2 (u2 (u2 (u2 (u2 W.2 36 (L 4).length m) 37 (L 4).length y) 38 (L 4).length p) 39 (L 4).length (W.1 0)) 40 (L 4).length (W.1 46)) 41 (L 4).length (W.1 47)) 42 (L 4).length (W.1 48)) 43 (L 4).length 0) 44 (L 4).length 0 j := fun j => by rw [s_fly0, f45]
    rcases hj with rfl | rfl | rfl | rfl | rfl | rfl | rfl | rfl | rfl
    · rw [flyN_r (by decide) (by decide) (by decide) (by decide) (by decide), p0, a_plan_36]; exact pk_us
    · rw [flyN_r (by decide) (by decide) (by decide) (by decide) (by decide), p0, a_plan_37]; exact pk_us
    · rw [flyN_r (by decide) (by decide) (by decide) (by decide) (by decide), p0, a_plan_38]; exact pk_us
    · rw [flyN_r (by decide) (by decide) (by decide) (by decide) (by decide), p0, a_plan_39]; exact (pk_us).trans h.i0
    · rw [flyN_r (by decide) (by decide) (by decide) (by decide) (by decide), p0, a_plan_40]; exact (pk_us).trans h.2.1
    · rw [flyN_r (by decide) (by decide) (by decide) (by decide) (by decide), p0, a_plan_41]; exact (pk_us).trans h.2.2.1
    · rw [flyN_r (by decide) (by decide) (by decide) (by decide) (by decide), p0, a_plan_42]; exact (pk_us).trans h.2.2.2.1
    · rw [(flyN_x _).2.1, if_pos f45.symm, a_plan_43, p0 43, show (u2 (u2 (u2 (u2 (u2 (u2 (u2 (u2 (u2 W.2 36 (L 4).length m) 37 (L 4).length y) 38 (L 4).length p) 39 (L 4).length (W.1 0)) 40 (L 4).length (W.1 46)) 41 (L 4).length (W.1 47)) 42 (L 4).length (W.1 48)) 43 (L 4).length 0) 44 (L 4).length 0 43 (L 4).length) = 0 from pk_us, Int32.zero_add, fly0_r (Or.inl (by decide)), fly0_r (Or.inl (by decide)), h.r (by decide) (by decide), h.r (by decide) (by decide), hp.length_eq]
    · rw [(flyN_x _).2.2, if_pos f45.symm, a_plan_44, p0 44, show (u2 (u2 (u2 (u2 (u2 (u2 (u2 (u2 (u2 W.2 36 (L 4).length m) 37 (L 4).length y) 38 (L 4).length p) 39 (L 4).length (W.1 0)) 40 (L 4).length (W.1 46)) 41 (L 4).length (W.1 47)) 42 (L 4).length (W.1 48)) 43 (L 4).length 0) 44 (L 4).length 0 44 (L 4).length) = 0 from pk_us, Int32.zero_add, fly0_r (Or.inl (by decide)), fly0_r (Or.inl (by decide)), fly0_r (Or.inr (by decide)), h.r (by decide) (by decide), h.r (by decide) (by decide)]
      refine congrArg nI (List.Perm.length_eq ?_)
      refine (List.perm_ext_iff_of_nodup (List.Pairwise.filter _ List.nodup_range) rid_nd).mpr (fun z => ?_)
      rw [List.mem_filter, List.mem_range, decide_eq_true_iff]
      constructor
      · rintro ⟨a, -, b⟩
        exact (h.2.2.2.2 z a).mp b
      · intro a
        obtain ⟨b, c, -⟩ := rid_in a
        exact ⟨b, fun z => absurd (c.symm.trans z.1) (by decide), (h.2.2.2.2 z b).mpr a⟩
  · rw [a_plan_n j x q]
    by_cases h43 : j = 43
    · subst h43
      rw [(flyN_x _).2.1, if_neg (by rw [f45]; exact q)]
      exact oth q
    · by_cases h44 : j = 44
      · subst h44
        rw [(flyN_x _).2.2, if_neg (by rw [f45]; exact q)]
        exact oth q
      · rw [flyN_r (by omega) (by omega) (by omega) h43 h44]
        exact oth q
end FM
