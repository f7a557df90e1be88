/-! ===== may ===== -/
theorem long_iff {S : MS} {m : Int32} : ∀ n, ¬ r_longN S m n = 0 ↔ ∃ k, k ∈ hgF (S.2 23) (S.2 24) m n ∧ S.2 20 k = 1
  | 0 => ⟨fun z => absurd rfl z, fun ⟨k, hk, _⟩ => (by cases hk)⟩
  | n + 1 => by
    have ih := long_iff (S := S) (m := m) n
    rw [r_longN, hgF_s]
    by_cases h0 : r_longN S m n = 0
    · rw [if_pos h0]
      have hno : ¬ ∃ k, k ∈ hgF (S.2 23) (S.2 24) m n ∧ S.2 20 k = 1 := fun z => ih.mpr z h0
      by_cases h1 : S.2 23 n = 1
      · rw [if_pos h1]
        by_cases h2 : S.2 24 n = m
        · rw [if_pos h2, if_pos (show S.2 23 n = 1 ∧ S.2 24 n = m from ⟨h1, h2⟩)]
          by_cases h3 : S.2 20 n = 1
          · rw [if_pos h3]
            exact ⟨fun _ => ⟨n, List.mem_append_right _ (List.mem_singleton.mpr rfl), h3⟩, fun _ => by decide⟩
          · rw [if_neg h3]
            refine ⟨fun z => absurd rfl z, fun ⟨k, hk, e⟩ => ?_⟩
            rcases List.mem_append.mp hk with q | q
            · exact absurd ⟨k, q, e⟩ hno
            · rw [List.mem_singleton.mp q] at e; exact absurd e h3
        · rw [if_neg h2, if_neg (fun z => h2 z.2)]
          exact ⟨fun z => absurd rfl z, fun z => absurd z hno⟩
      · rw [if_neg h1, if_neg (fun z => h1 z.1)]
        exact ⟨fun z => absurd rfl z, fun z => absurd z hno⟩
    · rw [if_neg h0]
      obtain ⟨k, hk, e⟩ := ih.mp h0
      refine ⟨fun _ => ⟨k, ?_, e⟩, fun _ => by decide⟩
      split
      · exact List.mem_append_left _ hk
      · exact hk
theorem exN_iff {P : Nat → Bool} : ∀ n, exN P n = true ↔ ∃ k, k < n ∧ P k = true
  | 0 => ⟨fun z => (by cases z), fun ⟨k, hk, _⟩ => absurd hk (Nat.not_lt_zero _)⟩
  | n + 1 => by
    rw [exN, Bool.or_eq_true, exN_iff n]
    constructor
    · rintro (⟨k, hk, e⟩ | e)
      · exact ⟨k, by omega, e⟩
      · exact ⟨n, by omega, e⟩
    · rintro ⟨k, hk, e⟩
      by_cases q : k = n
      · exact Or.inr (q ▸ e)
      · exact Or.inl ⟨k, by omega, e⟩
/-- the model's scratch: pile, what was found of a flight -/
def mSc (S T : MS) : Prop := (∀ k, k ≠ 35 → k ≠ 46 → k ≠ 47 → k ≠ 48 → T.1 k = S.1 k) ∧ ∀ k, k ≠ 34 → k ≠ 49 → T.2 k = S.2 k
theorem mSc.refl {S : MS} : mSc S S := ⟨fun _ _ _ _ _ => rfl, fun _ _ _ => rfl⟩
theorem mSc.thn {S T U : MS} (h : mSc S T) (hR : pR T U) : mSc S U := ⟨fun k a b c d => (hR.1 k a).trans (h.1 k a b c d), fun k a b => (hR.2 k a).trans (h.2 k a b)⟩
theorem sS.msc {S T : MS} {L : Nat → List Nat} {fl : Nat} (hR : mSc S T) : sS S T L fl := sS.of (hR.1 0 (by decide) (by decide) (by decide) (by decide)).symm (hR.1 30 (by decide) (by decide) (by decide) (by decide)).symm (fun k hk _ _ _ _ _ _ _ _ k34 _ => (hR.2 k k34 (by omega)).symm)
theorem Inv.msc {S T X : MS} {L : Nat → List Nat} {wn : Nat → Option Nat} {sl : Nat → Nat} {fl : Nat} (hI : Inv S X L wn sl fl) (hR : mSc S T) : Inv T X L wn sl fl := by
  have h1 : ∀ k, k ≠ 35 ∧ k ≠ 46 ∧ k ≠ 47 ∧ k ≠ 48 → T.1 k = S.1 k := fun k a => hR.1 k a.1 a.2.1 a.2.2.1 a.2.2.2
  have h2 : ∀ k, k ≠ 34 ∧ k ≠ 49 → T.2 k = S.2 k := fun k a => hR.2 k a.1 a.2
  unfold Inv
  rw [h1 3 (by decide), h1 11 (by decide), h1 16 (by decide), h1 28 (by decide), h1 45 (by decide), h1 33 (by decide), h1 0 (by decide), h1 30 (by decide), h1 51 (by decide), h1 55 (by decide), h2 29 (by decide), h2 1 (by decide), h2 2 (by decide), h2 8 (by decide), h2 9 (by decide), h2 10 (by decide), h2 12 (by decide), h2 13 (by decide), h2 14 (by decide), h2 15 (by decide), h2 17 (by decide), h2 18 (by decide), h2 19 (by decide), h2 20 (by decide), h2 21 (by decide), h2 23 (by decide), h2 24 (by decide), h2 25 (by decide), h2 27 (by decide), h2 40 (by decide), h2 41 (by decide), h2 31 (by decide), h2 32 (by decide), h2 50 (by decide), h2 53 (by decide)]
  exact hI
theorem hangN_f {X T : MS} {m c : Int32} (h : ∀ k, k ≠ 49 → X.2 k = T.2 k) : ∀ n, r_hangN X m c n = r_hangN T m c n
  | 0 => rfl
  | n + 1 => by simp only [r_hangN, hangN_f h n, h 23 (by decide), h 24 (by decide), h 18 (by decide), h 19 (by decide), h 20 (by decide)]
theorem named_f {X T : MS} (h : ∀ k, k ≠ 49 → X.2 k = T.2 k) (n : Nat) (c t p m f : Int32) : r_named X n c t p m f = r_named T n c t p m f := by
  simp only [r_named, hangN_f h n, h 4 (by decide), h 5 (by decide), h 6 (by decide), h 1 (by decide)]
theorem rEv_f {X T : MS} (h : ∀ k, k ≠ 49 → X.2 k = T.2 k) (n i : Nat) (t p m f : Int32) : rEv X n i t p m f = rEv T n i t p m f := by
  rw [rEv, rEv, rlen, rlen, h 32 (by decide), show btext X (nI i) = btext T (nI i) from funext fun k => by rw [btext, btext, h 31 (by decide)], show (fun c => r_named X n c t p m f) = (fun c => r_named T n c t p m f) from funext fun c => named_f h n c t p m f]
theorem rOK_f {X T : MS} {u : Nat} (h : ∀ k, k ≠ 49 → X.2 k = T.2 k) (hr : rOK T u) : rOK X u := fun i hi => by
  obtain ⟨q, h1, h2, h3⟩ := hr i hi
  exact ⟨q, h1, by rw [h 32 (by decide)]; exact h2, by rw [show btext X (nI i) = btext T (nI i) from funext fun k => by rw [btext, btext, h 31 (by decide)]]; exact h3⟩
theorem fN_r (T : MS) (m p : Int32) {j : Nat} (hj : j ≠ 49) : ∀ k, (fN T m p k).1.2 j = T.2 j
  | 0 => rfl
  | k + 1 => by
    rw [fN]
    exact (u2_n hj).trans (fN_r T m p hj k)
theorem fB_eq {Sx : MS} {x4 x5 m p : Int32} {k : Nat} (h47 : ¬ 720 < Sx.1 47) : fB Sx x4 x5 m p k = if (Sx.2 23 k = 0 ∧ Sx.2 17 k = p) ∧ Sx.2 20 k = 4 ∧ Sx.2 21 k ≤ Sx.1 46 ∧ x4 + Sx.2 18 k ≤ r_liftOf Sx m p (m_hour (Sx.1 46)) ∧ x5 + Sx.2 19 k ≤ 9 then 1 else 0 := by
  rw [fB, if_neg h47]
  by_cases a1 : Sx.2 20 k = 4
  · by_cases a2 : Sx.2 17 k = p
    · by_cases a3 : Sx.2 23 k = 0
      · by_cases a4 : Sx.1 46 < Sx.2 21 k
        · rw [if_pos a1, if_pos a2, if_pos a3, if_pos a4, if_neg (fun z => Int32.not_lt.mpr z.2.2.1 a4)]
        · by_cases a5 : r_liftOf Sx m p (m_hour (Sx.1 46)) < x4 + Sx.2 18 k
          · rw [if_pos a1, if_pos a2, if_pos a3, if_neg a4, if_pos a5, if_neg (fun z => Int32.not_lt.mpr z.2.2.2.1 a5)]
          · by_cases a6 : 9 < x5 + Sx.2 19 k
            · rw [if_pos a1, if_pos a2, if_pos a3, if_neg a4, if_neg a5, if_pos a6, if_neg (fun z => Int32.not_lt.mpr z.2.2.2.2 a6)]
            · rw [if_pos a1, if_pos a2, if_pos a3, if_neg a4, if_neg a5, if_neg a6, if_pos ⟨⟨a3, a2⟩, a1, Int32.not_lt.mp a4, Int32.not_lt.mp a5, Int32.not_lt.mp a6⟩]
      · rw [if_pos a1, if_pos a2, if_neg a3, if_neg (fun z => a3 z.1.1)]
    · rw [if_pos a1, if_neg a2, if_neg (fun z => a2 z.1.2)]
  · rw [if_neg a1, if_neg (fun z => a1 z.2.1)]
theorem lift_f {X T : MS} (h : ∀ k, k ≠ 49 → X.2 k = T.2 k) {m p x : Int32} : r_liftOf X m p x = r_liftOf T m p x := by
  simp only [r_liftOf, h 7 (by decide), h 1 (by decide), h 5 (by decide)]
theorem fN_rid {T : MS} {m p t l : Int32} (h47 : ¬ 720 < T.1 47) (h46 : T.1 46 = t) (hl : r_liftOf T m p (m_hour t) = l) : ∀ k, (fN T m p k).2 = (ridN T p t l k).2 ∧ ∀ j, j < k → (¬ (fN T m p k).1.2 49 j = 0 ↔ j ∈ (ridN T p t l k).1)
  | 0 => ⟨rfl, fun j hj => absurd hj (Nat.not_lt_zero _)⟩
  | k + 1 => by
    obtain ⟨i1, i2⟩ := fN_rid h47 h46 hl k
    have e1 : (fN T m p k).1.1 = T.1 := fN_1 T m p k
    have er : ∀ j, j ≠ 49 → (fN T m p k).1.2 j = T.2 j := fun j hj => fN_r T m p hj k
    have eB : fB (fN T m p k).1 (fN T m p k).2.1 (fN T m p k).2.2 m p k = if (T.2 23 k = 0 ∧ T.2 17 k = p) ∧ T.2 20 k = 4 ∧ T.2 21 k ≤ t ∧ (ridN T p t l k).2.1 + T.2 18 k ≤ l ∧ (ridN T p t l k).2.2 + T.2 19 k ≤ 9 then 1 else 0 := by
      rw [fB_eq (by rw [e1]; exact h47), e1, h46, lift_f er, hl, er 23 (by decide), er 17 (by decide), er 20 (by decide), er 21 (by decide), er 18 (by decide), er 19 (by decide), i1]
    have eB1 : ridC T p t l k (ridN T p t l k) → fB (fN T m p k).1 (fN T m p k).2.1 (fN T m p k).2.2 m p k = 1 := fun hc => eB.trans (if_pos hc)
    have eB0 : ¬ ridC T p t l k (ridN T p t l k) → fB (fN T m p k).1 (fN T m p k).2.1 (fN T m p k).2.2 m p k = 0 := fun hc => eB.trans (if_neg hc)
    have hlt : ∀ j, j ∈ (ridN T p t l k).1 → j < k := by
      have : ∀ k j, j ∈ (ridN T p t l k).1 → j < k := by
        intro k
        induction k with
        | zero => intro j hj; cases hj
        | succ k ih =>
          intro j hj
          by_cases hc : ridC T p t l k (ridN T p t l k)
          · rw [rid_t hc] at hj
            rcases List.mem_append.mp hj with q | q
            · have := ih j q; omega
            · rw [List.mem_singleton.mp q]; omega
          · rw [rid_f hc] at hj
            have := ih j hj; omega
      exact this k
    rw [fN]
    by_cases hc : ridC T p t l k (ridN T p t l k)
    · rw [rid_t hc, eB1 hc, pk_us, er 18 (by decide), er 19 (by decide), if_neg (show ¬ (1 : Int32) = 0 by decide), if_neg (show ¬ (1 : Int32) = 0 by decide)]
      refine ⟨by rw [← i1], fun j hj => ?_⟩
      show ¬ u2 (fN T m p k).1.2 49 k 1 49 j = 0 ↔ _
      rw [u2_s, List.mem_append, List.mem_singleton]
      by_cases q : j = k
      · rw [q, pk_us]
        exact ⟨fun _ => Or.inr rfl, fun _ => by decide⟩
      · rw [pk_un q, i2 j (by omega)]
        exact ⟨Or.inl, fun z => z.elim id (fun z => absurd z q)⟩
    · rw [rid_f hc, eB0 hc, pk_us, if_pos rfl, if_pos rfl, Int32.add_zero, Int32.add_zero]
      refine ⟨i1, fun j hj => ?_⟩
      show ¬ u2 (fN T m p k).1.2 49 k 0 49 j = 0 ↔ _
      rw [u2_s]
      by_cases q : j = k
      · rw [q, pk_us]
        exact ⟨fun z => absurd rfl z, fun z => absurd (hlt k z) (Nat.lt_irrefl _)⟩
      · rw [pk_un q]
        exact i2 j (by omega)
section MY
variable {G : Nat → Nat} {x0 m0 : Nat} {adm : Nat → Nat} {S X : MS} {L : Nat → List Nat} {wn : Nat → Option Nat} {sl : Nat → Nat} {fl : Nat} {ad : Nat → Nat → Nat} {h : AH}
theorem Inv.prm {m : Int32} (hI : Inv S X L wn sl fl) (hm : 0 ≤ m ∧ m < nI (L 1).length) : m.toNatClampNeg < (L 1).length ∧ nI m.toNatClampNeg = m ∧ (L (8 + m.toNatClampNeg)).Perm (hgF (S.2 23) (S.2 24) m (L 3).length) := by
  obtain ⟨i1, i2⟩ := idx_of hm (show (L 1).length ≤ 100000 by have := hI.co.b1; omega)
  have hp := hI.ha.perm i1
  rw [i2] at hp
  exact ⟨i1, i2, hp⟩
theorem Inv.way {m p : Int32} (hI : Inv S X L wn sl fl) (hm : 0 ≤ m ∧ m < nI (L 1).length) : r_wayOf S (L 3).length m p = a_way S L m p := by
  obtain ⟨i1, i2, hp⟩ := hI.prm hm
  have key : (L (8 + m.toNatClampNeg)).any (fun z => decide (S.2 20 z = 1)) = true ↔ ¬ r_longN S m (L 3).length = 0 := by
    rw [long_iff, List.any_eq_true]
    constructor
    · rintro ⟨k, hk, e⟩
      exact ⟨k, hp.mem_iff.mp hk, by simpa using e⟩
    · rintro ⟨k, hk, e⟩
      exact ⟨k, hp.mem_iff.mpr hk, by simpa using e⟩
  rw [r_wayOf, a_way]
  by_cases h0 : r_longN S m (L 3).length = 0
  · rw [if_pos h0, if_neg (fun z => key.mp z h0)]
  · rw [if_neg h0, if_pos (key.mpr h0)]
/-- the way is a small number -/
theorem Inv.wayr {m p : Int32} (hI : Inv S X L wn sl fl) (hp : 0 < p ∧ p < nI (L 0).length) : rg (a_way S L m p) 120 := by
  obtain ⟨j1, j2⟩ := idx_of1 hp (show (L 0).length ≤ 100000 by have := hI.co.b0; omega)
  obtain ⟨w, hw, ew⟩ := (hI.pl.2 _ j1).2
  rw [a_way, ew]
  split
  · exact ⟨2 * w, by omega, by rw [show (2 : Int32) = nI 2 from rfl]; exact (Int32.ofNat_mul 2 w).symm⟩
  · exact ⟨w, by omega, rfl⟩
theorem find_i {n : Nat} {m p : Int32} {k : Nat} (h1 : k ≠ 46) (h2 : k ≠ 47) (h3 : k ≠ 48) : (s_find S n m p).1 k = S.1 k := by
  show vf_upd (fN (s_find0 S n m p) m p n).1.1 48 _ k = _
  rw [vf_upd, if_neg h3, fN_1]
  show vf_upd (vf_upd S.1 46 _) 47 _ k = _
  rw [vf_upd, if_neg h2, vf_upd, if_neg h1]
theorem find_46 {n : Nat} {m p : Int32} : (s_find S n m p).1 46 = S.1 0 + r_wayOf S n m p := (show (s_find S n m p).1 46 = (fN (s_find0 S n m p) m p n).1.1 46 from rfl).trans (by rw [fN_1]; rfl)
theorem find_47 {n : Nat} {m p : Int32} : (s_find S n m p).1 47 = S.1 0 + r_wayOf S n m p + 2 + r_wayOf S n m p := (show (s_find S n m p).1 47 = (fN (s_find0 S n m p) m p n).1.1 47 from rfl).trans (by rw [fN_1]; rfl)
theorem find_r {n : Nat} {m p : Int32} {k : Nat} (hk : k ≠ 49) : (s_find S n m p).2 k = S.2 k := fN_r _ m p hk n
theorem str_eq {m p x : Int32} : r_liftOf S m p x = a_str S m.toNatClampNeg (S.2 1 p.toNatClampNeg) (S.2 5 x.toNatClampNeg) := by
  rw [r_liftOf, a_str, mx0]
/-- who rides, and what is burnt, where the flight is back in time -/
theorem Inv.find {m p : Int32} (hI : Inv S X L wn sl fl) (hm : 0 ≤ m ∧ m < nI (L 1).length) (hp : 0 < p ∧ p < nI (L 0).length) (h47 : ¬ 720 < (s_find S (L 3).length m p).1 47) : (s_find S (L 3).length m p).1 48 = a_burn S L m p ∧ ∀ j, j < (L 3).length → (¬ (s_find S (L 3).length m p).2 49 j = 0 ↔ j ∈ a_rid S L m p) := by
  obtain ⟨t, ht, et⟩ := hI.tm
  obtain ⟨w, hw, ew⟩ := hI.wayr (m := m) hp
  have eh : m_hour (S.1 0 + a_way S L m p) = c_hour (S.1 0 + a_way S L m p) := by
    rw [et, ew, nI_add]
    exact hour_eq rfl (by omega)
  have e47 : (s_find0 S (L 3).length m p).1 47 = S.1 0 + r_wayOf S (L 3).length m p + 2 + r_wayOf S (L 3).length m p := rfl
  have h47' : ¬ 720 < (s_find0 S (L 3).length m p).1 47 := by rw [e47, ← find_47]; exact h47
  have e46 : (s_find0 S (L 3).length m p).1 46 = S.1 0 + a_way S L m p := by
    show S.1 0 + r_wayOf S (L 3).length m p = _
    rw [hI.way hm]
  have el : r_liftOf (s_find0 S (L 3).length m p) m p (m_hour (S.1 0 + a_way S L m p)) = a_str S m.toNatClampNeg (S.2 1 p.toNatClampNeg) (S.2 5 (c_hour (S.1 0 + a_way S L m p)).toNatClampNeg) := by
    rw [eh]
    exact str_eq
  obtain ⟨f1, f2⟩ := fN_rid h47' e46 el (L 3).length
  have hrid : ridN (s_find0 S (L 3).length m p) p (S.1 0 + a_way S L m p) (a_str S m.toNatClampNeg (S.2 1 p.toNatClampNeg) (S.2 5 (c_hour (S.1 0 + a_way S L m p)).toNatClampNeg)) (L 3).length = ridN S p (S.1 0 + a_way S L m p) (a_str S m.toNatClampNeg (S.2 1 p.toNatClampNeg) (S.2 5 (c_hour (S.1 0 + a_way S L m p)).toNatClampNeg)) (L 3).length := rid_S (S := S) (T := s_find0 S (L 3).length m p) (fun _ _ => rfl) _ _ _ _
  rw [hrid] at f1 f2
  refine ⟨?_, f2⟩
  have hsum : ∀ n, (ridN S p (S.1 0 + a_way S L m p) (a_str S m.toNatClampNeg (S.2 1 p.toNatClampNeg) (S.2 5 (c_hour (S.1 0 + a_way S L m p)).toNatClampNeg)) n).2.1 = lsum (S.2 18) (ridN S p (S.1 0 + a_way S L m p) (a_str S m.toNatClampNeg (S.2 1 p.toNatClampNeg) (S.2 5 (c_hour (S.1 0 + a_way S L m p)).toNatClampNeg)) n).1 := by
    intro n
    induction n with
    | zero => rfl
    | succ n ih =>
      by_cases hc : ridC S p (S.1 0 + a_way S L m p) (a_str S m.toNatClampNeg (S.2 1 p.toNatClampNeg) (S.2 5 (c_hour (S.1 0 + a_way S L m p)).toNatClampNeg)) n (ridN S p (S.1 0 + a_way S L m p) (a_str S m.toNatClampNeg (S.2 1 p.toNatClampNeg) (S.2 5 (c_hour (S.1 0 + a_way S L m p)).toNatClampNeg)) n)
      · rw [rid_t hc, lsum_s, ← ih]
      · rw [rid_f hc, ih]
  show r_wayOf S (L 3).length m p * (2 + r_hangN (fN (s_find0 S (L 3).length m p) m p (L 3).length).1 m 108 (L 3).length / 20) + r_wayOf S (L 3).length m p * (2 + (fN (s_find0 S (L 3).length m p) m p (L 3).length).2.1 / 20) = _
  rw [f1, hsum, hI.way hm, hangN_f (T := S) (fun k hk => fN_r (s_find0 S (L 3).length m p) m p hk (L 3).length), a_burn, (hI.hn hm).2.1]
  rfl
end MY
