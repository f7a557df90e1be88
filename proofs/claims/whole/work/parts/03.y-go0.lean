/-! the search for an order: the model's, as a function -/
theorem i32irr (x : Int32) : ¬ x < x := by
  rw [Int32.lt_iff_toInt_lt]
  omega
def lo (S T : MS) : Prop := ∀ k, k < 34 → T.2 k = S.2 k
theorem r_hangN_lo {X T : MS} {m c : Int32} (h : lo T X) : ∀ n, r_hangN X m c n = r_hangN T m c n
  | 0 => rfl
  | n + 1 => by simp only [r_hangN, h 23 (by decide), h 24 (by decide), h 18 (by decide), h 19 (by decide), h 20 (by decide), r_hangN_lo h n]
theorem r_named_lo {X T : MS} (h : lo T X) (n : Nat) (c t p m f : Int32) : r_named X n c t p m f = r_named T n c t p m f := by
  simp only [r_named, h 4 (by decide), h 5 (by decide), h 6 (by decide), h 1 (by decide), r_hangN_lo h]
theorem rEv_lo {S T : MS} (h : lo S T) (n i : Nat) (t p m f : Int32) : rEv T n i t p m f = rEv S n i t p m f := by
  have e1 : (fun c => r_named T n c t p m f) = (fun c => r_named S n c t p m f) := funext fun c => r_named_lo h n c t p m f
  have e2 : btext T (nI i) = btext S (nI i) := funext fun k => congrFun (h 31 (by decide)) _
  rw [rEv, rEv, e1, e2, rlen, rlen, h 32 (by decide)]
theorem rOK.lo {S T : MS} {u : Nat} (h : rOK S u) (hR : lo S T) : rOK T u := by
  intro i hi
  obtain ⟨q, h1, h2, h3⟩ := h i hi
  refine ⟨q, h1, by rw [hR 32 (by decide)]; exact h2, ?_⟩
  rw [show btext T (nI i) = btext S (nI i) from funext fun k => congrFun (hR 31 (by decide)) _]
  exact h3
theorem mB_lo {S T : MS} (h : lo S T) (n u : Nat) (y p t f l : Int32) : mB T n u y p t f l = mB S n u y p t f l := by
  have e : ∀ i, rEv T n i t p (-1) f = rEv S n i t p (-1) f := fun i => rEv_lo h n i t p (-1) f
  simp only [mB, mB0, h 2 (by decide), h 12 (by decide), e]
theorem mBi_lo {S T : MS} (h : lo S T) (n u : Nat) (y p t f l : Int32) : mBi T n u y p t f l = mBi S n u y p t f l := by
  unfold mBi
  rw [mB_lo h]
def GB : Type := Int32 × Int32 × (Nat → Int32)
def gB (T : MS) : GB := (T.1 57, T.1 56, T.2 53)
def lexLt (o b : Nat → Int32) (L : Nat) : Prop := ∃ j, j < L ∧ (∀ i, i < j → o i = b i) ∧ o j < b j
def cpy (o b : Nat → Int32) (k : Nat) : Nat → Int32 := fun i => if i < k then o i else b i
def gC (L : Nat) (B : GB) (o : Nat → Int32) (e : Int32) : Prop := B.1 < 0 ∨ e < B.2.1 ∨ (e = B.2.1 ∧ lexLt o B.2.2 L)
noncomputable def gLeaf (L : Nat) (B : GB) (o : Nat → Int32) (e : Int32) : GB := @ite _ (gC L B o e) (Classical.propDecidable _) (nI L, e, cpy o B.2.2 L) B
noncomputable def fsA (S : MS) (n u : Nat) (y p f l : Int32) : Nat → Nat → Nat
  | 0, a => a
  | j + 1, a => if 720 < a then a else if mBi S n u y p (nI a) f l = 0 then fsA S n u y p f l j (a + 1) else a
/-- one turn of the search's loop -/
noncomputable def gT (S : MS) (n u : Nat) (y : Int32) (rc : GB → (Nat → Int32) → (Nat → Int32) → Nat → Int32 → Int32 → Int32 → GB) (k : Nat) (o fl : Nat → Int32) (a : Nat) (hf l : Int32) (j : Nat) (B : GB) : GB :=
  if fl j = 0 ∧ fsA S n u y (S.2 50 j) hf l (722 - a) a ≤ 720 then
    rc B (upd o k (S.2 50 j)) (upd fl j 1) (nI (fsA S n u y (S.2 50 j) hf l (722 - a) a) + 2 * S.2 2 (S.2 50 j).toNatClampNeg + 2 + S.2 13 y.toNatClampNeg).toNatClampNeg (hf + (nI (fsA S n u y (S.2 50 j) hf l (722 - a) a) + 2 * S.2 2 (S.2 50 j).toNatClampNeg + 2) - nI (fsA S n u y (S.2 50 j) hf l (722 - a) a)) (l - 4 * S.2 2 (S.2 50 j).toNatClampNeg) (nI (fsA S n u y (S.2 50 j) hf l (722 - a) a) + 2 * S.2 2 (S.2 50 j).toNatClampNeg + 2)
  else B
noncomputable def gL (S : MS) (n u : Nat) (y : Int32) (rc : GB → (Nat → Int32) → (Nat → Int32) → Nat → Int32 → Int32 → Int32 → GB) (k : Nat) (o fl : Nat → Int32) (a : Nat) (hf l : Int32) (B : GB) : Nat → GB
  | 0 => B
  | j + 1 => gT S n u y rc k o fl a hf l j (gL S n u y rc k o fl a hf l B j)
noncomputable def gF (S : MS) (n u L : Nat) (y : Int32) : Nat → GB → (Nat → Int32) → (Nat → Int32) → Nat → Int32 → Int32 → Int32 → GB
  | 0 => fun B o _ _ _ _ e => gLeaf L B o e
  | f + 1 => fun B o fl a hf l _ => gL S n u y (gF S n u L y f) (L - (f + 1)) o fl a hf l B L
def gR (k : Nat) (S T : MS) : Prop := (∀ j, j ≠ 35 → j ≠ 56 → j ≠ 57 → T.1 j = S.1 j) ∧ (∀ j, j ≠ 34 → j ≠ 52 → j ≠ 53 → T.2 j = S.2 j) ∧ ∀ i, i < k → T.2 52 i = S.2 52 i
theorem gR.refl {k : Nat} {S : MS} : gR k S S := ⟨fun _ _ _ _ => rfl, fun _ _ _ _ => rfl, fun _ _ => rfl⟩
def gH (S : MS) (n u L : Nat) (y : Int32) : Prop := (S.1 28 = nI n ∧ n ≤ 80) ∧ (S.1 33 = nI u ∧ u ≤ 10) ∧ rOK S u ∧ (S.1 51 = nI L ∧ L ≤ 5) ∧ vp_in y 6 ∧ (∃ r, r ≤ 120 ∧ S.2 13 y.toNatClampNeg = nI r) ∧ ∀ j, j < L → vp_in (S.2 50 j) 12 ∧ ∃ w, w ≤ 60 ∧ S.2 2 (S.2 50 j).toNatClampNeg = nI w
theorem gH.of {S T : MS} {n u L : Nat} {y : Int32} (h : gH S n u L y) (h1 : ∀ j, j ≠ 35 → j ≠ 56 → j ≠ 57 → T.1 j = S.1 j) (h2 : ∀ j, j ≠ 34 → j ≠ 52 → j ≠ 53 → j ≠ 54 → T.2 j = S.2 j) : gH T n u L y := by
  obtain ⟨⟨a1, a2⟩, ⟨a3, a4⟩, a5, ⟨a6, a7⟩, a8, a9, a10⟩ := h
  have hlo : lo S T := fun k hk => h2 k (by omega) (by omega) (by omega) (by omega)
  refine ⟨⟨(h1 28 (by decide) (by decide) (by decide)).trans a1, a2⟩, ⟨(h1 33 (by decide) (by decide) (by decide)).trans a3, a4⟩, a5.lo hlo, ⟨(h1 51 (by decide) (by decide) (by decide)).trans a6, a7⟩, a8, ?_, ?_⟩
  · rw [hlo 13 (by decide)]
    exact a9
  · rw [hlo 2 (by decide), h2 50 (by decide) (by decide) (by decide) (by decide)]
    exact a10
theorem fsA_lo {S T : MS} (h : lo S T) (n u : Nat) (y p f l : Int32) : ∀ j a, fsA T n u y p f l j a = fsA S n u y p f l j a
  | 0, _ => rfl
  | j + 1, a => by simp only [fsA, mBi_lo h, fsA_lo h n u y p f l j (a + 1)]
theorem gF_lo {S T : MS} (h : lo S T) (h50 : T.2 50 = S.2 50) (n u L : Nat) (y : Int32) : ∀ f, gF T n u L y f = gF S n u L y f
  | 0 => rfl
  | f + 1 => by
    have ih := gF_lo h h50 n u L y f
    have key : ∀ k o fl a hf l B, ∀ j, gL T n u y (gF S n u L y f) k o fl a hf l B j = gL S n u y (gF S n u L y f) k o fl a hf l B j := by
      intro k o fl a hf l B j
      induction j with
      | zero => rfl
      | succ j jh => simp only [gL, jh, gT, fsA_lo h, h50, h 2 (by decide), h 13 (by decide)]
    funext B o fl a hf l e
    simp only [gF, ih, key]
theorem gC_ext {L : Nat} {B : GB} {o o2 : Nat → Int32} {e : Int32} (h : ∀ i, i < L → o2 i = o i) : gC L B o2 e = gC L B o e := by
  have : lexLt o2 B.2.2 L = lexLt o B.2.2 L := by
    refine propext ⟨?_, ?_⟩
    · rintro ⟨j, h1, h2, h3⟩
      exact ⟨j, h1, fun i hi => (h i (by omega)).symm.trans (h2 i hi), by rw [← h j h1]; exact h3⟩
    · rintro ⟨j, h1, h2, h3⟩
      exact ⟨j, h1, fun i hi => (h i (by omega)).trans (h2 i hi), by rw [h j h1]; exact h3⟩
  simp only [gC, this]
theorem gLeaf_ext {L : Nat} {B : GB} {o o2 : Nat → Int32} {e : Int32} (h : ∀ i, i < L → o2 i = o i) : gLeaf L B o2 e = gLeaf L B o e := by
  have e2 : cpy o2 B.2.2 L = cpy o B.2.2 L := by
    funext i
    unfold cpy
    by_cases q : i < L
    · rw [if_pos q, if_pos q, h i q]
    · rw [if_neg q, if_neg q]
  unfold gLeaf
  rw [gC_ext h, e2]
theorem gF_ext {S : MS} {n u L : Nat} {y : Int32} : ∀ {f : Nat}, f ≤ L → ∀ {B : GB} {o o2 fl : Nat → Int32} {a : Nat} {hf l e : Int32}, (∀ i, i < L - f → o2 i = o i) → gF S n u L y f B o2 fl a hf l e = gF S n u L y f B o fl a hf l e
  | 0, _, B, o, o2, fl, a, hf, l, e, h => gLeaf_ext h
  | f + 1, hfL, B, o, o2, fl, a, hf, l, e, h => by
    simp only [gF]
    have key : ∀ j, gL S n u y (gF S n u L y f) (L - (f + 1)) o2 fl a hf l B j = gL S n u y (gF S n u L y f) (L - (f + 1)) o fl a hf l B j := by
      intro j
      induction j with
      | zero => rfl
      | succ j jh =>
        simp only [gL, jh, gT]
        split
        · refine gF_ext (by omega) (fun i hi => ?_)
          by_cases q : i = L - (f + 1)
          · rw [q, pk_us, pk_us]
          · rw [pk_un q, pk_un q]
            exact h i (by omega)
        · rfl
    exact key L
theorem hourIn {t : Nat} (h : t ≤ 100000) : vp_in (m_hour (nI t)) 12 := by
  unfold m_hour
  by_cases e : 720 ≤ nI t
  · rw [if_pos e]
    unfold vp_in
    decide
  · rw [if_neg e]
    have h1 : t < 720 := by
      rcases Nat.lt_or_ge t 720 with z | z
      · exact z
      · exact absurd (nI_le (a := 720) z (by omega)) e
    rw [vp_in_iff, Int32.toInt_div_of_ne_right _ _ (by decide), nI_toInt (by omega)]
    have : ((60 : Int32)).toInt = 60 := by decide
    rw [this, Int.tdiv_eq_ediv_of_nonneg (by omega)]
    omega
theorem k_mB2 {S T : MS} {p f l y : Int32} {t d n u L : Nat} (hH : gH S n u L y) (h1 : T.1 28 = S.1 28 ∧ T.1 33 = S.1 33) (h2 : lo S T) (hp : vp_in p 12) (ht : t ≤ 100000) : CM Y_X12_mayBegin (d + 3) [.int y, .int p, .int (nI t), .int f, .int l] T (fun r S2 => r = some (.int (mBi S n u y p (nI t) f l)) ∧ pR T S2) := by
  obtain ⟨⟨a1, a2⟩, ⟨a3, a4⟩, a5, ⟨a6, a7⟩, a8, a9, a10⟩ := hH
  have z := k_mayBegin (S := T) (y := y) (p := p) (t := nI t) (f := f) (l := l) (d := d) (h1.1.trans a1) a2 (h1.2.trans a3) a4 (a5.lo h2) hp a8 (hourIn ht)
  rw [mBi_lo h2] at z
  exact z
theorem gA_1 {L : Nat} {B : GB} {o : Nat → Int32} {e v : Int32} (hv : v = if B.1 < 0 then 1 else if e < B.2.1 then 1 else 0) (h : ¬ v = 0) : v = 0 ↔ ¬ gC L B o e := by
  refine ⟨fun z => absurd z h, fun z => ?_⟩
  exfalso
  rw [hv] at h
  by_cases e1 : B.1 < 0
  · exact z (Or.inl e1)
  · by_cases e2 : e < B.2.1
    · exact z (Or.inr (Or.inl e2))
    · rw [if_neg e1, if_neg e2] at h
      exact h rfl
theorem gA_0 {B : GB} {e v : Int32} (hv : v = if B.1 < 0 then 1 else if e < B.2.1 then 1 else 0) (h : v = 0) : ¬ B.1 < 0 ∧ ¬ e < B.2.1 := by
  rw [hv] at h
  by_cases e1 : B.1 < 0
  · rw [if_pos e1] at h
    exact absurd h (by decide)
  · by_cases e2 : e < B.2.1
    · rw [if_neg e1, if_pos e2] at h
      exact absurd h (by decide)
    · exact ⟨e1, e2⟩
theorem gA_b {L : Nat} {B : GB} {o : Nat → Int32} {e v : Int32} (hv : v = if B.1 < 0 then 1 else if e < B.2.1 then 1 else 0) (h : v = 0) (hn : ¬ e = B.2.1) : v = 0 ↔ ¬ gC L B o e := by
  obtain ⟨e1, e2⟩ := gA_0 hv h
  refine ⟨fun _ => ?_, fun _ => h⟩
  rintro (z | z | z)
  · exact e1 z
  · exact e2 z
  · exact hn z.1
theorem gA_c {L : Nat} {B : GB} {o : Nat → Int32} {e v : Int32} (hv : v = if B.1 < 0 then 1 else if e < B.2.1 then 1 else 0) (h : v = 0) (hq : ∀ i, i < L → o i = B.2.2 i) : (0 : Int32) = 0 ↔ ¬ gC L B o e := by
  obtain ⟨e1, e2⟩ := gA_0 hv h
  refine ⟨fun _ => ?_, fun _ => rfl⟩
  rintro (z | z | ⟨z, j, q1, q2, q3⟩)
  · exact e1 z
  · exact e2 z
  · rw [hq j q1] at q3
    exact absurd q3 (i32irr _)
theorem gA_d {L j : Nat} {B : GB} {o : Nat → Int32} {e v : Int32} (hv : v = if B.1 < 0 then 1 else if e < B.2.1 then 1 else 0) (h : v = 0) (hj : j < L) (hq : ∀ i, i < j → o i = B.2.2 i) (hn : ¬ o j = B.2.2 j) (hle : B.2.2 j ≤ o j) : (0 : Int32) = 0 ↔ ¬ gC L B o e := by
  obtain ⟨e1, e2⟩ := gA_0 hv h
  refine ⟨fun _ => ?_, fun _ => rfl⟩
  rintro (z | z | ⟨z, i, q1, q2, q3⟩)
  · exact e1 z
  · exact e2 z
  · rcases Nat.lt_trichotomy i j with y | y | y
    · rw [hq i y] at q3
      exact absurd q3 (i32irr _)
    · rw [y] at q3
      exact absurd q3 (Int32.not_lt.mpr hle)
    · exact hn (q2 j y)
theorem gA_e {L j : Nat} {B : GB} {o : Nat → Int32} {e : Int32} (he : e = B.2.1) (hj : j < L) (hq : ∀ i, i < j → o i = B.2.2 i) (hl : o j < B.2.2 j) : (1 : Int32) = 0 ↔ ¬ gC L B o e :=
  ⟨fun z => absurd z (by decide), fun z => absurd (Or.inr (Or.inr ⟨he, j, hj, hq, hl⟩)) z⟩
theorem gLeaf_t {L : Nat} {B : GB} {o : Nat → Int32} {e : Int32} (h : gC L B o e) : gLeaf L B o e = (nI L, e, cpy o B.2.2 L) := by
  unfold gLeaf
  exact @if_pos _ (Classical.propDecidable _) h _ _ _
theorem gLeaf_f {L : Nat} {B : GB} {o : Nat → Int32} {e : Int32} (h : ¬ gC L B o e) : gLeaf L B o e = B := by
  unfold gLeaf
  exact @if_neg _ (Classical.propDecidable _) h _ _ _
def ur (f : Nat → Nat → Int32) (k : Nat) (g : Nat → Int32) : Nat → Nat → Int32 := fun j => if j = k then g else f j
theorem ur_n {f : Nat → Nat → Int32} {k j : Nat} {g : Nat → Int32} (h : j ≠ k) : ur f k g j = f j := if_neg h
theorem ur_s {f : Nat → Nat → Int32} {k : Nat} {g : Nat → Int32} : ur f k g k = g := if_pos rfl
theorem cpy_s {f : Nat → Nat → Int32} {o b : Nat → Int32} {k : Nat} : u2 (ur f 53 (cpy o b k)) 53 k (o k) = ur f 53 (cpy o b (k + 1)) := by
  funext j
  by_cases e : j = 53
  · subst e
    rw [u2_s, ur_s, ur_s]
    funext i
    by_cases q : i = k
    · subst q
      rw [pk_us, cpy, if_pos (by omega)]
    · rw [pk_un q, cpy, cpy]
      by_cases q2 : i < k
      · rw [if_pos q2, if_pos (by omega)]
      · rw [if_neg q2, if_neg (by omega)]
  · rw [u2_n e, ur_n e, ur_n e]
theorem cpy_0 {f : Nat → Nat → Int32} {o : Nat → Int32} : ur f 53 (cpy o (f 53) 0) = f := by
  funext j
  by_cases e : j = 53
  · subst e
    rw [ur_s]
    funext i
    rw [cpy, if_neg (by omega)]
  · rw [ur_n e]
