/-! packing: what both searches find -/
def mnL (rc : (Nat → Int32) → Nat) (ft : Nat → Prop) [DecidablePred ft] (g : Nat → Int32) (a : Nat) : Nat → Nat
  | 0 => 1000
  | v + 1 => if ft v then min (mnL rc ft g a v) (rc (upd g a (nI v))) else mnL rc ft g a v
def mnF (W M A : Nat → Int32) (pm : Nat) (lift : Int32) : Nat → (Nat → Int32) → Nat → Nat
  | 0, _, u => u
  | f + 1, g, u => min (mnL (fun g2 => mnF W M A pm lift f g2 u) (fun v => ¬ fitS W M A g (pm - (f + 1)) (nI v) lift = 0) g (pm - (f + 1)) u) (if ¬ fitS W M A g (pm - (f + 1)) (nI u) lift = 0 then mnF W M A pm lift f (upd g (pm - (f + 1)) (nI u)) (u + 1) else 1000)
def can (g : Nat → Int32) (a u : Nat) : Prop := u ≤ a ∧ (∀ i, i < a → ∃ v, v < u ∧ g i = nI v) ∧ ∀ v, v < u → ∃ i, i < a ∧ g i = nI v
theorem minle {a b n : Nat} : min a b ≤ n ↔ a ≤ n ∨ b ≤ n := by omega
theorem pAl_0 {g : Nat → Int32} {n : Int32} : ∀ {a : Nat}, pAl g n a = 0 ↔ ∃ i, i < a ∧ g i = n
  | 0 => by simp [pAl]
  | a + 1 => by
    have ih := pAl_0 (g := g) (n := n) (a := a)
    by_cases e : g a = n
    · simp only [pAl, e, if_true, true_iff]
      exact ⟨a, by omega, e⟩
    · simp only [pAl, e, if_false, ih]
      constructor
      · rintro ⟨i, h1, h2⟩
        exact ⟨i, by omega, h2⟩
      · rintro ⟨i, h1, h2⟩
        refine ⟨i, ?_, h2⟩
        rcases Nat.lt_or_ge i a with z | z
        · exact z
        · exact absurd (by rw [show a = i from by omega]; exact h2) e
theorem pH_un {X g : Nat → Int32} {n x : Int32} : ∀ {a : Nat}, (∀ i, i < a → ¬ g i = n) → pH X g n x a = x
  | 0, _ => rfl
  | a + 1, h => by
    simp only [pH, h a (by omega), if_false]
    exact pH_un (fun i hi => h i (by omega))
theorem pFt_un {A g : Nat → Int32} {n : Int32} : ∀ {a : Nat}, (∀ i, i < a → ¬ g i = n) → pFt A g n a = 1
  | 0, _ => rfl
  | a + 1, h => by
    simp only [pFt, h a (by omega), if_false]
    exact pFt_un (fun i hi => h i (by omega))
theorem pAl_un {g : Nat → Int32} {n : Int32} {a : Nat} (h : ∀ i, i < a → ¬ g i = n) : ¬ pAl g n a = 0 := by
  rw [pAl_0]
  rintro ⟨i, h1, h2⟩
  exact h i h1 h2
theorem fitS_un {W M A g : Nat → Int32} {n lift : Int32} {a : Nat} (h : ∀ i, i < a → ¬ g i = n) (h1 : ¬ lift < W a) (h2 : ¬ 9 < M a) : ¬ fitS W M A g a n lift = 0 := by
  rw [fitS, pH_un h, pH_un h, pFt_un h, fitI, if_neg (by decide), if_neg (pAl_un h), if_neg h1, if_neg h2]
  decide
theorem can_un {g : Nat → Int32} {a u : Nat} (h : can g a u) (ha : a < 1000) : ∀ i, i < a → ¬ g i = nI u := by
  intro i hi e
  obtain ⟨v, h1, h2⟩ := h.2.1 i hi
  rw [e] at h2
  have := (nI_eq (by have := h.1; omega) (by have := h.1; omega)).mp h2
  omega
theorem can_old {g : Nat → Int32} {a u v : Nat} (h : can g a u) (hv : v < u) : can (upd g a (nI v)) (a + 1) u := by
  obtain ⟨h0, h1, h2⟩ := h
  refine ⟨by omega, fun i hi => ?_, fun w hw => ?_⟩
  · by_cases e : i = a
    · exact ⟨v, hv, by rw [e, pk_us]⟩
    · rw [pk_un e]
      exact h1 i (by omega)
  · obtain ⟨i, q1, q2⟩ := h2 w hw
    exact ⟨i, by omega, by rw [pk_un (by omega)]; exact q2⟩
theorem can_new {g : Nat → Int32} {a u : Nat} (h : can g a u) : can (upd g a (nI u)) (a + 1) (u + 1) := by
  obtain ⟨h0, h1, h2⟩ := h
  refine ⟨by omega, fun i hi => ?_, fun w hw => ?_⟩
  · by_cases e : i = a
    · exact ⟨u, by omega, by rw [e, pk_us]⟩
    · rw [pk_un e]
      obtain ⟨v, q1, q2⟩ := h1 i (by omega)
      exact ⟨v, by omega, q2⟩
  · by_cases e : w = u
    · exact ⟨a, by omega, by rw [pk_us, e]⟩
    · obtain ⟨i, q1, q2⟩ := h2 w (by omega)
      exact ⟨i, by omega, by rw [pk_un (by omega)]; exact q2⟩
theorem mnL_le {rc : (Nat → Int32) → Nat} {ft : Nat → Prop} [DecidablePred ft] {g : Nat → Int32} {a N : Nat} (hN : N < 1000) : ∀ u, mnL rc ft g a u ≤ N ↔ ∃ v, v < u ∧ ft v ∧ rc (upd g a (nI v)) ≤ N
  | 0 => by
    simp only [mnL]
    constructor
    · intro h; omega
    · rintro ⟨v, h, -⟩; omega
  | u + 1 => by
    have ih := mnL_le (rc := rc) (ft := ft) (g := g) (a := a) hN u
    by_cases e : ft u
    · simp only [mnL, e, if_true, minle, ih]
      constructor
      · rintro (⟨v, h1, h2⟩ | h)
        · exact ⟨v, by omega, h2⟩
        · exact ⟨u, by omega, e, h⟩
      · rintro ⟨v, h1, h2, h3⟩
        by_cases q : v = u
        · subst q; exact Or.inr h3
        · exact Or.inl ⟨v, by omega, h2, h3⟩
    · simp only [mnL, e, if_false, ih]
      constructor
      · rintro ⟨v, h1, h2⟩
        exact ⟨v, by omega, h2⟩
      · rintro ⟨v, h1, h2, h3⟩
        by_cases q : v = u
        · subst q; exact absurd h2 e
        · exact ⟨v, by omega, h2, h3⟩
theorem mnF_le {W M A : Nat → Int32} {pm : Nat} {lift : Int32} {f u N : Nat} {g : Nat → Int32} (hN : N < 1000) : mnF W M A pm lift (f + 1) g u ≤ N ↔ (∃ v, v < u ∧ ¬ fitS W M A g (pm - (f + 1)) (nI v) lift = 0 ∧ mnF W M A pm lift f (upd g (pm - (f + 1)) (nI v)) u ≤ N) ∨ (¬ fitS W M A g (pm - (f + 1)) (nI u) lift = 0 ∧ mnF W M A pm lift f (upd g (pm - (f + 1)) (nI u)) (u + 1) ≤ N) := by
  rw [mnF, minle, mnL_le hN]
  refine or_congr Iff.rfl ?_
  by_cases e : ¬ fitS W M A g (pm - (f + 1)) (nI u) lift = 0
  · rw [if_pos e]
    exact ⟨fun h => ⟨e, h⟩, fun h => h.2⟩
  · rw [if_neg e]
    exact ⟨fun h => by omega, fun h => absurd h.1 e⟩
theorem mnF_ge {W M A : Nat → Int32} {pm : Nat} {lift : Int32} : ∀ {f u : Nat} {g : Nat → Int32}, u + f < 1000 → u ≤ mnF W M A pm lift f g u
  | 0, _, _, _ => Nat.le_refl _
  | f + 1, u, g, h => by
    rcases Nat.lt_or_ge (mnF W M A pm lift (f + 1) g u) u with z | z
    · exfalso
      have h1 : mnF W M A pm lift (f + 1) g u ≤ u - 1 := by omega
      rw [mnF_le (by omega)] at h1
      rcases h1 with ⟨v, q1, q2, q3⟩ | ⟨q2, q3⟩
      · have := mnF_ge (W := W) (M := M) (A := A) (pm := pm) (lift := lift) (f := f) (u := u) (g := upd g (pm - (f + 1)) (nI v)) (by omega)
        omega
      · have := mnF_ge (W := W) (M := M) (A := A) (pm := pm) (lift := lift) (f := f) (u := u + 1) (g := upd g (pm - (f + 1)) (nI u)) (by omega)
        omega
    · exact z
theorem mnF_own {W M A : Nat → Int32} {pm : Nat} {lift : Int32} (hp : pm < 1000) (hW : ∀ i, i < pm → ¬ lift < W i ∧ ¬ 9 < M i) : ∀ {f u : Nat} {g : Nat → Int32}, f ≤ pm → can g (pm - f) u → mnF W M A pm lift f g u ≤ u + f
  | 0, _, _, _, _ => Nat.le_refl _
  | f + 1, u, g, hf, hc => by
    have hu := hc.1
    rw [mnF_le (by omega)]
    refine Or.inr ⟨fitS_un (can_un hc (by omega)) (hW _ (by omega)).1 (hW _ (by omega)).2, ?_⟩
    have c2 := can_new hc
    rw [show pm - (f + 1) + 1 = pm - f from by omega] at c2
    have := mnF_own (A := A) hp hW (f := f) (by omega) c2
    omega
theorem pkL_iff {W M A g : Nat → Int32} {a N u : Nat} {lift : Int32} {rc : (Nat → Int32) → Bool} (ha : a < 1000) (hc : can g a u) (hu : u ≤ N) : ∀ j n, n ≤ u → n + j = N → (pkL W M A g a lift rc j n = true ↔ (∃ v, n ≤ v ∧ v < u ∧ ¬ fitS W M A g a (nI v) lift = 0 ∧ rc (upd g a (nI v)) = true) ∨ (u < N ∧ ¬ fitS W M A g a (nI u) lift = 0 ∧ rc (upd g a (nI u)) = true))
  | 0, n, h1, h2 => by
    simp only [pkL]
    constructor
    · intro h; cases h
    · rintro (⟨v, q1, q2, -⟩ | ⟨q, -⟩) <;> omega
  | j + 1, n, h1, h2 => by
    rcases Nat.lt_or_ge n u with z | z
    · have ih := pkL_iff (W := W) (M := M) (A := A) (lift := lift) (rc := rc) ha hc hu j (n + 1) (by omega) (by omega)
      have hal : pAl g (nI n) a = 0 := pAl_0.mpr (hc.2.2 n z)
      rw [pkL]
      by_cases e : ¬ fitS W M A g a (nI n) lift = 0 ∧ rc (upd g a (nI n)) = true
      · rw [if_pos e]
        exact ⟨fun _ => Or.inl ⟨n, Nat.le_refl _, z, e.1, e.2⟩, fun _ => rfl⟩
      · rw [if_neg e, if_pos hal, ih]
        constructor
        · rintro (⟨v, q1, q2⟩ | q)
          · exact Or.inl ⟨v, by omega, q2⟩
          · exact Or.inr q
        · rintro (⟨v, q1, q2, q3⟩ | q)
          · by_cases w : v = n
            · subst w; exact absurd q3 e
            · exact Or.inl ⟨v, by omega, q2, q3⟩
          · exact Or.inr q
    · have hn : n = u := by omega
      subst hn
      have hal : ¬ pAl g (nI n) a = 0 := pAl_un (can_un hc ha)
      rw [pkL]
      by_cases e : ¬ fitS W M A g a (nI n) lift = 0 ∧ rc (upd g a (nI n)) = true
      · rw [if_pos e]
        exact ⟨fun _ => Or.inr ⟨by omega, e.1, e.2⟩, fun _ => rfl⟩
      · rw [if_neg e, if_neg hal]
        constructor
        · intro h; cases h
        · rintro (⟨v, q1, q2, -⟩ | ⟨-, q⟩)
          · omega
          · exact absurd q e
theorem pkF_mn {W M A : Nat → Int32} {pm N : Nat} {lift : Int32} (hp : pm < 900) (hN : N < 900) : ∀ {f u : Nat} {g : Nat → Int32}, f ≤ pm → can g (pm - f) u → u ≤ N → (pkF W M A pm N lift f g = true ↔ mnF W M A pm lift f g u ≤ N)
  | 0, u, g, _, _, hu => by simp only [pkF, mnF, hu]
  | f + 1, u, g, hf, hc, hu => by
    have hu2 := hc.1
    rw [pkF, pkL_iff (by omega) hc hu N 0 (by omega) (by omega), mnF_le (by omega)]
    have e1 : ∀ v, v < u → (pkF W M A pm N lift f (upd g (pm - (f + 1)) (nI v)) = true ↔ mnF W M A pm lift f (upd g (pm - (f + 1)) (nI v)) u ≤ N) := by
      intro v hv
      have c2 := can_old hc hv
      rw [show pm - (f + 1) + 1 = pm - f from by omega] at c2
      exact pkF_mn hp hN (by omega) c2 hu
    have c2 := can_new hc
    rw [show pm - (f + 1) + 1 = pm - f from by omega] at c2
    constructor
    · rintro (⟨v, q1, q2, q3, q4⟩ | ⟨q1, q2, q3⟩)
      · exact Or.inl ⟨v, q2, q3, (e1 v q2).mp q4⟩
      · exact Or.inr ⟨q2, (pkF_mn hp hN (by omega) c2 (by omega)).mp q3⟩
    · rintro (⟨v, q1, q2, q3⟩ | ⟨q1, q2⟩)
      · exact Or.inl ⟨v, by omega, q1, q2, (e1 v q1).mpr q3⟩
      · have h3 := mnF_ge (W := W) (M := M) (A := A) (pm := pm) (lift := lift) (f := f) (u := u + 1) (g := upd g (pm - (f + 1)) (nI u)) (by omega)
        exact Or.inr ⟨by omega, q1, (pkF_mn hp hN (by omega) c2 (by omega)).mpr q2⟩
theorem can_0 {g : Nat → Int32} : can g 0 0 := ⟨Nat.le_refl _, fun i h => absurd h (Nat.not_lt_zero _), fun i h => absurd h (Nat.not_lt_zero _)⟩
theorem pH_X {X Y g : Nat → Int32} {n x : Int32} : ∀ {a : Nat}, (∀ i, i < a → X i = Y i) → pH X g n x a = pH Y g n x a
  | 0, _ => rfl
  | a + 1, h => by
    have ih := pH_X (g := g) (n := n) (x := x) (a := a) (fun i hi => h i (by omega))
    simp only [pH, ih, h a (by omega)]
theorem pFt_X {X Y g : Nat → Int32} {n : Int32} : ∀ {a : Nat}, (∀ i, i < a → X i = Y i) → pFt X g n a = pFt Y g n a
  | 0, _ => rfl
  | a + 1, h => by
    have ih := pFt_X (g := g) (n := n) (a := a) (fun i hi => h i (by omega))
    simp only [pFt, ih, h a (by omega)]
theorem fitS_X {W M A W2 M2 A2 g : Nat → Int32} {a : Nat} {n lift : Int32} (h : ∀ i, i < a + 1 → W i = W2 i ∧ M i = M2 i ∧ A i = A2 i) : fitS W M A g a n lift = fitS W2 M2 A2 g a n lift := by
  simp only [fitS, (h a (by omega)).1, (h a (by omega)).2.1, (h a (by omega)).2.2, pH_X (fun i hi => (h i (Nat.lt_succ_of_lt hi)).1), pH_X (X := M) (fun i hi => (h i (Nat.lt_succ_of_lt hi)).2.1), pFt_X (fun i hi => (h i (Nat.lt_succ_of_lt hi)).2.2)]
theorem mnL_X {rc rc2 : (Nat → Int32) → Nat} {ft ft2 : Nat → Prop} [DecidablePred ft] [DecidablePred ft2] {g g2 : Nat → Int32} {a : Nat} (h1 : ∀ v, ft v ↔ ft2 v) (h2 : ∀ v, rc (upd g a (nI v)) = rc2 (upd g2 a (nI v))) : ∀ u, mnL rc ft g a u = mnL rc2 ft2 g2 a u
  | 0 => rfl
  | u + 1 => by simp only [mnL, h1, h2, mnL_X h1 h2 u]
theorem mnF_X {W M A W2 M2 A2 : Nat → Int32} {pm : Nat} {lift : Int32} (h : ∀ i, i < pm → W i = W2 i ∧ M i = M2 i ∧ A i = A2 i) : ∀ {f u : Nat} {g g2 : Nat → Int32}, f ≤ pm → (∀ i, i < pm - f → g i = g2 i) → mnF W M A pm lift f g u = mnF W2 M2 A2 pm lift f g2 u
  | 0, _, _, _, _, _ => rfl
  | f + 1, u, g, g2, hf, hg => by
    have e1 : ∀ v, fitS W M A g (pm - (f + 1)) (nI v) lift = fitS W2 M2 A2 g2 (pm - (f + 1)) (nI v) lift := fun v => (fitS_X (fun i hi => h i (by omega))).trans (fitS_ext hg)
    have e2 : ∀ (v : Int32) (i : Nat), i < pm - f → upd g (pm - (f + 1)) v i = upd g2 (pm - (f + 1)) v i := by
      intro v i hi
      by_cases e : i = pm - (f + 1)
      · rw [e, pk_us, pk_us]
      · rw [pk_un e, pk_un e]
        exact hg i (by omega)
    have e3 : ∀ (v : Int32) (u : Nat), mnF W M A pm lift f (upd g (pm - (f + 1)) v) u = mnF W2 M2 A2 pm lift f (upd g2 (pm - (f + 1)) v) u := fun v u => mnF_X h (by omega) (e2 v)
    rw [mnF, mnF, mnL_X (ft2 := fun v => ¬ fitS W2 M2 A2 g2 (pm - (f + 1)) (nI v) lift = 0) (rc2 := fun g2 => mnF W2 M2 A2 pm lift f g2 u) (g2 := g2) (fun v => by rw [e1]) (fun v => e3 _ u) u, e1, e3]
