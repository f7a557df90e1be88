/-! ===== orders: what both searches look for ===== -/
section OS
variable (hold : Nat → Nat → Nat → Prop) (mi : Nat → Nat) (rr : Nat)
/-- the first minute from a on at which the rules hold -/
def Fs0 (p a hf t : Nat) : Prop := a ≤ t ∧ hold t p hf ∧ ∀ t', a ≤ t' → t' < t → ¬ hold t' p hf
def Fst (p a hf t : Nat) : Prop := Fs0 hold p a hf t ∧ t + mi p ≤ 720
/-- places one after the other, from minute a on, with hf minutes flown; e0 the end of what was ahead; e the end of all -/
def SC : List Nat → Nat → Nat → Nat → Nat → Prop
  | [], _, _, e0, e => e = e0
  | p :: σ, a, hf, _, e => ∃ t, Fst hold mi p a hf t ∧ SC σ (t + mi p + rr) (hf + mi p) (t + mi p) e
def totL (mi : Nat → Nat) (rr : Nat) : List Nat → Nat
  | [] => 0
  | p :: σ => totL mi rr σ + (rr + mi p)
end OS
def lexL : List Nat → List Nat → Prop
  | p :: τ, q :: σ => p < q ∨ (p = q ∧ lexL τ σ)
  | _, _ => False
theorem lexL_irr : ∀ σ : List Nat, ¬ lexL σ σ
  | [] => fun z => z
  | p :: σ => fun z => z.elim (fun y => absurd y (Nat.lt_irrefl _)) (fun y => lexL_irr σ y.2)
theorem lexL_tot : ∀ {τ σ : List Nat}, τ.length = σ.length → ¬ lexL τ σ → ¬ lexL σ τ → τ = σ
  | [], [], _, _, _ => rfl
  | p :: τ, q :: σ, h, h1, h2 => by
    have e : p = q := by
      rcases Nat.lt_trichotomy p q with z | z | z
      · exact absurd (Or.inl z) h1
      · exact z
      · exact absurd (Or.inl z) h2
    subst e
    rw [lexL_tot (τ := τ) (σ := σ) (by simpa using h) (fun z => h1 (Or.inr ⟨rfl, z⟩)) (fun z => h2 (Or.inr ⟨rfl, z⟩))]
section OT
variable {hold : Nat → Nat → Nat → Prop} {mi : Nat → Nat} {rr : Nat}
theorem Fs0.un {p a hf t t2 : Nat} (h : Fs0 hold p a hf t) (h2 : Fs0 hold p a hf t2) : t = t2 := by
  rcases Nat.lt_trichotomy t t2 with z | z | z
  · exact absurd h.2.1 (h2.2.2 t h.1 z)
  · exact z
  · exact absurd h2.2.1 (h.2.2 t2 h2.1 z)
theorem totL_perm {l1 l2 : List Nat} (h : l1.Perm l2) : totL mi rr l1 = totL mi rr l2 := by
  induction h with
  | nil => rfl
  | cons x _ ih => rw [totL, totL, ih]
  | swap x y l => rw [totL, totL, totL, totL]; omega
  | trans _ _ i1 i2 => rw [i1, i2]
/-- no order ends ahead of the minutes that are needed anyway -/
theorem SC.lb : ∀ {σ : List Nat} {hf e0 e : Nat}, SC hold mi rr σ (e0 + rr) hf e0 e → e0 + totL mi rr σ ≤ e
  | [], hf, e0, e, h => by
    have : e = e0 := h
    rw [totL]; omega
  | p :: σ, hf, e0, e, h => by
    obtain ⟨t, ⟨⟨h1, -⟩, -⟩, h2⟩ := h
    have := SC.lb h2
    rw [totL]
    omega
theorem SC.e0 {σ : List Nat} {a hf e0 e1 e : Nat} (hs : ¬ σ = []) (h : SC hold mi rr σ a hf e0 e) : SC hold mi rr σ a hf e1 e := by
  cases σ with
  | nil => exact absurd rfl hs
  | cons p σ => exact h
theorem SC.le {σ : List Nat} {a hf e0 e : Nat} (hs : ¬ σ = []) (h : SC hold mi rr σ a hf e0 e) : e ≤ 720 := by
  have key : ∀ {σ : List Nat} {a hf e0 e : Nat}, e0 ≤ 720 → SC hold mi rr σ a hf e0 e → e ≤ 720 := by
    intro σ
    induction σ with
    | nil => intro a hf e0 e he h; have : e = e0 := h; omega
    | cons p σ ih =>
      intro a hf e0 e he h
      obtain ⟨t, ⟨-, h1⟩, h2⟩ := h
      exact ih h1 h2
  cases σ with
  | nil => exact absurd rfl hs
  | cons p σ =>
    obtain ⟨t, ⟨-, h1⟩, h2⟩ := h
    exact key h1 h2
end OT
/-- what is left of n places -/
def rem (pl : Nat → Nat) (tk : Nat → Int32) (n : Nat) : List Nat := ((List.range n).filter (fun i => decide (tk i = 0))).map pl
theorem rem_s {pl : Nat → Nat} {tk : Nat → Int32} {n : Nat} : rem pl tk (n + 1) = if tk n = 0 then rem pl tk n ++ [pl n] else rem pl tk n := by
  rw [rem, List.range_succ, List.filter_append, List.map_append]
  by_cases h : tk n = 0
  · rw [if_pos h, List.filter_cons_of_pos (by exact decide_eq_true h)]
    rfl
  · rw [if_neg h, List.filter_cons_of_neg (by exact fun z => h (of_decide_eq_true z))]
    simp [rem]
theorem rem_mem {pl : Nat → Nat} {tk : Nat → Int32} {n p : Nat} : p ∈ rem pl tk n ↔ ∃ i, i < n ∧ tk i = 0 ∧ pl i = p := by
  rw [rem, List.mem_map]
  constructor
  · rintro ⟨i, hi, e⟩
    rw [List.mem_filter, List.mem_range, decide_eq_true_iff] at hi
    exact ⟨i, hi.1, hi.2, e⟩
  · rintro ⟨i, h1, h2, h3⟩
    exact ⟨i, by rw [List.mem_filter, List.mem_range, decide_eq_true_iff]; exact ⟨h1, h2⟩, h3⟩
theorem rem_un {pl : Nat → Nat} {tk : Nat → Int32} {i : Nat} {x : Int32} : ∀ {n : Nat}, n ≤ i → rem pl (upd tk i x) n = rem pl tk n
  | 0, _ => rfl
  | n + 1, h => by rw [rem_s, rem_s, rem_un (n := n) (by omega), pk_un (by omega)]
theorem rem_take {pl : Nat → Nat} {tk : Nat → Int32} {i : Nat} (hi : tk i = 0) : ∀ {n : Nat}, i < n → (rem pl tk n).Perm (pl i :: rem pl (upd tk i 1) n)
  | 0, h => absurd h (Nat.not_lt_zero _)
  | n + 1, h => by
    rw [rem_s, rem_s]
    by_cases q : i = n
    · subst q
      rw [if_pos hi, pk_us, if_neg (show ¬ (1 : Int32) = 0 by decide), rem_un (Nat.le_refl _)]
      exact List.perm_append_singleton _ _
    · have ih := rem_take (pl := pl) hi (n := n) (by omega)
      rw [pk_un (show n ≠ i by omega)]
      by_cases hn : tk n = 0
      · rw [if_pos hn, if_pos hn]
        exact ih.append_right _
      · rw [if_neg hn, if_neg hn]
        exact ih
theorem rem_len {pl : Nat → Nat} {tk : Nat → Int32} {i n : Nat} (hi : tk i = 0) (h : i < n) : (rem pl tk n).length = (rem pl (upd tk i 1) n).length + 1 := by
  rw [(rem_take hi h).length_eq, List.length_cons]
/-- the places of an order, written behind each other from place k on -/
def ap (o : Nat → Int32) (k : Nat) : List Nat → Nat → Int32
  | [] => o
  | p :: σ => ap (upd o k (nI p)) (k + 1) σ
theorem ap_lt : ∀ {σ : List Nat} {o : Nat → Int32} {k i : Nat}, i < k → ap o k σ i = o i
  | [], _, _, _, _ => rfl
  | p :: σ, o, k, i, h => by rw [ap, ap_lt (σ := σ) (by omega), pk_un (by omega)]
theorem ap_0 : ∀ {σ : List Nat} {o : Nat → Int32} {k i : Nat}, i < σ.length → ap o k σ (k + i) = nI (σ.getD i 0)
  | p :: σ, o, k, 0, _ => by
    rw [ap]
    show ap (upd o k (nI p)) (k + 1) σ k = _
    rw [ap_lt (show k < k + 1 by omega), pk_us]
    rfl
  | p :: σ, o, k, i + 1, h => by
    rw [ap, show k + (i + 1) = (k + 1) + i by omega, ap_0 (σ := σ) (by simpa using h)]
    rfl
theorem lex_L : ∀ {τ σ : List Nat} {o o2 : Nat → Int32} {k : Nat}, τ.length = σ.length → (∀ p ∈ τ, p < 1000) → (∀ p ∈ σ, p < 1000) → (∀ i, i < k → o i = o2 i) → lexL τ σ → lexLt (ap o k τ) (ap o2 k σ) (k + τ.length)
  | [], _, _, _, _, _, _, _, _, h => False.elim h
  | p :: τ, q :: σ, o, o2, k, hl, h1, h2, ho, h => by
    have hp := h1 p List.mem_cons_self
    have hq := h2 q List.mem_cons_self
    rcases h with h | ⟨rfl, h⟩
    · refine ⟨k, by rw [List.length_cons]; omega, fun i hi => ?_, ?_⟩
      · rw [ap_lt hi, ap_lt hi]; exact ho i hi
      · have e1 := ap_0 (σ := p :: τ) (o := o) (k := k) (i := 0) (by simp)
        have e2 := ap_0 (σ := q :: σ) (o := o2) (k := k) (i := 0) (by simp)
        rw [Nat.add_zero] at e1 e2
        rw [e1, e2]
        exact (nI_ltI (by simpa using (by omega : p < 2 ^ 31)) (by simpa using (by omega : q < 2 ^ 31))).mpr h
    · rw [ap, ap, List.length_cons, show k + (τ.length + 1) = (k + 1) + τ.length by omega]
      refine lex_L (by simpa using hl) (fun x hx => h1 x (List.mem_cons_of_mem _ hx)) (fun x hx => h2 x (List.mem_cons_of_mem _ hx)) (fun i hi => ?_) h
      by_cases e : i = k
      · rw [e, pk_us, pk_us]
      · rw [pk_un e, pk_un e]; exact ho i (by omega)
theorem lexLt_congr {o o2 b b2 : Nat → Int32} {L : Nat} (h1 : ∀ i, i < L → o i = o2 i) (h2 : ∀ i, i < L → b i = b2 i) (h : lexLt o b L) : lexLt o2 b2 L := by
  obtain ⟨j, hj, a, c⟩ := h
  exact ⟨j, hj, fun i hi => by rw [← h1 i (by omega), ← h2 i (by omega)]; exact a i hi, by rw [← h1 j hj, ← h2 j hj]; exact c⟩
theorem lexLt_trans {a b c : Nat → Int32} {L : Nat} (h1 : lexLt a b L) (h2 : lexLt b c L) : lexLt a c L := by
  obtain ⟨i, hi, i1, i2⟩ := h1
  obtain ⟨j, hj, j1, j2⟩ := h2
  rcases Nat.lt_trichotomy i j with z | z | z
  · exact ⟨i, hi, fun k hk => (i1 k hk).trans (j1 k (by omega)), by rw [← j1 i z]; exact i2⟩
  · subst z
    exact ⟨i, hi, fun k hk => (i1 k hk).trans (j1 k hk), Int32.lt_trans i2 j2⟩
  · exact ⟨j, hj, fun k hk => (i1 k (by omega)).trans (j1 k hk), by rw [i1 j z]; exact j2⟩
theorem lexLt_irr {a b : Nat → Int32} {L : Nat} (h : ∀ i, i < L → a i = b i) : ¬ lexLt a b L := by
  rintro ⟨j, hj, -, c⟩
  rw [h j hj] at c
  exact i32irr _ c
