/-! ===== what a flight does, row by row ===== -/
theorem mem_take1 {l : List Nat} {k x : Nat} (hk : k < l.length) : x ∈ l.take (k + 1) ↔ x ∈ l.take k ∨ x = l.getD k 0 := by
  rw [List.take_succ, List.mem_append, List.getElem?_eq_getElem hk, List.getD_eq_getElem?_getD, List.getElem?_eq_getElem hk]
  simp
theorem take1 {l : List Nat} {k : Nat} (hk : k < l.length) : l.take (k + 1) = l.take k ++ [l.getD k 0] := by
  rw [List.take_succ, List.getElem?_eq_getElem hk, List.getD_eq_getElem?_getD, List.getElem?_eq_getElem hk]
  rfl
theorem gsN_1 {S : MS} {q a : Int32} {l : List Nat} : ∀ k, (gsN S q a l k).1.1 = S.1
  | 0 => rfl
  | k + 1 => gsN_1 (S := S) (q := q) (a := a) (l := l) k
theorem gsN_r {S : MS} {q a : Int32} {l : List Nat} {j : Nat} (hj : j ≠ 27) : ∀ k, (gsN S q a l k).1.2 j = S.2 j
  | 0 => rfl
  | k + 1 => (u2_n hj).trans (gsN_r hj k)
theorem gsN_27 {S : MS} {q a : Int32} {l : List Nat} : ∀ k, k ≤ l.length → ∀ x, (gsN S q a l k).1.2 27 x = if x ∈ l.take k then q * S.2 18 x / a else S.2 27 x
  | 0, _, x => by simp [gsN]
  | k + 1, hk, x => by
    have ih := gsN_27 (S := S) (q := q) (a := a) (l := l) k (by omega) x
    show u2 (gsN S q a l k).1.2 27 (l.getD k 0) (q * (gsN S q a l k).1.2 18 (l.getD k 0) / a) 27 x = _
    rw [u2_s, gsN_r (j := 18) (by decide)]
    by_cases e : x = l.getD k 0
    · rw [← e, pk_us, if_pos ((mem_take1 (by omega)).mpr (Or.inr e))]
    · rw [pk_un e, ih]
      by_cases m : x ∈ l.take k
      · rw [if_pos m, if_pos ((mem_take1 (by omega)).mpr (Or.inl m))]
      · rw [if_neg m, if_neg (fun z => ((mem_take1 (by omega)).mp z).elim m e)]
theorem gsN_s {S : MS} {q a : Int32} {l : List Nat} : ∀ k, k ≤ l.length → (gsN S q a l k).2 = lsum (fun x => q * S.2 18 x / a) (l.take k)
  | 0, _ => rfl
  | k + 1, hk => by
    rw [gsN, gsN_s k (by omega), gsN_r (by decide), take1 (by omega), lsum_s]
theorem gsN_27l {S : MS} {q a : Int32} {l : List Nat} (x : Nat) : (gsN S q a l l.length).1.2 27 x = if x ∈ l then q * S.2 18 x / a else S.2 27 x := by
  rw [gsN_27 _ (Nat.le_refl _), List.take_length]
theorem gsN_sl {S : MS} {q a : Int32} {l : List Nat} : (gsN S q a l l.length).2 = lsum (fun x => q * S.2 18 x / a) l := by
  rw [gsN_s _ (Nat.le_refl _), List.take_length]
theorem tkN_1 {S X : MS} {l : List Nat} {f t : Int32} : ∀ k, (tkN S X l f t k).1.1 = S.1
  | 0 => rfl
  | k + 1 => tkN_1 (S := S) (X := X) (l := l) (f := f) (t := t) k
theorem tkN_r {S X : MS} {l : List Nat} {f t : Int32} {j : Nat} (h1 : j ≠ 23) (h2 : j ≠ 24) (h3 : j ≠ 25) : ∀ k, (tkN S X l f t k).1.2 j = S.2 j
  | 0 => rfl
  | k + 1 => by
    show u2 (u2 (u2 (tkN S X l f t k).1.2 23 _ 2) 24 _ (-1)) 25 _ f j = _
    rw [u2_n h3, u2_n h2, u2_n h1]
    exact tkN_r h1 h2 h3 k
theorem tkN_x {S X : MS} {l : List Nat} {f t : Int32} : ∀ k, k ≤ l.length → ∀ x, (tkN S X l f t k).1.2 23 x = (if x ∈ l.take k then 2 else S.2 23 x) ∧ (tkN S X l f t k).1.2 24 x = (if x ∈ l.take k then -1 else S.2 24 x) ∧ (tkN S X l f t k).1.2 25 x = (if x ∈ l.take k then f else S.2 25 x) ∧ (tkN S X l f t k).2.2 0 x = (if x ∈ l.take k then t else X.2 0 x)
  | 0, _, x => by simp [tkN]
  | k + 1, hk, x => by
    obtain ⟨i1, i2, i3, i4⟩ := tkN_x (S := S) (X := X) (l := l) (f := f) (t := t) k (by omega) x
    have e23 : (tkN S X l f t (k + 1)).1.2 23 = upd ((tkN S X l f t k).1.2 23) (l.getD k 0) 2 := rfl
    have e24 : (tkN S X l f t (k + 1)).1.2 24 = upd ((tkN S X l f t k).1.2 24) (l.getD k 0) (-1) := rfl
    have e25 : (tkN S X l f t (k + 1)).1.2 25 = upd ((tkN S X l f t k).1.2 25) (l.getD k 0) f := rfl
    have e0 : (tkN S X l f t (k + 1)).2.2 0 = upd ((tkN S X l f t k).2.2 0) (l.getD k 0) t := rfl
    rw [e23, e24, e25, e0]
    by_cases e : x = l.getD k 0
    · have hm : x ∈ l.take (k + 1) := (mem_take1 (by omega)).mpr (Or.inr e)
      rw [if_pos hm, if_pos hm, if_pos hm, if_pos hm, ← e, pk_us, pk_us, pk_us, pk_us]
      exact ⟨rfl, rfl, rfl, rfl⟩
    · rw [pk_un e, pk_un e, pk_un e, pk_un e, i1, i2, i3, i4]
      by_cases m : x ∈ l.take k
      · have hm : x ∈ l.take (k + 1) := (mem_take1 (by omega)).mpr (Or.inl m)
        rw [if_pos m, if_pos m, if_pos m, if_pos m, if_pos hm, if_pos hm, if_pos hm, if_pos hm]
        exact ⟨rfl, rfl, rfl, rfl⟩
      · have hm : ¬ x ∈ l.take (k + 1) := fun z => ((mem_take1 (by omega)).mp z).elim m e
        rw [if_neg m, if_neg m, if_neg m, if_neg m, if_neg hm, if_neg hm, if_neg hm, if_neg hm]
        exact ⟨rfl, rfl, rfl, rfl⟩
theorem tkN_l {S X : MS} {l : List Nat} {f t : Int32} (x : Nat) : (tkN S X l f t l.length).1.2 23 x = (if x ∈ l then 2 else S.2 23 x) ∧ (tkN S X l f t l.length).1.2 24 x = (if x ∈ l then -1 else S.2 24 x) ∧ (tkN S X l f t l.length).1.2 25 x = (if x ∈ l then f else S.2 25 x) ∧ (tkN S X l f t l.length).2.2 0 x = (if x ∈ l then t else X.2 0 x) := by
  have := tkN_x (S := S) (X := X) (l := l) (f := f) (t := t) l.length (Nat.le_refl _) x
  rw [List.take_length] at this
  exact this
/-- the model's loop over the loads of a flight -/
theorem flyN_r {T : MS} {m f : Int32} {j : Nat} (h1 : j ≠ 23) (h2 : j ≠ 24) (h3 : j ≠ 25) (h4 : j ≠ 43) (h5 : j ≠ 44) : ∀ k, (s_flyN T m f k).2 j = T.2 j
  | 0 => rfl
  | k + 1 => by
    have ih := flyN_r (T := T) (m := m) (f := f) h1 h2 h3 h4 h5 k
    have e : ∀ a b, (s_flyA (s_flyN T m f k) f a b k).2 j = T.2 j := fun a b => by
      show u2 (u2 (u2 (u2 (u2 (s_flyN T m f k).2 43 _ _) 44 _ _) 23 _ _) 24 _ _) 25 _ _ j = _
      rw [u2_n h3, u2_n h2, u2_n h1, u2_n h5, u2_n h4]
      exact ih
    rw [s_flyN, s_flyS]
    split
    · exact e _ _
    · split
      · exact ih
      · exact e _ _
/-- riders among the first k: flagged, and not hanging -/
def frF (st on ri : Nat → Int32) (m : Int32) (n : Nat) : List Nat := (List.range n).filter (fun x => decide (¬ (st x = 1 ∧ on x = m) ∧ ¬ ri x = 0))
theorem frF_s {st on ri : Nat → Int32} {m : Int32} {n : Nat} : frF st on ri m (n + 1) = if ¬ (st n = 1 ∧ on n = m) ∧ ¬ ri n = 0 then frF st on ri m n ++ [n] else frF st on ri m n := by
  rw [frF, List.range_succ, List.filter_append]
  by_cases h : ¬ (st n = 1 ∧ on n = m) ∧ ¬ ri n = 0
  · rw [if_pos h, List.filter_cons_of_pos (by exact decide_eq_true h)]
    rfl
  · rw [if_neg h, List.filter_cons_of_neg (by exact fun z => h (of_decide_eq_true z))]
    simp [frF]
theorem flyN_x {T : MS} {m f : Int32} : ∀ k, (∀ x, (s_flyN T m f k).2 23 x = (if x < k ∧ ((T.2 23 x = 1 ∧ T.2 24 x = m) ∨ ¬ T.2 49 x = 0) then 2 else T.2 23 x) ∧ (s_flyN T m f k).2 24 x = (if x < k ∧ ((T.2 23 x = 1 ∧ T.2 24 x = m) ∨ ¬ T.2 49 x = 0) then -1 else T.2 24 x) ∧ (s_flyN T m f k).2 25 x = (if x < k ∧ ((T.2 23 x = 1 ∧ T.2 24 x = m) ∨ ¬ T.2 49 x = 0) then f else T.2 25 x)) ∧
    (∀ x, (s_flyN T m f k).2 43 x = if x = f.toNatClampNeg then T.2 43 x + nI (hgF (T.2 23) (T.2 24) m k).length else T.2 43 x) ∧ (∀ x, (s_flyN T m f k).2 44 x = if x = f.toNatClampNeg then T.2 44 x + nI (frF (T.2 23) (T.2 24) (T.2 49) m k).length else T.2 44 x)
  | 0 => by
    refine ⟨fun x => ?_, fun x => ?_, fun x => ?_⟩
    · have hn : ¬ (x < 0 ∧ ((T.2 23 x = 1 ∧ T.2 24 x = m) ∨ ¬ T.2 49 x = 0)) := fun z => absurd z.1 (Nat.not_lt_zero _)
      rw [if_neg hn, if_neg hn, if_neg hn]
      exact ⟨rfl, rfl, rfl⟩
    · show T.2 43 x = if _ then T.2 43 x + 0 else _
      rw [Int32.add_zero]; split <;> rfl
    · show T.2 44 x = if _ then T.2 44 x + 0 else _
      rw [Int32.add_zero]; split <;> rfl
  | k + 1 => by
    obtain ⟨ih, i43, i44⟩ := flyN_x (T := T) (m := m) (f := f) k
    have hk : ¬ (k < k ∧ ((T.2 23 k = 1 ∧ T.2 24 k = m) ∨ ¬ T.2 49 k = 0)) := fun z => absurd z.1 (Nat.lt_irrefl _)
    have k23 : (s_flyN T m f k).2 23 k = T.2 23 k := (ih k).1.trans (if_neg hk)
    have k24 : (s_flyN T m f k).2 24 k = T.2 24 k := (ih k).2.1.trans (if_neg hk)
    have k49 : (s_flyN T m f k).2 49 k = T.2 49 k := congrFun (flyN_r (by decide) (by decide) (by decide) (by decide) (by decide) k) k
    have eA : ∀ a b x, (s_flyA (s_flyN T m f k) f a b k).2 23 x = upd ((s_flyN T m f k).2 23) k 2 x ∧ (s_flyA (s_flyN T m f k) f a b k).2 24 x = upd ((s_flyN T m f k).2 24) k (-1) x ∧ (s_flyA (s_flyN T m f k) f a b k).2 25 x = upd ((s_flyN T m f k).2 25) k f x := fun a b x => ⟨rfl, rfl, rfl⟩
    have eA43 : ∀ a b x, (s_flyA (s_flyN T m f k) f a b k).2 43 x = upd ((s_flyN T m f k).2 43) f.toNatClampNeg ((s_flyN T m f k).2 43 f.toNatClampNeg + a) x := fun a b x => rfl
    have eA44 : ∀ a b x, (s_flyA (s_flyN T m f k) f a b k).2 44 x = upd ((s_flyN T m f k).2 44) f.toNatClampNeg ((s_flyN T m f k).2 44 f.toNatClampNeg + b) x := fun a b x => rfl
    have hlt : ∀ x, x ≠ k → ((x < k + 1 ∧ ((T.2 23 x = 1 ∧ T.2 24 x = m) ∨ ¬ T.2 49 x = 0)) ↔ (x < k ∧ ((T.2 23 x = 1 ∧ T.2 24 x = m) ∨ ¬ T.2 49 x = 0))) := fun x hx => ⟨fun z => ⟨by omega, z.2⟩, fun z => ⟨by omega, z.2⟩⟩
    have rows : ∀ a b, ((T.2 23 k = 1 ∧ T.2 24 k = m) ∨ ¬ T.2 49 k = 0) → ∀ x, (s_flyA (s_flyN T m f k) f a b k).2 23 x = (if x < k + 1 ∧ ((T.2 23 x = 1 ∧ T.2 24 x = m) ∨ ¬ T.2 49 x = 0) then 2 else T.2 23 x) ∧ (s_flyA (s_flyN T m f k) f a b k).2 24 x = (if x < k + 1 ∧ ((T.2 23 x = 1 ∧ T.2 24 x = m) ∨ ¬ T.2 49 x = 0) then -1 else T.2 24 x) ∧ (s_flyA (s_flyN T m f k) f a b k).2 25 x = (if x < k + 1 ∧ ((T.2 23 x = 1 ∧ T.2 24 x = m) ∨ ¬ T.2 49 x = 0) then f else T.2 25 x) := by
      intro a b hP x
      obtain ⟨a1, a2, a3⟩ := eA a b x
      rw [a1, a2, a3]
      by_cases q : x = k
      · subst q
        have hc : x < x + 1 ∧ ((T.2 23 x = 1 ∧ T.2 24 x = m) ∨ ¬ T.2 49 x = 0) := ⟨Nat.lt_succ_self x, hP⟩
        rw [pk_us, pk_us, pk_us, if_pos hc, if_pos hc, if_pos hc]
        exact ⟨rfl, rfl, rfl⟩
      · rw [pk_un q, pk_un q, pk_un q, (ih x).1, (ih x).2.1, (ih x).2.2]
        by_cases c : x < k ∧ ((T.2 23 x = 1 ∧ T.2 24 x = m) ∨ ¬ T.2 49 x = 0)
        · have c2 := (hlt x q).mpr c
          rw [if_pos c, if_pos c, if_pos c, if_pos c2, if_pos c2, if_pos c2]
          exact ⟨rfl, rfl, rfl⟩
        · have c2 := fun z => c ((hlt x q).mp z)
          rw [if_neg c, if_neg c, if_neg c, if_neg c2, if_neg c2, if_neg c2]
          exact ⟨rfl, rfl, rfl⟩
    rw [s_flyN, s_flyS, k23, k24, k49, hgF_s, frF_s]
    by_cases c1 : T.2 23 k = 1 ∧ T.2 24 k = m
    · rw [if_pos c1, if_pos c1, if_neg (fun z => z.1 c1)]
      refine ⟨rows 1 0 (Or.inl c1), fun x => ?_, fun x => ?_⟩
      · rw [eA43]
        by_cases q : x = f.toNatClampNeg
        · rw [q, pk_us, i43, if_pos rfl, if_pos rfl, List.length_append, List.length_singleton, ← nI_1, Int32.add_assoc]
        · rw [pk_un q, i43, if_neg q, if_neg q]
      · rw [eA44]
        by_cases q : x = f.toNatClampNeg
        · rw [q, pk_us, i44, if_pos rfl, Int32.add_zero]
        · rw [pk_un q, i44]
    · rw [if_neg c1, if_neg c1]
      by_cases c2 : T.2 49 k = 0
      · rw [if_pos c2, if_neg (fun z => z.2 c2)]
        refine ⟨fun x => ?_, i43, i44⟩
        rw [(ih x).1, (ih x).2.1, (ih x).2.2]
        by_cases q : x = k
        · subst q
          have c3 : ¬ (x < x + 1 ∧ ((T.2 23 x = 1 ∧ T.2 24 x = m) ∨ ¬ T.2 49 x = 0)) := fun z => z.2.elim c1 (fun y => y c2)
          rw [if_neg hk, if_neg hk, if_neg hk, if_neg c3, if_neg c3, if_neg c3]
          exact ⟨rfl, rfl, rfl⟩
        · by_cases c : x < k ∧ ((T.2 23 x = 1 ∧ T.2 24 x = m) ∨ ¬ T.2 49 x = 0)
          · have c3 := (hlt x q).mpr c
            rw [if_pos c, if_pos c, if_pos c, if_pos c3, if_pos c3, if_pos c3]
            exact ⟨rfl, rfl, rfl⟩
          · have c3 := fun z => c ((hlt x q).mp z)
            rw [if_neg c, if_neg c, if_neg c, if_neg c3, if_neg c3, if_neg c3]
            exact ⟨rfl, rfl, rfl⟩
      · rw [if_neg c2, if_pos ⟨c1, c2⟩]
        refine ⟨rows 0 1 (Or.inr c2), fun x => ?_, fun x => ?_⟩
        · rw [eA43]
          by_cases q : x = f.toNatClampNeg
          · rw [q, pk_us, i43, if_pos rfl, Int32.add_zero]
          · rw [pk_un q, i43]
        · rw [eA44]
          by_cases q : x = f.toNatClampNeg
          · rw [q, pk_us, i44, if_pos rfl, if_pos rfl, List.length_append, List.length_singleton, ← nI_1, Int32.add_assoc]
          · rw [pk_un q, i44, if_neg q, if_neg q]
/-- the model's parting -/
def byF (S : MS) (f : Int32) (n : Nat) : List Nat := (List.range n).filter (fun x => decide (S.2 25 x = f))
theorem byF_s {S : MS} {f : Int32} {n : Nat} : byF S f (n + 1) = if S.2 25 n = f then byF S f n ++ [n] else byF S f n := by
  rw [byF, List.range_succ, List.filter_append]
  by_cases h : S.2 25 n = f
  · rw [if_pos h, List.filter_cons_of_pos (by exact decide_eq_true h)]
    rfl
  · rw [if_neg h, List.filter_cons_of_neg (by exact fun z => h (of_decide_eq_true z))]
    simp [byF]
theorem partN_r {S : MS} {f q a : Int32} {j : Nat} (hj : j ≠ 27) : ∀ k, (s_partN S f q a k).2 j = S.2 j
  | 0 => rfl
  | k + 1 => by
    have ih := partN_r (S := S) (f := f) (q := q) (a := a) hj k
    rw [s_partN]
    split
    · exact (u2_n hj).trans ih
    · exact ih
theorem partN_27 {S : MS} {f q a : Int32} : ∀ k x, (s_partN S f q a k).2 27 x = if x < k ∧ S.2 25 x = f then q * S.2 18 x / a else S.2 27 x
  | 0, x => by rw [if_neg (fun z => absurd z.1 (Nat.not_lt_zero _))]; rfl
  | k + 1, x => by
    have ih := partN_27 (S := S) (f := f) (q := q) (a := a) k x
    rw [s_partN, s_partN_25, partN_r (j := 18) (by decide)]
    by_cases h : S.2 25 k = f
    · rw [if_pos h]
      show u2 (s_partN S f q a k).2 27 k _ 27 x = _
      rw [u2_s]
      by_cases e : x = k
      · subst e
        rw [pk_us, if_pos ⟨Nat.lt_succ_self x, h⟩]
      · rw [pk_un e, ih]
        by_cases c : x < k ∧ S.2 25 x = f
        · rw [if_pos c, if_pos ⟨by omega, c.2⟩]
        · rw [if_neg c, if_neg (fun z => c ⟨by omega, z.2⟩)]
    · rw [if_neg h, ih]
      by_cases c : x < k ∧ S.2 25 x = f
      · rw [if_pos c, if_pos ⟨by omega, c.2⟩]
      · have c2 : ¬ (x < k + 1 ∧ S.2 25 x = f) := fun z => by
          by_cases e : x = k
          · exact h (e ▸ z.2)
          · exact c ⟨by omega, z.2⟩
        rw [if_neg c, if_neg c2]
theorem allN_eq {S : MS} {f : Int32} : ∀ n, r_allN S f n = lsum (S.2 18) (byF S f n)
  | 0 => rfl
  | n + 1 => by
    rw [r_allN, byF_s, allN_eq n]
    by_cases h : S.2 25 n = f
    · rw [if_pos h, if_pos h, lsum_s]
    · rw [if_neg h, if_neg h]
theorem leftN_eq {S : MS} {f q a : Int32} : ∀ n, r_leftN S f q a n = q - lsum (fun x => q * S.2 18 x / a) (byF S f n)
  | 0 => (Int32.sub_zero q).symm
  | n + 1 => by
    rw [r_leftN, byF_s, leftN_eq n, s_partN_25, partN_r (j := 18) (by decide), pk_us]
    by_cases h : S.2 25 n = f
    · rw [if_pos h, if_pos h, lsum_s, Int32.sub_sub]
    · rw [if_neg h, if_neg h]
theorem leastN_eq {S : MS} {f : Int32} : ∀ n, n ≤ 100000 → r_leastN S f n = if byF S f n = [] then -1 else nI (hd0 (byF S f n))
  | 0, _ => rfl
  | n + 1, hn => by
    have ih := leastN_eq (S := S) (f := f) n (by omega)
    have hb : ¬ byF S f n = [] → hd0 (byF S f n) < n := fun z => by
      have := hd0_mem z
      rw [byF, List.mem_filter, List.mem_range] at this
      exact this.1
    rw [r_leastN, byF_s, ih]
    by_cases h : S.2 25 n = f
    · rw [if_pos h, if_pos h]
      by_cases e : byF S f n = []
      · rw [if_pos e, e, if_neg (show ¬ (0 : Int32) ≤ -1 by decide), if_neg (by simp)]
        rfl
      · have hz : (0 : Int32) ≤ nI (hd0 (byF S f n)) := (nI_leI (a := 0) (by decide) (by have := hb e; omega)).mpr (Nat.zero_le _)
        rw [if_neg e, if_pos hz, if_neg (by simp [e])]
        cases hl : byF S f n with
        | nil => exact absurd hl e
        | cons a r => rfl
    · rw [if_neg h, if_neg h]
theorem lmn_le : ∀ {l : List Nat} {x : Nat}, x ∈ l → lmn l ≤ x
  | a :: l, x, h => by
    have key : ∀ (l : List Nat) (a : Nat), l.foldl min a ≤ a ∧ ∀ x ∈ l, l.foldl min a ≤ x := by
      intro l
      induction l with
      | nil => intro a; exact ⟨Nat.le_refl _, fun x hx => (by cases hx)⟩
      | cons b l ih =>
        intro a
        rw [List.foldl_cons]
        obtain ⟨i1, i2⟩ := ih (min a b)
        refine ⟨by omega, fun x hx => ?_⟩
        rcases List.mem_cons.mp hx with rfl | q
        · omega
        · exact i2 x q
    show l.foldl min a ≤ x
    rcases List.mem_cons.mp h with rfl | q
    · exact (key l x).1
    · exact (key l a).2 x q
theorem byF_hd {S : MS} {f : Int32} {n x : Nat} (h : x ∈ byF S f n) : hd0 (byF S f n) ≤ x := by
  have hp : (byF S f n).Pairwise (· < ·) := List.Pairwise.filter _ List.pairwise_lt_range
  cases hl : byF S f n with
  | nil => rw [hl] at h; cases h
  | cons a r =>
    rw [hl] at h hp
    rcases List.mem_cons.mp h with rfl | q
    · exact Nat.le_refl _
    · exact Nat.le_of_lt ((List.pairwise_cons.mp hp).1 x q)
theorem lst_eq {l1 l2 g : List Nat} (hg : ¬ g = []) (hm : ∀ x, x ∈ g ↔ x ∈ l1 ∨ x ∈ l2) (hh : ∀ x ∈ g, hd0 g ≤ x) : a_lst l1 l2 = hd0 g := by
  have key : (a_lst l1 l2 ∈ l1 ∨ a_lst l1 l2 ∈ l2) ∧ ∀ x, (x ∈ l1 ∨ x ∈ l2) → a_lst l1 l2 ≤ x := by
    rw [a_lst]
    by_cases e1 : l1 = []
    · have e2 : ¬ l2 = [] := fun z => hg (List.eq_nil_iff_forall_not_mem.mpr (fun x hx => by rcases (hm x).mp hx with q | q; rw [e1] at q; cases q; rw [z] at q; cases q))
      rw [if_pos e1]
      exact ⟨Or.inr (lmn_mem e2), fun x hx => hx.elim (fun q => by rw [e1] at q; cases q) lmn_le⟩
    · rw [if_neg e1]
      by_cases e2 : l2 = []
      · rw [if_pos e2]
        exact ⟨Or.inl (lmn_mem e1), fun x hx => hx.elim lmn_le (fun q => by rw [e2] at q; cases q)⟩
      · rw [if_neg e2]
        refine ⟨?_, fun x hx => hx.elim (fun q => Nat.le_trans (Nat.min_le_left _ _) (lmn_le q)) (fun q => Nat.le_trans (Nat.min_le_right _ _) (lmn_le q))⟩
        rcases Nat.le_total (lmn l1) (lmn l2) with q | q
        · rw [Nat.min_eq_left q]; exact Or.inl (lmn_mem e1)
        · rw [Nat.min_eq_right q]; exact Or.inr (lmn_mem e2)
  exact Nat.le_antisymm (key.2 _ ((hm _).mp (hd0_mem hg))) (hh _ ((hm _).mpr key.1))
