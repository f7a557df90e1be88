def wStep (n : Nat) (t p m f : Int32) (X : MS) (x6 c : Int32) : MS × Int32 := (if (ib (48 ≤ c ∧ c ≤ 57)) = 0 then (if x6 < 0 then (if (ib (c = 43 ∨ c = 45 ∨ c = 42 ∨ c = 60 ∨ c = 61 ∨ c = 62 ∨ c = 38 ∨ c = 124)) = 0 then (if c = 33 then (if (r_take X) = 0 then (s_lay (s_take X) 1) else (s_lay (s_take X) 0)) else (if c = 32 then X else (s_lay X (r_named X n c t p m f)))) else (s_lay (s_take (s_take X)) (m_both c (r_take (s_take X)) (r_take X)))) else (if (ib (c = 43 ∨ c = 45 ∨ c = 42 ∨ c = 60 ∨ c = 61 ∨ c = 62 ∨ c = 38 ∨ c = 124)) = 0 then (if c = 33 then (if (r_take (s_lay X x6)) = 0 then (s_lay (s_take (s_lay X x6)) 1) else (s_lay (s_take (s_lay X x6)) 0)) else (if c = 32 then (s_lay X x6) else (s_lay (s_lay X x6) (r_named (s_lay X x6) n c t p m f)))) else (s_lay (s_take (s_take (s_lay X x6))) (m_both c (r_take (s_take (s_lay X x6))) (r_take (s_lay X x6)))))) else X, if (ib (48 ≤ c ∧ c ≤ 57)) = 0 then (if x6 < 0 then x6 else (-1)) else (if 0 ≤ x6 then (((10 * x6) + c) - 48) else (c - 48)))
theorem wN_s {T : MS} {n k : Nat} {i t p m f : Int32} : wN T n i t p m f (k + 1) = wStep n t p m f (wN T n i t p m f k).1 (wN T n i t p m f k).2 ((wN T n i t p m f k).1.2 31 (60 * i + nI k).toNatClampNeg) := rfl
abbrev pName (c : Int32) : Prop := c = 119 ∨ c = 116 ∨ c = 115 ∨ c = 104 ∨ c = 109 ∨ c = 112 ∨ c = 101 ∨ c = 107 ∨ c = 108 ∨ c = 110 ∨ c = 102
def digN (b : Nat → Int32) : Nat → Nat
  | 0 => 0
  | k + 1 => if 48 ≤ b k ∧ b k ≤ 57 then digN b k + 1 else 0
def lays (b : Nat → Int32) (k : Nat) : Prop := digN b (k + 1) = 1 ∨ pName (b k)
def laysB (b : Nat → Int32) (k : Nat) : Bool := decide (digN b (k + 1) = 1 ∨ pName (b k))
def lieN (b : Nat → Int32) : Nat → Nat
  | 0 => 0
  | k + 1 => if laysB b k = true then lieN b k + 1 else if pTwo (b k) then lieN b k - 1 else lieN b k
def stOK (b : Nat → Int32) (k : Nat) : Prop := ((48 ≤ b k ∧ b k ≤ 57) ∨ pName (b k) ∨ pTwo (b k) ∨ b k = 33 ∨ b k = 32) ∧ ¬ digN b (k + 1) = 4 ∧ (laysB b k = true → ¬ lieN b k = 20) ∧ (pTwo (b k) → 2 ≤ lieN b k) ∧ (b k = 33 → 1 ≤ lieN b k)
def okT (b : Nat → Int32) (q : Nat) : Prop := (∀ k, k < q → stOK b k) ∧ lieN b q = 1
theorem okN {b : Nat → Int32} : ∀ {k : Nat}, (∀ j, j < k → stOK b j) → digN b k ≤ 3 ∧ lieN b k ≤ 20
  | 0, _ => by simp [digN, lieN]
  | k + 1, h => by
    obtain ⟨h1, h2⟩ := okN (b := b) (k := k) (fun j hj => h j (by omega))
    obtain ⟨-, g2, g3, -⟩ := h k (by omega)
    constructor
    · have : digN b (k + 1) ≤ digN b k + 1 := by
        simp only [digN]
        split <;> omega
      omega
    · simp only [lieN]
      split
      · rename_i q
        have := g3 q
        omega
      · split <;> omega
/-! the pile as a list, its top first -/
def pic (l : List Int32) (X : MS) : Prop := X.1 35 = nI l.length ∧ ∀ j, j < l.length → X.2 34 j = l.getD (l.length - 1 - j) 0
def pR (T X : MS) : Prop := (∀ k, k ≠ 35 → X.1 k = T.1 k) ∧ ∀ k, k ≠ 34 → X.2 k = T.2 k
theorem pR.refl {T : MS} : pR T T := ⟨fun _ _ => rfl, fun _ _ => rfl⟩
theorem pR.trans {T X Y : MS} (h : pR T X) (h2 : pR X Y) : pR T Y := ⟨fun k hk => (h2.1 k hk).trans (h.1 k hk), fun k hk => (h2.2 k hk).trans (h.2 k hk)⟩
theorem pR.symm {T X : MS} (h : pR T X) : pR X T := ⟨fun k hk => (h.1 k hk).symm, fun k hk => (h.2 k hk).symm⟩
theorem pR.lay {T X : MS} {v : Int32} (h : pR T X) : pR T (s_lay X v) := ⟨fun k hk => by show vf_upd X.1 35 _ k = _; rw [vf_upd, if_neg hk]; exact h.1 k hk, fun k hk => (u2_n hk).trans (h.2 k hk)⟩
theorem pR.take {T X : MS} (h : pR T X) : pR T (s_take X) := ⟨fun k hk => by show vf_upd X.1 35 _ k = _; rw [vf_upd, if_neg hk]; exact h.1 k hk, h.2⟩
theorem pic.lay {l : List Int32} {X : MS} {v : Int32} (h : pic l X) (hl : l.length < 100) : pic (v :: l) (s_lay X v) := by
  obtain ⟨h1, h2⟩ := h
  refine ⟨?_, fun j hj => ?_⟩
  · show vf_upd X.1 35 (X.1 35 + 1) 35 = _
    rw [vf_upd, if_pos rfl, h1, nI_1, List.length_cons]
  · show u2 X.2 34 (X.1 35).toNatClampNeg v 34 j = _
    rw [u2_s, h1, nI_clamp (by omega)]
    rw [List.length_cons] at hj ⊢
    by_cases e : j = l.length
    · rw [e, pk_us, show l.length + 1 - 1 - l.length = 0 from by omega]
      rfl
    · rw [pk_un e, h2 j (by omega), show l.length + 1 - 1 - j = (l.length - 1 - j) + 1 from by omega]
      rfl
theorem pic.take {l : List Int32} {X : MS} {v : Int32} (h : pic (v :: l) X) (hl : l.length < 100) : r_take X = v ∧ pic l (s_take X) := by
  obtain ⟨h1, h2⟩ := h
  rw [List.length_cons] at h1 h2
  have e : X.1 35 - 1 = nI l.length := by rw [h1, nI_pred]
  refine ⟨?_, ?_, fun j hj => ?_⟩
  · rw [r_take, e, nI_clamp (by omega), h2 _ (by omega), show l.length + 1 - 1 - l.length = 0 from by omega]
    rfl
  · show vf_upd X.1 35 (X.1 35 - 1) 35 = _
    rw [vf_upd, if_pos rfl, e]
  · show X.2 34 j = _
    rw [h2 j (by omega), show l.length + 1 - 1 - j = (l.length - 1 - j) + 1 from by omega]
    rfl
def opS (n : Nat) (t p m f : Int32) (Y : MS) (c : Int32) : MS := if pTwo c then s_lay (s_take (s_take Y)) (m_both c (r_take (s_take Y)) (r_take Y)) else if c = 33 then s_lay (s_take Y) (if r_take Y = 0 then 1 else 0) else if c = 32 then Y else s_lay Y (r_named Y n c t p m f)
theorem wStep_eq {n : Nat} {t p m f x6 c : Int32} {X : MS} : wStep n t p m f X x6 c = if 48 ≤ c ∧ c ≤ 57 then (X, if 0 ≤ x6 then 10 * x6 + c - 48 else c - 48) else (opS n t p m f (if x6 < 0 then X else s_lay X x6) c, if x6 < 0 then x6 else -1) := by
  by_cases h1 : 48 ≤ c ∧ c ≤ 57
  · have e : ¬ ib (48 ≤ c ∧ c ≤ 57) = 0 := ib_n.mpr h1
    rw [wStep, if_neg e, if_neg e, if_pos h1]
  · have e : ib (48 ≤ c ∧ c ≤ 57) = 0 := ib_0.mpr h1
    rw [wStep, if_pos e, if_pos e, if_neg h1]
    by_cases h2 : x6 < 0
    · simp only [if_pos h2, opS]
      by_cases h3 : pTwo c
      · rw [if_neg (ib_n.mpr h3), if_pos h3]
      · rw [if_pos (ib_0.mpr h3), if_neg h3]
        by_cases h4 : c = 33
        · rw [if_pos h4, if_pos h4]
          by_cases h5 : r_take X = 0
          · rw [if_pos h5, if_pos h5]
          · rw [if_neg h5, if_neg h5]
        · rw [if_neg h4, if_neg h4]
    · simp only [if_neg h2, opS]
      by_cases h3 : pTwo c
      · rw [if_neg (ib_n.mpr h3), if_pos h3]
      · rw [if_pos (ib_0.mpr h3), if_neg h3]
        by_cases h4 : c = 33
        · rw [if_pos h4, if_pos h4]
          by_cases h5 : r_take (s_lay X x6) = 0
          · rw [if_pos h5, if_pos h5]
          · rw [if_neg h5, if_neg h5]
        · rw [if_neg h4, if_neg h4]
theorem r_hangN_of {X T : MS} {m c : Int32} (h : ∀ k, k ≠ 34 → X.2 k = T.2 k) : ∀ n, r_hangN X m c n = r_hangN T m c n
  | 0 => rfl
  | n + 1 => by simp only [r_hangN, h 23 (by decide), h 24 (by decide), h 18 (by decide), h 19 (by decide), h 20 (by decide), r_hangN_of h n]
theorem r_named_of {X T : MS} (hR : pR T X) (n : Nat) (c t p m f : Int32) : r_named X n c t p m f = r_named T n c t p m f := by
  have h := hR.2
  simp only [r_named, h 4 (by decide), h 5 (by decide), h 6 (by decide), h 1 (by decide), r_hangN_of h]
/-! the evaluation of a text -/
def evO (env : Int32 → Int32) (c : Int32) (l : List Int32) : List Int32 := if pTwo c then m_both c (l.tail.headD 0) (l.headD 0) :: l.tail.tail else if c = 33 then (if l.headD 0 = 0 then 1 else 0) :: l.tail else if c = 32 then l else env c :: l
def evS (env : Int32 → Int32) (c : Int32) (s : List Int32 × Int32) : List Int32 × Int32 := if 48 ≤ c ∧ c ≤ 57 then (s.1, if 0 ≤ s.2 then 10 * s.2 + c - 48 else c - 48) else (evO env c (if s.2 < 0 then s.1 else s.2 :: s.1), if s.2 < 0 then s.2 else -1)
def evP (env : Int32 → Int32) (b : Nat → Int32) : Nat → List Int32 × Int32
  | 0 => ([], -1)
  | k + 1 => evS env (b k) (evP env b k)
def evR (env : Int32 → Int32) (b : Nat → Int32) (q : Nat) : Int32 := if (evP env b q).2 < 0 then (evP env b q).1.headD 0 else (evP env b q).2
theorem opS_pic {n : Nat} {t p m f c : Int32} {T Y : MS} {l : List Int32} (hp : pic l Y) (hR : pR T Y) (hl : l.length < 50) (h2 : pTwo c → 2 ≤ l.length) (h1 : c = 33 → 1 ≤ l.length) : pic (evO (fun c => r_named T n c t p m f) c l) (opS n t p m f Y c) ∧ pR T (opS n t p m f Y c) := by
  by_cases q1 : pTwo c
  · obtain ⟨b, a, r, rfl⟩ : ∃ b a r, l = b :: a :: r := by
      have := h2 q1
      match l, this with
      | b :: a :: r, _ => exact ⟨b, a, r, rfl⟩
    simp only [List.length_cons] at hl
    obtain ⟨e1, p1⟩ := hp.take (by simp only [List.length_cons]; omega)
    obtain ⟨e2, p2⟩ := p1.take (by omega)
    rw [opS, if_pos q1, evO, if_pos q1, e1, e2]
    exact ⟨p2.lay (by omega), hR.take.take.lay⟩
  · by_cases q2 : c = 33
    · obtain ⟨b, r, rfl⟩ : ∃ b r, l = b :: r := by
        have := h1 q2
        match l, this with
        | b :: r, _ => exact ⟨b, r, rfl⟩
      simp only [List.length_cons] at hl
      obtain ⟨e1, p1⟩ := hp.take (by omega)
      rw [opS, if_neg q1, if_pos q2, evO, if_neg q1, if_pos q2, e1]
      exact ⟨p1.lay (by omega), hR.take.lay⟩
    · by_cases q3 : c = 32
      · rw [opS, if_neg q1, if_neg q2, if_pos q3, evO, if_neg q1, if_neg q2, if_pos q3]
        exact ⟨hp, hR⟩
      · rw [opS, if_neg q1, if_neg q2, if_neg q3, evO, if_neg q1, if_neg q2, if_neg q3, r_named_of hR]
        exact ⟨hp.lay (by omega), hR.lay⟩
/-- heights and numbers of the evaluation of a text that has no fault so far -/
def evI (b : Nat → Int32) (k : Nat) (s : List Int32 × Int32) : Prop := (digN b k = 0 ∧ s.2 = -1 ∧ s.1.length = lieN b k) ∨ (0 < digN b k ∧ (∃ v, v < 10 ^ digN b k ∧ s.2 = nI v) ∧ s.1.length + 1 = lieN b k)
theorem dg_of {c : Int32} (h : 48 ≤ c ∧ c ≤ 57) : ∃ v, v < 10 ∧ c = nI (48 + v) := by
  obtain ⟨j, hj, rfl⟩ := nI_of2 (n := 57) (M := 57) (by decide) (Int32.not_lt.mpr (Int32.le_trans (by decide) h.1)) h.2
  have := (nI_leI (a := 48) (by omega) (by omega)).mp h.1
  exact ⟨j - 48, by omega, by congr 1; omega⟩
theorem dg_num {v w : Nat} : 10 * nI v + nI (48 + w) - 48 = nI (10 * v + w) := by
  have e : (10 : Int32) * nI v = nI (10 * v) := (Int32.ofNat_mul 10 v).symm
  rw [e, nI_add, show 10 * v + (48 + w) = (10 * v + w) + 48 from by omega, ← nI_add]
  exact Int32.add_sub_cancel _ _
theorem dg_sub {w : Nat} : nI (48 + w) - 48 = nI w := by
  rw [Nat.add_comm, ← nI_add]
  exact Int32.add_sub_cancel _ _
theorem dg_two {c : Int32} (h : 48 ≤ c ∧ c ≤ 57) : ¬ pTwo c ∧ ¬ c = 33 ∧ ¬ c = 32 ∧ ¬ pName c := by
  obtain ⟨v, hv, rfl⟩ := dg_of h
  have key : ∀ x : Nat, x < 48 ∨ 57 < x → x < 1000 → ¬ nI (48 + v) = nI x := fun x hx h3 e => by have := (nI_eq (by omega) (by omega)).mp e; omega
  refine ⟨?_, key 33 (by omega) (by omega), key 32 (by omega) (by omega), ?_⟩
  · rintro (e | e | e | e | e | e | e | e)
    · exact key 43 (by omega) (by omega) e
    · exact key 45 (by omega) (by omega) e
    · exact key 42 (by omega) (by omega) e
    · exact key 60 (by omega) (by omega) e
    · exact key 61 (by omega) (by omega) e
    · exact key 62 (by omega) (by omega) e
    · exact key 38 (by omega) (by omega) e
    · exact key 124 (by omega) (by omega) e
  · rintro (e | e | e | e | e | e | e | e | e | e | e)
    · exact key 119 (by omega) (by omega) e
    · exact key 116 (by omega) (by omega) e
    · exact key 115 (by omega) (by omega) e
    · exact key 104 (by omega) (by omega) e
    · exact key 109 (by omega) (by omega) e
    · exact key 112 (by omega) (by omega) e
    · exact key 101 (by omega) (by omega) e
    · exact key 107 (by omega) (by omega) e
    · exact key 108 (by omega) (by omega) e
    · exact key 110 (by omega) (by omega) e
    · exact key 102 (by omega) (by omega) e
theorem nm_two {c : Int32} (h : pName c) : ¬ pTwo c ∧ ¬ c = 33 ∧ ¬ c = 32 := by
  rcases h with rfl | rfl | rfl | rfl | rfl | rfl | rfl | rfl | rfl | rfl | rfl <;> decide
theorem two_33 {c : Int32} (h : pTwo c) : ¬ c = 33 ∧ ¬ c = 32 ∧ ¬ pName c := by
  rcases h with rfl | rfl | rfl | rfl | rfl | rfl | rfl | rfl <;> decide
/-- the list that a sign works on, and its height -/
theorem evI.list {b : Nat → Int32} {k : Nat} {s : List Int32 × Int32} (h : evI b k s) (hd : digN b k ≤ 3) : (if s.2 < 0 then s.1 else s.2 :: s.1).length = lieN b k ∧ (if s.2 < 0 then s.2 else -1) = -1 := by
  rcases h with ⟨h1, h2, h3⟩ | ⟨h1, ⟨v, h4, h2⟩, h3⟩
  · rw [h2, if_pos (by decide), if_pos (by decide)]
    exact ⟨h3, rfl⟩
  · have : v < 10 ^ 3 := Nat.lt_of_lt_of_le h4 (Nat.pow_le_pow_right (by decide) hd)
    rw [h2, if_neg (nI_pos (by omega)), if_neg (nI_pos (by omega)), List.length_cons]
    exact ⟨h3, rfl⟩
theorem evI.step {env : Int32 → Int32} {b : Nat → Int32} {k : Nat} {s : List Int32 × Int32} (h : evI b k s) (hk : ∀ j, j < k + 1 → stOK b j) : evI b (k + 1) (evS env (b k) s) := by
  obtain ⟨hd, hl⟩ := okN (b := b) (k := k) (fun j hj => hk j (by omega))
  obtain ⟨g1, g2, g3, g4, g5⟩ := hk k (by omega)
  by_cases q : 48 ≤ b k ∧ b k ≤ 57
  · obtain ⟨w, hw, ew⟩ := dg_of q
    obtain ⟨z1, z2, z3, z4⟩ := dg_two q
    have e1 : digN b (k + 1) = digN b k + 1 := by simp only [digN, if_pos q]
    rw [evS, if_pos q]
    refine Or.inr ⟨by omega, ?_, ?_⟩
    · rcases h with ⟨h1, h2, h3⟩ | ⟨h1, ⟨v, h4, h2⟩, h3⟩
      · refine ⟨w, by rw [e1, h1]; omega, ?_⟩
        show (if 0 ≤ s.2 then 10 * s.2 + b k - 48 else b k - 48) = nI w
        rw [h2, if_neg (by decide), ew, dg_sub]
      · have hv : v < 10 ^ 3 := Nat.lt_of_lt_of_le h4 (Nat.pow_le_pow_right (by decide) hd)
        refine ⟨10 * v + w, by rw [e1, Nat.pow_succ]; omega, ?_⟩
        show (if 0 ≤ s.2 then 10 * s.2 + b k - 48 else b k - 48) = _
        rw [h2, if_pos (nI_pos' (by omega)), ew, dg_num]
    · show s.1.length + 1 = lieN b (k + 1)
      rcases h with ⟨h1, h2, h3⟩ | ⟨h1, -, h3⟩
      · have e2 : laysB b k = true := decide_eq_true (Or.inl (by omega))
        simp only [lieN, if_pos e2]
        omega
      · have e2 : ¬ laysB b k = true := by
          intro e
          rcases of_decide_eq_true e with e | e
          · omega
          · exact z4 e
        simp only [lieN, if_neg e2, if_neg z1]
        exact h3
  · have e1 : digN b (k + 1) = 0 := by simp only [digN, if_neg q]
    obtain ⟨hlen, hneg⟩ := h.list hd
    rw [evS, if_neg q]
    refine Or.inl ⟨e1, hneg, ?_⟩
    generalize (if s.2 < 0 then s.1 else s.2 :: s.1) = l at hlen
    show (evO env (b k) l).length = _
    by_cases q1 : pTwo (b k)
    · have e2 : ¬ laysB b k = true := by
        intro e
        rcases of_decide_eq_true e with e | e
        · omega
        · exact (two_33 q1).2.2 e
      have := g4 q1
      simp only [evO, if_pos q1, lieN, if_neg e2, List.length_cons, List.length_tail]
      omega
    · by_cases q2 : b k = 33
      · have e2 : ¬ laysB b k = true := by
          intro e
          rcases of_decide_eq_true e with e | e
          · omega
          · exact (nm_two e).2.1 q2
        have := g5 q2
        simp only [evO, if_neg q1, if_pos q2, lieN, if_neg e2, List.length_cons, List.length_tail]
        omega
      · by_cases q3 : b k = 32
        · have e2 : ¬ laysB b k = true := by
            intro e
            rcases of_decide_eq_true e with e | e
            · omega
            · exact (nm_two e).2.2 q3
          simp only [evO, if_neg q1, if_neg q2, if_pos q3, lieN, if_neg e2]
          exact hlen
        · have e2 : laysB b k = true := by
            refine decide_eq_true (Or.inr ?_)
            rcases g1 with g | g | g | g | g
            · exact absurd g q
            · exact g
            · exact absurd g q1
            · exact absurd g q2
            · exact absurd g q3
          simp only [evO, if_neg q1, if_neg q2, if_neg q3, lieN, if_pos e2, List.length_cons]
          omega
theorem evP_I {env : Int32 → Int32} {b : Nat → Int32} : ∀ {k : Nat}, (∀ j, j < k → stOK b j) → evI b k (evP env b k)
  | 0, _ => Or.inl ⟨rfl, rfl, rfl⟩
  | k + 1, h => (evP_I (fun j hj => h j (by omega))).step h
/-- the model's evaluation of a rule is the text's -/
def btext (S : MS) (i : Int32) (k : Nat) : Int32 := S.2 31 (60 * i + nI k).toNatClampNeg
theorem wN_ev {T : MS} {n : Nat} {i t p m f : Int32} (h35 : T.1 35 = 0) : ∀ {k : Nat}, (∀ j, j < k → stOK (btext T i) j) → pic (evP (fun c => r_named T n c t p m f) (btext T i) k).1 (wN T n i t p m f k).1 ∧ (wN T n i t p m f k).2 = (evP (fun c => r_named T n c t p m f) (btext T i) k).2 ∧ pR T (wN T n i t p m f k).1
  | 0, _ => ⟨⟨h35, fun j hj => absurd hj (Nat.not_lt_zero _)⟩, rfl, pR.refl⟩
  | k + 1, h => by
    obtain ⟨h1, h2, h3⟩ := wN_ev (T := T) (n := n) (i := i) (t := t) (p := p) (m := m) (f := f) h35 (k := k) (fun j hj => h j (by omega))
    have hI := evP_I (env := fun c => r_named T n c t p m f) (fun j (hj : j < k) => h j (by omega))
    obtain ⟨hd, hl⟩ := okN (b := btext T i) (k := k) (fun j hj => h j (by omega))
    obtain ⟨g1, g2, g3, g4, g5⟩ := h k (by omega)
    have ec : (wN T n i t p m f k).1.2 31 (60 * i + nI k).toNatClampNeg = btext T i k := congrFun (h3.2 31 (by decide)) _
    rw [wN_s, ec, wStep_eq, evP, evS, h2]
    generalize evP (fun c => r_named T n c t p m f) (btext T i) k = s at h1 h2 hI
    by_cases q : 48 ≤ btext T i k ∧ btext T i k ≤ 57
    · rw [if_pos q, if_pos q]
      exact ⟨h1, rfl, h3⟩
    · rw [if_neg q, if_neg q]
      obtain ⟨hlen, hneg⟩ := hI.list hd
      have hp : pic (if s.2 < 0 then s.1 else s.2 :: s.1) (if s.2 < 0 then (wN T n i t p m f k).1 else s_lay (wN T n i t p m f k).1 s.2) ∧ pR T (if s.2 < 0 then (wN T n i t p m f k).1 else s_lay (wN T n i t p m f k).1 s.2) := by
        by_cases e : s.2 < 0
        · rw [if_pos e, if_pos e]
          exact ⟨h1, h3⟩
        · rw [if_neg e] at hlen
          rw [if_neg e, if_neg e]
          exact ⟨h1.lay (by simp only [List.length_cons] at hlen; omega), h3.lay⟩
      obtain ⟨p1, p2⟩ := opS_pic (n := n) (t := t) (p := p) (m := m) (f := f) hp.1 hp.2 (by omega) (fun z => by rw [hlen]; exact g4 z) (fun z => by rw [hlen]; exact g5 z)
      exact ⟨p1, rfl, p2⟩
theorem evP_of {env env2 : Int32 → Int32} {b : Nat → Int32} (h : ∀ c, env c = env2 c) : ∀ k, evP env b k = evP env2 b k := fun k => by rw [show env = env2 from funext h]

