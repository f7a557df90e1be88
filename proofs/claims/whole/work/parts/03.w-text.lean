theorem evI.len {b : Nat → Int32} {k : Nat} {s : List Int32 × Int32} (h : evI b k s) (hd : digN b k ≤ 3) : (s.2 < 0 → s.1.length = lieN b k) ∧ (¬ s.2 < 0 → s.1.length + 1 = lieN b k) := by
  rcases h with ⟨h1, h2, h3⟩ | ⟨h1, ⟨v, h4, h2⟩, h3⟩
  · rw [h2]
    exact ⟨fun _ => h3, fun z => absurd (by decide) z⟩
  · have : v < 10 ^ 3 := Nat.lt_of_lt_of_le h4 (Nat.pow_le_pow_right (by decide) hd)
    rw [h2]
    exact ⟨fun z => absurd z (nI_pos (by omega)), fun _ => h3⟩
theorem nI_60 {i k : Nat} : 60 * nI i + nI k = nI (60 * i + k) := by
  have e : (60 : Int32) * nI i = nI (60 * i) := (Int32.ofNat_mul 60 i).symm
  rw [e, nI_add]
theorem wHyp_of {S : MS} {n i q : Nat} {t p m f : Int32} (hN : S.1 28 = nI n) (hn : n ≤ 80) (hi : i < 10) (hq : q ≤ 60) (h32 : S.2 32 i = nI q) (hok : okT (btext S (nI i)) q) (hp : vp_in p 12) (ht : vp_in (m_hour t) 12) : wHyp S n (nI i) t p m f ∧ qlen S (nI i) = q := by
  have hi2 : (nI i).toNatClampNeg = i := nI_clamp (by omega)
  have hql : qlen S (nI i) = q := by rw [qlen, hi2, h32, nI_clamp (by omega)]
  refine ⟨⟨⟨hN, hn⟩, ?_, vp_in_nI hi (by decide), hp, ht, ?_, ?_, ?_⟩, hql⟩
  · rw [hql, hi2]
    exact ⟨h32, hq⟩
  · intro k hk
    rw [hql] at hk
    rw [nI_60]
    exact vp_in_nI (by omega) (by decide)
  · intro k hk
    rw [hql] at hk
    have hs : ∀ j, j < k → stOK (btext (vf_upd S.1 35 0, S.2) (nI i)) j := fun j hj => hok.1 j (by omega)
    obtain ⟨h1, h2, h3⟩ := wN_ev (T := (vf_upd S.1 35 0, S.2)) (n := n) (i := nI i) (t := t) (p := p) (m := m) (f := f) (show vf_upd S.1 35 0 35 = 0 from if_pos rfl) hs
    have hI := evP_I (env := fun c => r_named (vf_upd S.1 35 0, S.2) n c t p m f) hs
    obtain ⟨hd, hl⟩ := okN hs
    obtain ⟨g1, g2, g3, g4, g5⟩ := hok.1 k hk
    refine ⟨_, h1.1, ?_⟩
    have ec : (wN (vf_upd S.1 35 0, S.2) n (nI i) t p m f k).1.2 31 (60 * nI i + nI k).toNatClampNeg = btext S (nI i) k := congrFun (h3.2 31 (by decide)) _
    rw [ec, h2]
    generalize evP (fun c => r_named (vf_upd S.1 35 0, S.2) n c t p m f) (btext (vf_upd S.1 35 0, S.2) (nI i)) k = s at hI
    obtain ⟨l1, l2⟩ := hI.len hd
    have hnm : ¬ (48 ≤ btext S (nI i) k ∧ btext S (nI i) k ≤ 57) → ¬ pTwo (btext S (nI i) k) → ¬ btext S (nI i) k = 33 → ¬ btext S (nI i) k = 32 → lieN (btext S (nI i)) k < 20 := by
      intro q0 q1 q2 q3
      have : laysB (btext S (nI i)) k = true := by
        refine decide_eq_true (Or.inr ?_)
        rcases g1 with g | g | g | g | g
        · exact absurd g q0
        · exact g
        · exact absurd g q1
        · exact absurd g q2
        · exact absurd g q3
      have := g3 this
      have hl' : lieN (btext S (nI i)) k ≤ 20 := hl
      omega
    have hl' : lieN (btext S (nI i)) k ≤ 20 := hl
    intro q0
    constructor
    · intro hx
      have l3 : s.1.length + 1 = lieN (btext S (nI i)) k := l2 hx
      refine ⟨by omega, fun z => ?_, fun a1 a2 a3 => ?_⟩
      · have := g4 z
        omega
      · have := hnm q0 a1 a2 a3
        omega
    · intro hx
      have l3 : s.1.length = lieN (btext S (nI i)) k := l1 hx
      refine ⟨fun z => ?_, fun z => ?_, fun a1 a2 a3 => ?_⟩
      · have := g4 z
        omega
      · have := g5 z
        omega
      · have := hnm q0 a1 a2 a3
        omega
  · rw [hql]
    have hs : ∀ j, j < q → stOK (btext (vf_upd S.1 35 0, S.2) (nI i)) j := fun j hj => hok.1 j hj
    obtain ⟨h1, h2, h3⟩ := wN_ev (T := (vf_upd S.1 35 0, S.2)) (n := n) (i := nI i) (t := t) (p := p) (m := m) (f := f) (show vf_upd S.1 35 0 35 = 0 from if_pos rfl) hs
    have hI := evP_I (env := fun c => r_named (vf_upd S.1 35 0, S.2) n c t p m f) hs
    obtain ⟨hd, hl⟩ := okN hs
    intro hx
    rw [h2] at hx
    have l3 := (hI.len hd).2 hx
    have l4 : lieN (btext (vf_upd S.1 35 0, S.2) (nI i)) q = 1 := hok.2
    rw [h1.1]
    exact vp_in_nI (by omega) (by decide)
theorem rW_ev {S : MS} {n i q : Nat} {t p m f : Int32} (hi : i < 10) (hq : q ≤ 60) (h32 : S.2 32 i = nI q) (hok : okT (btext S (nI i)) q) : rW S n (nI i) t p m f = evR (fun c => r_named S n c t p m f) (btext S (nI i)) q ∧ pR S (sW S n (nI i) t p m f) := by
  have hi2 : (nI i).toNatClampNeg = i := nI_clamp (by omega)
  have hql : qlen S (nI i) = q := by rw [qlen, hi2, h32, nI_clamp (by omega)]
  have hs : ∀ j, j < q → stOK (btext (vf_upd S.1 35 0, S.2) (nI i)) j := fun j hj => hok.1 j hj
  obtain ⟨h1, h2, h3⟩ := wN_ev (T := (vf_upd S.1 35 0, S.2)) (n := n) (i := nI i) (t := t) (p := p) (m := m) (f := f) (show vf_upd S.1 35 0 35 = 0 from if_pos rfl) hs
  have hI := evP_I (env := fun c => r_named (vf_upd S.1 35 0, S.2) n c t p m f) hs
  obtain ⟨hd, hl⟩ := okN hs
  have h0 : pR S (vf_upd S.1 35 0, S.2) := ⟨fun k hk => if_neg hk, fun _ _ => rfl⟩
  have henv : (fun c => r_named (vf_upd S.1 35 0, S.2) n c t p m f) = (fun c => r_named S n c t p m f) := funext fun c => r_named_of h0 n c t p m f
  rw [henv] at h1 h2 hI
  have l4 : lieN (btext (vf_upd S.1 35 0, S.2) (nI i)) q = 1 := hok.2
  have hb : btext (vf_upd S.1 35 0, S.2) (nI i) = btext S (nI i) := rfl
  rw [hb] at h1 h2 hI l4 hd
  rw [rW, sW, hql, r_work, s_work, evR, h2]
  obtain ⟨l1, l2⟩ := hI.len hd
  generalize evP (fun c => r_named S n c t p m f) (btext S (nI i)) q = s at h1 hI l1 l2
  by_cases e : s.2 < 0
  · rw [if_pos e, if_pos e]
    refine ⟨?_, h0.trans h3⟩
    have := l1 e
    rw [h1.2 0 (by omega), show s.1.length - 1 - 0 = 0 from by omega]
    cases s.1 with
    | nil => rfl
    | cons a r => rfl
  · rw [if_neg e, if_neg e]
    have := l2 e
    have h0l : s.1.length = 0 := by omega
    have p2 := h1.lay (v := s.2) (by omega)
    refine ⟨?_, h0.trans h3.lay⟩
    rw [p2.2 0 (by rw [List.length_cons]; omega), List.length_cons, h0l]
    rfl
theorem k_W2 {S : MS} {n i q d : Nat} {t p m f : Int32} (hN : S.1 28 = nI n) (hn : n ≤ 80) (hi : i < 10) (hq : q ≤ 60) (h32 : S.2 32 i = nI q) (hok : okT (btext S (nI i)) q) (hp : vp_in p 12) (ht : vp_in (m_hour t) 12) :
    CM Y_X12_workedOut (d + 2) [.int (nI i), .int t, .int p, .int m, .int f] S (fun r S2 => r = some (.int (evR (fun c => r_named S n c t p m f) (btext S (nI i)) q)) ∧ pR S S2) := by
  refine (k_W (wHyp_of hN hn hi hq h32 hok hp ht).1).weaken (fun r S2 z => ?_)
  obtain ⟨e1, e2⟩ := rW_ev (n := n) (t := t) (p := p) (m := m) (f := f) hi hq h32 hok
  rw [← e1]
  exact ⟨z.1, by rw [z.2]; exact e2⟩
/-! the rules of a state: each stored text has no fault -/
def rOK (S : MS) (u : Nat) : Prop := ∀ i, i < u → ∃ q, q ≤ 60 ∧ S.2 32 i = nI q ∧ okT (btext S (nI i)) q
def rlen (S : MS) (i : Nat) : Nat := (S.2 32 i).toNatClampNeg
def rEv (S : MS) (n i : Nat) (t p m f : Int32) : Int32 := evR (fun c => r_named S n c t p m f) (btext S (nI i)) (rlen S i)
theorem rEv_of {S T : MS} (h : pR S T) (n i : Nat) (t p m f : Int32) : rEv T n i t p m f = rEv S n i t p m f := by
  have e1 : (fun c => r_named T n c t p m f) = (fun c => r_named S n c t p m f) := funext fun c => r_named_of h n c t p m f
  have e2 : btext T (nI i) = btext S (nI i) := funext fun k => congrFun (h.2 31 (by decide)) _
  rw [rEv, rEv, e1, e2, rlen, rlen, h.2 32 (by decide)]
theorem rOK.len {S : MS} {u i : Nat} (h : rOK S u) (hi : i < u) : rlen S i ≤ 60 ∧ S.2 32 i = nI (rlen S i) ∧ okT (btext S (nI i)) (rlen S i) := by
  obtain ⟨q, h1, h2, h3⟩ := h i hi
  have e : rlen S i = q := by rw [rlen, h2, nI_clamp (by omega)]
  rw [e]
  exact ⟨h1, h2, h3⟩
theorem rOK.of {S T : MS} {u : Nat} (h : rOK S u) (hR : pR S T) : rOK T u := by
  intro i hi
  obtain ⟨q, h1, h2, h3⟩ := h i hi
  refine ⟨q, h1, by rw [hR.2 32 (by decide)]; exact h2, ?_⟩
  rw [show btext T (nI i) = btext S (nI i) from funext fun k => congrFun (hR.2 31 (by decide)) _]
  exact h3
theorem k_rEv {S T : MS} {n u i d : Nat} {t p m f : Int32} (hR : pR S T) (hN : S.1 28 = nI n) (hn : n ≤ 80) (hr : rOK S u) (hu : u ≤ 10) (hi : i < u) (hp : vp_in p 12) (ht : vp_in (m_hour t) 12) :
    CM Y_X12_workedOut (d + 2) [.int (nI i), .int t, .int p, .int m, .int f] T (fun r S2 => r = some (.int (rEv S n i t p m f)) ∧ pR S S2) := by
  obtain ⟨h1, h2, h3⟩ := (hr.of hR).len hi
  refine (k_W2 ((hR.1 28 (by decide)).trans hN) hn (by omega) h1 h2 h3 hp ht).weaken (fun r S2 z => ?_)
  rw [← rEv_of hR]
  exact ⟨z.1, hR.trans z.2⟩
/-! the fault of a text -/
def stB (b : Nat → Int32) (k : Nat) : Bool := decide (((48 ≤ b k ∧ b k ≤ 57) ∨ pName (b k) ∨ pTwo (b k) ∨ b k = 33 ∨ b k = 32) ∧ ¬ digN b (k + 1) = 4 ∧ (laysB b k = true → ¬ lieN b k = 20) ∧ (pTwo (b k) → 2 ≤ lieN b k) ∧ (b k = 33 → 1 ≤ lieN b k))
theorem stB_iff {b : Nat → Int32} {k : Nat} : stB b k = true ↔ stOK b k := decide_eq_true_iff
def ffN (b : Nat → Int32) : Nat → Nat → Int32
  | 0, k => if lieN b k = 1 then -1 else nI k
  | j + 1, k => if stB b k = true then ffN b j (k + 1) else nI k
theorem fdig_eq {S : MS} {k : Nat} : fdig S k (nI (digN (S.2 29) k)) = nI (digN (S.2 29) (k + 1)) := by
  unfold fdig
  by_cases q : 48 ≤ S.2 29 k ∧ S.2 29 k ≤ 57
  · rw [if_neg (ib_n.mpr q), digN, if_pos q, nI_1]
  · rw [if_pos (ib_0.mpr q), digN, if_neg q]
    rfl
theorem flay_eq {S : MS} {k : Nat} (h : digN (S.2 29) k ≤ 3) : flay S k (nI (digN (S.2 29) k)) = if laysB (S.2 29) k = true then 1 else 0 := by
  have h4 : digN (S.2 29) (k + 1) ≤ 4 := by
    simp only [digN]
    split <;> omega
  rw [flay, fdig_eq]
  by_cases q : digN (S.2 29) (k + 1) = 1
  · rw [if_pos (show nI (digN (S.2 29) (k + 1)) = 1 by rw [q]; rfl), if_pos (show laysB (S.2 29) k = true from decide_eq_true (Or.inl q))]
  · have q2 : ¬ nI (digN (S.2 29) (k + 1)) = 1 := fun e => q ((nI_eq (b := 1) (by omega) (by decide)).mp e)
    rw [if_neg q2]
    by_cases q3 : pName (S.2 29 k)
    · rw [if_neg (ib_n.mpr q3), if_pos (show laysB (S.2 29) k = true from decide_eq_true (Or.inr q3))]
    · rw [if_pos (ib_0.mpr q3), if_neg]
      intro e
      rcases of_decide_eq_true e with e | e
      · exact q e
      · exact q3 e
theorem fkn_eq {S : MS} {k : Nat} : fkn S k = 0 ↔ ¬ ((48 ≤ S.2 29 k ∧ S.2 29 k ≤ 57) ∨ pName (S.2 29 k) ∨ pTwo (S.2 29 k) ∨ S.2 29 k = 33 ∨ S.2 29 k = 32) := by
  unfold fkn
  by_cases q : 48 ≤ S.2 29 k ∧ S.2 29 k ≤ 57
  · rw [if_neg (ib_n.mpr q)]
    exact ⟨fun h => absurd h (by decide), fun h => absurd (Or.inl q) h⟩
  · rw [if_pos (ib_0.mpr q)]
    by_cases q2 : pName (S.2 29 k)
    · rw [if_neg (ib_n.mpr q2)]
      exact ⟨fun h => absurd h (by decide), fun h => absurd (Or.inr (Or.inl q2)) h⟩
    · rw [if_pos (ib_0.mpr q2)]
      by_cases q3 : pTwo (S.2 29 k)
      · rw [if_neg (ib_n.mpr q3)]
        exact ⟨fun h => absurd h (by decide), fun h => absurd (Or.inr (Or.inr (Or.inl q3))) h⟩
      · rw [if_pos (ib_0.mpr q3)]
        by_cases q4 : S.2 29 k = 33
        · rw [if_pos q4]
          exact ⟨fun h => absurd h (by decide), fun h => absurd (Or.inr (Or.inr (Or.inr (Or.inl q4)))) h⟩
        · rw [if_neg q4]
          by_cases q5 : S.2 29 k = 32
          · rw [if_pos q5]
            exact ⟨fun h => absurd h (by decide), fun h => absurd (Or.inr (Or.inr (Or.inr (Or.inr q5)))) h⟩
          · rw [if_neg q5]
            refine ⟨fun _ => ?_, fun _ => rfl⟩
            rintro (h | h | h | h | h)
            · exact q h
            · exact q2 h
            · exact q3 h
            · exact q4 h
            · exact q5 h
theorem flt_ff {S : MS} : ∀ (j k : Nat), (∀ i, i < k → stOK (S.2 29) i) → r_fltF S j k (nI (lieN (S.2 29) k)) (nI (digN (S.2 29) k)) = ffN (S.2 29) j k
  | 0, k, h => by
    obtain ⟨-, hl⟩ := okN h
    rw [r_fltF, ffN]
    by_cases e : lieN (S.2 29) k = 1
    · rw [if_pos e, if_pos (show nI (lieN (S.2 29) k) = 1 by rw [e]; rfl)]
    · rw [if_neg e, if_neg (show ¬ nI (lieN (S.2 29) k) = 1 from fun z => e ((nI_eq (b := 1) (by omega) (by decide)).mp z))]
  | j + 1, k, h => by
    obtain ⟨hd, hl⟩ := okN h
    have h4 : digN (S.2 29) (k + 1) ≤ 4 := by
      simp only [digN]
      split <;> omega
    have e4 : fdig S k (nI (digN (S.2 29) k)) = 4 ↔ digN (S.2 29) (k + 1) = 4 := by
      rw [fdig_eq]
      exact nI_eq (b := 4) (by omega) (by decide)
    have e20 : nI (lieN (S.2 29) k) = 20 ↔ lieN (S.2 29) k = 20 := nI_eq (b := 20) (by omega) (by decide)
    have e2 : nI (lieN (S.2 29) k) < 2 ↔ lieN (S.2 29) k < 2 := nI_ltI (b := 2) (by omega) (by decide)
    have e1 : nI (lieN (S.2 29) k) < 1 ↔ lieN (S.2 29) k < 1 := nI_ltI (b := 1) (by omega) (by decide)
    have el : ¬ flay S k (nI (digN (S.2 29) k)) = 0 ↔ laysB (S.2 29) k = true := by
      rw [flay_eq hd]
      by_cases e : laysB (S.2 29) k = true
      · rw [if_pos e]
        exact ⟨fun _ => e, fun _ => by decide⟩
      · rw [if_neg e]
        exact ⟨fun z => absurd rfl z, fun z => absurd z e⟩
    rw [r_fltF, ffN]
    by_cases q : stOK (S.2 29) k
    · obtain ⟨g1, g2, g3, g4, g5⟩ := id q
      rw [if_pos (stB_iff.mpr q), if_neg]
      · have el2 : flie S k (nI (lieN (S.2 29) k)) (nI (digN (S.2 29) k)) = nI (lieN (S.2 29) (k + 1)) := by
          rw [flie, flay_eq hd, lieN]
          by_cases e : laysB (S.2 29) k = true
          · rw [if_pos e, if_pos e, if_neg (by decide), nI_1]
          · rw [if_neg e, if_neg e, if_pos rfl]
            by_cases e3 : pTwo (S.2 29 k)
            · have := g4 e3
              rw [if_neg (ib_n.mpr e3), if_pos e3]
              obtain ⟨z, hz⟩ : ∃ z, lieN (S.2 29) k = z + 1 := ⟨lieN (S.2 29) k - 1, by omega⟩
              rw [hz, Nat.add_sub_cancel, ← nI_pred z]
              exact (Int32.sub_eq_add_neg _ _).symm
            · rw [if_pos (ib_0.mpr e3), if_neg e3]
              exact Int32.add_zero _
        rw [el2, fdig_eq]
        exact flt_ff j (k + 1) (fun i hi => by
          by_cases z : i = k
          · rw [z]; exact q
          · exact h i (by omega))
      · rintro (z | z | ⟨z1, z2⟩ | ⟨z1, z2⟩ | ⟨z1, z2⟩)
        · exact fkn_eq.mp z g1
        · exact g2 (e4.mp z)
        · exact g3 (el.mp z1) (e20.mp z2)
        · have := g4 (ib_n.mp z1)
          have := e2.mp z2
          omega
        · have := g5 z1
          have := e1.mp z2
          omega
    · rw [if_neg (fun z => q (stB_iff.mp z)), if_pos]
      by_cases a1 : (48 ≤ S.2 29 k ∧ S.2 29 k ≤ 57) ∨ pName (S.2 29 k) ∨ pTwo (S.2 29 k) ∨ S.2 29 k = 33 ∨ S.2 29 k = 32
      · by_cases a2 : digN (S.2 29) (k + 1) = 4
        · exact Or.inr (Or.inl (e4.mpr a2))
        · by_cases a3 : laysB (S.2 29) k = true ∧ lieN (S.2 29) k = 20
          · exact Or.inr (Or.inr (Or.inl ⟨el.mpr a3.1, e20.mpr a3.2⟩))
          · by_cases a4 : pTwo (S.2 29 k) ∧ lieN (S.2 29) k < 2
            · exact Or.inr (Or.inr (Or.inr (Or.inl ⟨ib_n.mpr a4.1, e2.mpr a4.2⟩)))
            · by_cases a5 : S.2 29 k = 33 ∧ lieN (S.2 29) k < 1
              · exact Or.inr (Or.inr (Or.inr (Or.inr ⟨a5.1, e1.mpr a5.2⟩)))
              · refine absurd ⟨a1, a2, fun z y => a3 ⟨z, y⟩, fun z => ?_, fun z => ?_⟩ q
                · rcases Nat.lt_or_ge (lieN (S.2 29) k) 2 with y | y
                  · exact absurd ⟨z, y⟩ a4
                  · exact y
                · rcases Nat.lt_or_ge (lieN (S.2 29) k) 1 with y | y
                  · exact absurd ⟨z, y⟩ a5
                  · exact y
      · exact Or.inl (fkn_eq.mpr a1)
theorem r_fault_ff {S : MS} {q : Nat} : r_fault S q = ffN (S.2 29) q 0 := flt_ff q 0 (fun i hi => absurd hi (Nat.not_lt_zero _))
theorem ffN_ok {b : Nat → Int32} : ∀ {j k : Nat}, k + j < 1000 → (∀ i, i < k → stOK b i) → (ffN b j k < 0 → ffN b j k = -1 ∧ okT b (k + j)) ∧ (¬ ffN b j k < 0 → ¬ okT b (k + j))
  | 0, k, h, hk => by
    rw [ffN]
    by_cases e : lieN b k = 1
    · rw [if_pos e]
      exact ⟨fun _ => ⟨rfl, hk, e⟩, fun z => absurd (by decide) z⟩
    · rw [if_neg e]
      exact ⟨fun z => absurd z (nI_pos (by omega)), fun _ z => e z.2⟩
  | j + 1, k, h, hk => by
    rw [ffN]
    by_cases e : stB b k = true
    · rw [if_pos e, show k + (j + 1) = (k + 1) + j from by omega]
      exact ffN_ok (by omega) (fun i hi => by
          by_cases z : i = k
          · rw [z]; exact stB_iff.mp e
          · exact hk i (by omega))
    · rw [if_neg e]
      exact ⟨fun z => absurd z (nI_pos (by omega)), fun _ z => e (stB_iff.mpr (z.1 k (by omega)))⟩
