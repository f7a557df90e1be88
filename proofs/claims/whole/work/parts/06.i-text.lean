/-! ===== texts of rules: faults, steps ===== -/
theorem tb_tab : ∀ j, j < 256 → tbN (nI j) = if pTwo (nI j) then 2 else if nI j = 33 then 1 else if (48 ≤ nI j ∧ nI j ≤ 57) ∨ pName (nI j) then 0 else -1 := by decide +kernel
theorem tb_eq {c : Int32} (h : 0 ≤ c ∧ c ≤ 255) : tbN c = if pTwo c then 2 else if c = 33 then 1 else if (48 ≤ c ∧ c ≤ 57) ∨ pName c then 0 else -1 := by
  obtain ⟨j, hj, rfl⟩ := nI_of (Int32.not_lt.mpr h.1)
  exact tb_tab j (Nat.lt_succ_of_le ((nI_leI (b := 255) hj (by decide)).mp h.2))
theorem dgt_eq {b : Nat → Int32} {k : Nat} : dgt (b k) (nI (digN b k)) = nI (digN b (k + 1)) := by
  rw [dgt, digN]
  by_cases h : 48 ≤ b k ∧ b k ≤ 57
  · rw [if_pos h, if_pos h, nI_1]
  · rw [if_neg h, if_neg h]; rfl
theorem cfF_ff {S : MS} (hb : ∀ j, 0 ≤ S.2 29 j ∧ S.2 29 j ≤ 255) : ∀ (j k : Nat), (∀ i, i < k → stOK (S.2 29) i) → cfF S j k (nI (lieN (S.2 29) k)) (nI (digN (S.2 29) k)) = ffN (S.2 29) j k
  | 0, k, hk => by
    obtain ⟨-, okl⟩ := okN hk
    rw [cfF, ffN]
    by_cases h : lieN (S.2 29) k = 1
    · rw [if_pos h, h]; rfl
    · have e1 : (nI (lieN (S.2 29) k) = 1) ↔ lieN (S.2 29) k = 1 := nI_eq (b := 1) (by omega) (by decide)
      rw [if_neg h, if_neg (fun z => h (e1.mp z))]
  | j + 1, k, hk => by
    obtain ⟨okd, okl⟩ := okN hk
    have ih := cfF_ff hb j (k + 1)
    have hs : stOK (S.2 29) k → ∀ i, i < k + 1 → stOK (S.2 29) i := fun h i hi => by
      by_cases q : i = k
      · rw [q]; exact h
      · exact hk i (by omega)
    have hdig : digN (S.2 29) (k + 1) ≤ 4 := by
      rw [digN]
      split <;> omega
    have hd0 : ¬ (48 ≤ S.2 29 k ∧ S.2 29 k ≤ 57) → digN (S.2 29) (k + 1) = 0 := fun h => by rw [digN, if_neg h]
    have hd1 : (48 ≤ S.2 29 k ∧ S.2 29 k ≤ 57) → 1 ≤ digN (S.2 29) (k + 1) := fun h => by rw [digN, if_pos h]; omega
    rw [cfF, ffN, dgt_eq]
    have e3 : (3 < nI (digN (S.2 29) (k + 1))) ↔ 3 < digN (S.2 29) (k + 1) := nI_ltI (a := 3) (by decide) (by omega)
    have e1 : (1 < nI (digN (S.2 29) (k + 1))) ↔ 1 < digN (S.2 29) (k + 1) := nI_ltI (a := 1) (by decide) (by omega)
    have e2 : (nI (lieN (S.2 29) k) < 2) ↔ lieN (S.2 29) k < 2 := nI_ltI (b := 2) (by omega) (by decide)
    have e0 : (nI (lieN (S.2 29) k) < 1) ↔ lieN (S.2 29) k < 1 := nI_ltI (b := 1) (by omega) (by decide)
    have en0 : ¬ nI (lieN (S.2 29) k) < 0 := nI_pos (by omega)
    have e20 : ∀ x : Nat, x ≤ 100 → ((20 < nI x) ↔ 20 < x) := fun x hx => nI_ltI (a := 20) (by decide) (by omega)
    by_cases h4 : digN (S.2 29) (k + 1) = 4
    · rw [if_pos (e3.mpr (by omega)), if_neg (fun z => (stB_iff.mp z).2.1 h4)]
    · rw [if_neg (fun z => by have := e3.mp z; omega)]
      by_cases hsp : 1 < digN (S.2 29) (k + 1) ∨ S.2 29 k = 32
      · have hnl : ¬ (digN (S.2 29) (k + 1) = 1 ∨ pName (S.2 29 k)) ∧ ¬ pTwo (S.2 29 k) ∧ ¬ S.2 29 k = 33 ∧ ((48 ≤ S.2 29 k ∧ S.2 29 k ≤ 57) ∨ S.2 29 k = 32) := by
          rcases hsp with z | z
          · have hdg : 48 ≤ S.2 29 k ∧ S.2 29 k ≤ 57 := Classical.byContradiction (fun q => by have := hd0 q; omega)
            obtain ⟨d1, d2, d3, d4⟩ := dg_two hdg
            exact ⟨fun q => q.elim (fun q => by omega) d4, d1, d2, Or.inl hdg⟩
          · have hdg : ¬ (48 ≤ S.2 29 k ∧ S.2 29 k ≤ 57) := by rw [z]; decide
            refine ⟨fun q => q.elim (fun q => by have := hd0 hdg; omega) ?_, ?_, ?_, Or.inr z⟩ <;> rw [z] <;> decide
        have hlB : laysB (S.2 29) k = false := decide_eq_false hnl.1
        have hok : stOK (S.2 29) k := ⟨hnl.2.2.2.elim Or.inl (fun z => Or.inr (Or.inr (Or.inr (Or.inr z)))), h4, fun z => (by rw [hlB] at z; cases z), fun z => absurd z hnl.2.1, fun z => absurd z hnl.2.2.1⟩
        rw [if_pos (hsp.imp e1.mpr id), if_pos (stB_iff.mpr hok), ← ih (hs hok)]
        rw [show lieN (S.2 29) (k + 1) = lieN (S.2 29) k from by rw [lieN, hlB, if_neg (by decide), if_neg hnl.2.1]]
      · rw [if_neg (fun z => hsp (z.imp e1.mp id)), tb_eq (hb k)]
        have h32 : ¬ S.2 29 k = 32 := fun z => hsp (Or.inr z)
        have hd2 : ¬ 1 < digN (S.2 29) (k + 1) := fun z => hsp (Or.inl z)
        by_cases hT : pTwo (S.2 29 k)
        · obtain ⟨t1, t2, t3⟩ := two_33 hT
          have hdg : ¬ (48 ≤ S.2 29 k ∧ S.2 29 k ≤ 57) := fun z => (dg_two z).1 hT
          have hlB : laysB (S.2 29) k = false := decide_eq_false (fun z => z.elim (fun z => by have := hd0 hdg; omega) t3)
          rw [if_pos hT]
          by_cases h2 : lieN (S.2 29) k < 2
          · rw [if_pos (Or.inr (e2.mpr h2)), if_neg (fun z => by have := (stB_iff.mp z).2.2.2.1 hT; omega)]
          · have hok : stOK (S.2 29) k := ⟨Or.inr (Or.inr (Or.inl hT)), h4, fun z => (by rw [hlB] at z; cases z), fun _ => by omega, fun z => absurd z t1⟩
            have en : nI (lieN (S.2 29) k) + (1 - 2) = nI (lieN (S.2 29) (k + 1)) := by
              rw [lieN, hlB, if_neg (by decide), if_pos hT, show ((1 : Int32) - 2) = -1 from by decide, ← nI_sub1 (by omega)]
              exact (Int32.sub_eq_add_neg _ _).symm
            rw [if_neg (fun z => z.elim (by decide) (fun z => h2 (e2.mp z))), en]
            have hl1 : lieN (S.2 29) (k + 1) ≤ 20 := (okN (hs hok)).2
            rw [if_neg (fun z => by have := (e20 _ (by omega)).mp z; omega), if_pos (stB_iff.mpr hok), ih (hs hok)]
        · rw [if_neg hT]
          by_cases h33 : S.2 29 k = 33
          · rw [if_pos h33]
            have hdg : ¬ (48 ≤ S.2 29 k ∧ S.2 29 k ≤ 57) := by rw [h33]; decide
            have hnn : ¬ pName (S.2 29 k) := by rw [h33]; decide
            have hlB : laysB (S.2 29) k = false := decide_eq_false (fun z => z.elim (fun z => by have := hd0 hdg; omega) hnn)
            by_cases h2 : lieN (S.2 29) k < 1
            · rw [if_pos (Or.inr (e0.mpr h2)), if_neg (fun z => by have := (stB_iff.mp z).2.2.2.2 h33; omega)]
            · have hok : stOK (S.2 29) k := ⟨Or.inr (Or.inr (Or.inr (Or.inl h33))), h4, fun z => (by rw [hlB] at z; cases z), fun z => absurd z hT, fun _ => by omega⟩
              have en : nI (lieN (S.2 29) k) + (1 - 1) = nI (lieN (S.2 29) (k + 1)) := by
                rw [lieN, hlB, if_neg (by decide), if_neg hT, show ((1 : Int32) - 1) = 0 from by decide, Int32.add_zero]
              rw [if_neg (fun z => z.elim (by decide) (fun z => h2 (e0.mp z))), en]
              have hl1 : lieN (S.2 29) (k + 1) ≤ 20 := (okN (hs hok)).2
              rw [if_neg (fun z => by have := (e20 _ (by omega)).mp z; omega), if_pos (stB_iff.mpr hok), ih (hs hok)]
          · rw [if_neg h33]
            by_cases hln : (48 ≤ S.2 29 k ∧ S.2 29 k ≤ 57) ∨ pName (S.2 29 k)
            · have hlB : laysB (S.2 29) k = true := decide_eq_true (hln.imp (fun z => by have := hd1 z; omega) id)
              rw [if_pos hln, if_neg (fun z => z.elim (by decide) en0)]
              have en : nI (lieN (S.2 29) k) + (1 - 0) = nI (lieN (S.2 29) (k + 1)) := by
                rw [lieN, hlB, if_pos rfl, show ((1 : Int32) - 0) = 1 from by decide, nI_1]
              have el : lieN (S.2 29) (k + 1) = lieN (S.2 29) k + 1 := by rw [lieN, hlB, if_pos rfl]
              rw [en, el]
              by_cases h20 : lieN (S.2 29) k = 20
              · rw [if_pos ((e20 _ (by omega)).mpr (by omega)), if_neg (fun z => (stB_iff.mp z).2.2.1 hlB h20)]
              · have hok : stOK (S.2 29) k := ⟨hln.imp id Or.inl, h4, fun _ => h20, fun z => absurd z hT, fun z => absurd z h33⟩
                rw [if_neg (fun z => by have := (e20 _ (by omega)).mp z; omega), if_pos (stB_iff.mpr hok), ← el, ih (hs hok)]
            · rw [if_neg hln, if_pos (Or.inl (by decide)), if_neg (fun z => ?_)]
              rcases (stB_iff.mp z).1 with q | q | q | q | q
              · exact hln (Or.inl q)
              · exact hln (Or.inr q)
              · exact hT q
              · exact h33 q
              · exact h32 q
theorem fault_eq {S : MS} {q : Nat} (hb : ∀ j, 0 ≤ S.2 29 j ∧ S.2 29 j ≤ 255) : cfF S q 0 0 0 = r_fault S q := by
  rw [r_fault_ff]
  exact cfF_ff hb q 0 (fun i hi => absurd hi (Nat.not_lt_zero _))
/-! steps -/
theorem wkN_up {nm f : Nat → Int32} {i : Nat} {x : Int32} : ∀ t, t ≤ i → wkN nm (upd f i x) t = wkN nm f t
  | 0, _ => rfl
  | t + 1, h => by rw [wkN, wkN, wkN_up t (by omega), pk_un (by omega)]
theorem wkL_up {f : Nat → Int32} {i : Nat} {x : Int32} : ∀ t, t ≤ i → wkL (upd f i x) t = wkL f t
  | 0, _ => rfl
  | t + 1, h => by rw [wkL, wkL, wkL_up t (by omega), pk_un (by omega)]
abbrev wkC (f : Nat → Int32) (t : Nat) : Prop := wkL f t ≤ 20 ∧ (f t < 2000 → wkL f t < 20) ∧ (¬ f t < 2000 → f t = 2033 → 1 ≤ wkL f t) ∧ (¬ f t < 2000 → ¬ f t = 2033 → 2 ≤ wkL f t)
theorem st_name {c : Int32} (h : pName c) : stN c = 1000 + nmX c ∧ 0 ≤ nmX c ∧ nmX c < 11 ∧ stN c < 2000 ∧ ¬ stN c < 1000 ∧ stN c - 1000 = nmX c := by
  rcases h with rfl | rfl | rfl | rfl | rfl | rfl | rfl | rfl | rfl | rfl | rfl <;> decide
theorem st_two {c : Int32} (h : pTwo c) : ¬ stN c < 2000 ∧ ¬ stN c < 1000 ∧ ¬ stN c = 2033 ∧ stN c - 2000 = c := by
  rcases h with rfl | rfl | rfl | rfl | rfl | rfl | rfl | rfl <;> decide
theorem lt1k {w : Nat} (h : w < 1000) : nI w < 1000 := (nI_ltI (b := 1000) (by omega) (by decide)).mpr h
theorem lt2k {w : Nat} (h : w < 2000) : nI w < 2000 := (nI_ltI (b := 2000) (by omega) (by decide)).mpr h
theorem st_dig {c : Int32} (h : 48 ≤ c ∧ c ≤ 57) : stN c = c - 48 := by rw [stN, if_pos h]
/-- the steps of a text without a fault do what the text does -/
theorem ar_inv {env : Int32 → Int32} {nm b : Nat → Int32} (henv : ∀ c, pName c → nmV nm (nmX c) = env c) : ∀ k, (∀ j, j < k → stOK b j) →
    wkN nm (arS b k).1 (arS b k).2.1 = (if (evP env b k).2 < 0 then (evP env b k).1 else (evP env b k).2 :: (evP env b k).1) ∧
    (digN b k = 0 → (arS b k).2.2 = 0) ∧ (0 < digN b k → ¬ (arS b k).2.2 = 0 ∧ 0 < (arS b k).2.1 ∧ (arS b k).1 ((arS b k).2.1 - 1) = (evP env b k).2 ∧ wkN nm (arS b k).1 ((arS b k).2.1 - 1) = (evP env b k).1) ∧
    wkL (arS b k).1 (arS b k).2.1 = lieN b k ∧ (∀ t, t < (arS b k).2.1 → wkC (arS b k).1 t) ∧ (arS b k).2.1 ≤ k
  | 0, _ => ⟨rfl, fun _ => rfl, fun z => absurd z (Nat.lt_irrefl _), rfl, fun t ht => absurd ht (Nat.not_lt_zero _), Nat.le_refl _⟩
  | k + 1, hk => by
    have hk0 : ∀ j, j < k → stOK b j := fun j hj => hk j (by omega)
    obtain ⟨p1, p2, p3, p4, p5, p6⟩ := ar_inv henv k hk0
    obtain ⟨okd, okl⟩ := okN hk0
    have hI := evP_I (env := env) hk0
    obtain ⟨kn, k4, kl, kt, kb⟩ := hk k (Nat.lt_succ_self k)
    generalize hA : arS b k = A at p1 p2 p3 p4 p5 p6
    generalize hs : evP env b k = s at p1 p3 hI
    obtain ⟨f, z, d⟩ := A
    simp only at p1 p2 p3 p4 p5 p6
    have hx : d = 0 ↔ digN b k = 0 := ⟨fun q => Classical.byContradiction (fun y => (p3 (by omega)).1 q), p2⟩
    have hnum : (0 < digN b k → ¬ s.2 < 0) ∧ (digN b k = 0 → s.2 = -1) := by
      refine ⟨fun q => ?_, fun q => ?_⟩
      · rcases hI with ⟨y, -⟩ | ⟨-, ⟨v, hv, ev⟩, -⟩
        · omega
        · rw [ev]
          have : 10 ^ digN b k ≤ 10 ^ 3 := Nat.pow_le_pow_right (by decide) okd
          exact nI_pos (by omega)
      · rcases hI with ⟨-, y, -⟩ | ⟨y, -⟩
        · exact y
        · omega
    rw [evP, hs, evS, arS, hA]
    by_cases hd : 48 ≤ b k ∧ b k ≤ 57
    · have hdig : digN b (k + 1) = digN b k + 1 := by rw [digN, if_pos hd]
      obtain ⟨w, hw, ew⟩ := dg_of hd
      obtain ⟨d1, d2, d3, d4⟩ := dg_two hd
      have hib : ¬ ib (48 ≤ b k ∧ b k ≤ 57) = 0 := fun q => ib_0.mp q hd
      rw [if_pos hd]
      simp only
      by_cases h0 : digN b k = 0
      · have ed : d = 0 := hx.mpr h0
        have es := hnum.2 h0
        have hc : ¬ ((48 ≤ b k ∧ b k ≤ 57) ∧ ¬ d = 0 ∧ 0 < z) := fun q => q.2.1 ed
        rw [if_neg hc, if_neg d3, if_neg hc, if_neg d3, es, if_neg (show ¬ (0 : Int32) ≤ -1 by decide)]
        rw [es, if_pos (show (-1 : Int32) < 0 by decide)] at p1
        have hv : stN (b k) = nI w := by rw [st_dig hd, ew, dg_sub]
        have hv2 : b k - 48 = nI w := by rw [ew, dg_sub]
        have hlay : laysB b k = true := decide_eq_true (Or.inl (by rw [hdig, h0]))
        rw [hv, hv2, if_neg (nI_pos (by omega))]
        refine ⟨?_, fun q => by omega, fun _ => ⟨hib, Nat.succ_pos _, ?_, ?_⟩, ?_, fun t ht => ?_, by omega⟩
        · rw [wkN, pk_us, wkN_up z (Nat.le_refl _), p1, wk1, if_pos (lt1k (by omega))]
        · rw [Nat.add_sub_cancel, pk_us]
        · rw [Nat.add_sub_cancel, wkN_up z (Nat.le_refl _), p1]
        · rw [wkL, pk_us, wkL_up z (Nat.le_refl _), p4, if_pos (lt2k (by omega)), lieN, hlay, if_pos rfl]
        · by_cases q : t = z
          · subst q
            refine ⟨(by rw [wkL_up t (Nat.le_refl _), p4]; exact okl), fun _ => (by rw [wkL_up t (Nat.le_refl _), p4]; have := kl hlay; omega), fun y => ?_, fun y => ?_⟩
            · rw [pk_us] at y; exact absurd (lt2k (by omega)) y
            · rw [pk_us] at y; exact absurd (lt2k (by omega)) y
          · have := p5 t (by omega)
            rw [wkC, wkL_up t (by omega), pk_un q]
            exact this
      · obtain ⟨q1, q2, q3, q4⟩ := p3 (by omega)
        have hc : (48 ≤ b k ∧ b k ≤ 57) ∧ ¬ d = 0 ∧ 0 < z := ⟨hd, q1, q2⟩
        have hs0 := hnum.1 (by omega)
        obtain ⟨v, hv, ev⟩ : ∃ v, v < 10 ^ digN b k ∧ s.2 = nI v := by
          rcases hI with ⟨y, -⟩ | ⟨-, y, -⟩
          · omega
          · exact y
        have hd2 : digN b k ≤ 2 := by omega
        have : 10 ^ digN b k ≤ 10 ^ 2 := Nat.pow_le_pow_right (by decide) hd2
        have hlay : laysB b k = false := decide_eq_false (fun y => y.elim (fun y => by omega) d4)
        have enew : (10 * s.2 + b k - 48 : Int32) = nI (10 * v + w) := by rw [ev, ew, dg_num]
        have enew2 : (s.2 * 10 + b k - 48 : Int32) = nI (10 * v + w) := by rw [Int32.mul_comm, enew]
        rw [if_pos hc, if_pos hc, q3, enew2, if_pos (Int32.not_lt.mp hs0), enew, if_neg (nI_pos (by omega))]
        obtain ⟨y, rfl⟩ : ∃ y, z = y + 1 := ⟨z - 1, by omega⟩
        rw [Nat.add_sub_cancel] at q3 q4
        rw [Nat.add_sub_cancel]
        have hlt : nI (10 * v + w) < 1000 := (nI_ltI (b := 1000) (by omega) (by decide)).mpr (by omega)
        have hlt2 : nI (10 * v + w) < 2000 := (nI_ltI (b := 2000) (by omega) (by decide)).mpr (by omega)
        have hold2 : f y < 2000 := by rw [q3, ev]; exact (nI_ltI (b := 2000) (by omega) (by decide)).mpr (by omega)
        refine ⟨?_, fun q => by omega, fun _ => ⟨hib, Nat.succ_pos _, ?_, ?_⟩, ?_, fun t ht => ?_, by omega⟩
        · rw [wkN, pk_us, wkN_up y (Nat.le_refl _), q4, wk1, if_pos hlt]
        · rw [pk_us]
        · rw [wkN_up y (Nat.le_refl _), q4]
        · rw [wkL, if_pos hold2] at p4
          rw [wkL, pk_us, wkL_up y (Nat.le_refl _), if_pos hlt2, lieN, hlay, if_neg (by decide), if_neg d1]
          exact p4
        · have := p5 t ht
          rw [wkC, wkL_up t (by omega)]
          by_cases q : t = y
          · subst q
            rw [pk_us]
            exact ⟨this.1, fun _ => this.2.1 hold2, fun z => absurd hlt2 z, fun z => absurd hlt2 z⟩
          · rw [pk_un q]
            exact this
    · have hdig : digN b (k + 1) = 0 := by rw [digN, if_neg hd]
      have hc : ¬ ((48 ≤ b k ∧ b k ≤ 57) ∧ ¬ d = 0 ∧ 0 < z) := fun q => hd q.1
      have hib : ib (48 ≤ b k ∧ b k ≤ 57) = 0 := by simp [ib, hd]
      rw [if_neg hd]
      simp only
      rw [if_neg hc, if_neg hc, ← p1]
      have hs1 : (if s.2 < 0 then s.2 else -1) = -1 := by
        by_cases q : digN b k = 0
        · rw [hnum.2 q]; decide
        · rw [if_neg (hnum.1 (by omega))]
      rw [hs1, if_pos (show (-1 : Int32) < 0 by decide)]
      have hnl : ¬ pName (b k) → laysB b k = false := fun q => decide_eq_false (fun y => y.elim (fun y => by omega) q)
      by_cases h32 : b k = 32
      · have hT : ¬ pTwo (b k) := by rw [h32]; decide
        have hN : ¬ pName (b k) := by rw [h32]; decide
        have h33 : ¬ b k = 33 := by rw [h32]; decide
        rw [if_pos h32, if_pos h32, evO, if_neg hT, if_neg h33, if_pos h32]
        exact ⟨rfl, fun _ => hib, fun q => by omega, by rw [p4, lieN, hnl hN, if_neg (by decide), if_neg hT], p5, by omega⟩
      · rw [if_neg h32, if_neg h32]
        have hold : ∀ t, t < z → wkC (upd f z (stN (b k))) t := fun t ht => by
          rw [wkC, wkL_up t (by omega), pk_un (by omega)]
          exact p5 t ht
        rcases kn with q | q | q | q | q
        · exact absurd q hd
        · obtain ⟨s1, s2, s3, s4, s5, s6⟩ := st_name q
          obtain ⟨n1, n2, n3⟩ := nm_two q
          have hlay : laysB b k = true := decide_eq_true (Or.inr q)
          rw [evO, if_neg n1, if_neg n2, if_neg n3]
          refine ⟨?_, fun _ => hib, fun y => by omega, ?_, fun t ht => ?_, by omega⟩
          · rw [wkN, pk_us, wkN_up z (Nat.le_refl _), wk1, if_neg s5, if_pos s4, s6, henv _ q]
          · rw [wkL, pk_us, wkL_up z (Nat.le_refl _), if_pos s4, p4, lieN, hlay, if_pos rfl]
          · by_cases y : t = z
            · subst y
              rw [wkC, wkL_up t (Nat.le_refl _), pk_us, p4]
              have := kl hlay
              exact ⟨okl, fun _ => by omega, fun y => absurd s4 y, fun y => absurd s4 y⟩
            · exact hold t (by omega)
        · obtain ⟨s1, s2, s3, s4⟩ := st_two q
          obtain ⟨t1, t2, t3⟩ := two_33 q
          rw [evO, if_pos q]
          refine ⟨?_, fun _ => hib, fun y => by omega, ?_, fun t ht => ?_, by omega⟩
          · rw [wkN, pk_us, wkN_up z (Nat.le_refl _), wk1, if_neg s2, if_neg s1, if_neg s3, s4]
          · rw [wkL, pk_us, wkL_up z (Nat.le_refl _), if_neg s1, if_neg s3, p4, lieN, hnl t3, if_neg (by decide), if_pos q]
          · by_cases y : t = z
            · subst y
              rw [wkC, wkL_up t (Nat.le_refl _), pk_us, p4]
              exact ⟨okl, fun y => absurd y s1, fun _ y => absurd y s3, fun _ _ => kt q⟩
            · exact hold t (by omega)
        · have hT : ¬ pTwo (b k) := by rw [q]; decide
          have hN : ¬ pName (b k) := by rw [q]; decide
          have hst : stN (b k) = 2033 := by rw [q]; decide
          rw [evO, if_neg hT, if_pos q]
          refine ⟨?_, fun _ => hib, fun y => by omega, ?_, fun t ht => ?_, by omega⟩
          · rw [wkN, pk_us, wkN_up z (Nat.le_refl _), wk1, hst, if_neg (by decide), if_neg (by decide), if_pos rfl]
          · rw [wkL, pk_us, wkL_up z (Nat.le_refl _), hst, if_neg (by decide), if_pos rfl, p4, lieN, hnl hN, if_neg (by decide), if_neg hT]
          · by_cases y : t = z
            · subst y
              rw [wkC, wkL_up t (Nat.le_refl _), pk_us, p4, hst]
              exact ⟨okl, fun y => absurd y (by decide), fun _ _ => kb q, fun _ y => absurd rfl y⟩
            · exact hold t (by omega)
        · exact absurd q h32
