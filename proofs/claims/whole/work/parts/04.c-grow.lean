def isOb (h : AH) (y : Nat) : Prop := ∃ (ci : Nat) (fs : List Value), h y = some (.inr (ci, fs)) ∧ ci < 14
theorem isOb.hu {h : AH} {y a : Nat} {e : AE} (hy : isOb h y) (n : y ≠ a) : isOb (hu h a e) y := by
  obtain ⟨ci, fs, e1, e2⟩ := hy
  exact ⟨ci, fs, by rw [hu_n n]; exact e1, e2⟩
theorem isOb.ne {h : AH} {y a : Nat} (hy : isOb h y) (ha : h a = none) : y ≠ a := by
  obtain ⟨ci, fs, e1, e2⟩ := hy
  intro z
  rw [z, ha] at e1
  cases e1
theorem isOb.neq {h : AH} {y a n : Nat} {C : String} {f : Nat → Option Nat} (hy : isOb h y) (ha : h a = some (Aq C n f)) : y ≠ a := by
  obtain ⟨ci, fs, e1, e2⟩ := hy
  intro z
  rw [z, ha] at e1
  cases e1
theorem nl_1 {c : Nat} (h1 : 1 ≤ c) (h2 : c ≤ 50000) : nI c + (if nI 1 < nI (c / 2) then nI (c / 2) else nI 1) = nI (c + max 1 (c / 2)) := by
  by_cases e : 1 < c / 2
  · rw [if_pos (nI_lt e (by omega)), nI_add]
    congr 1
    omega
  · rw [if_neg (fun z => e ((nI_ltI (by omega) (by omega)).mp z)), nI_add]
    congr 1
    omega
theorem jl_newLen {d : Nat} {G : Nat → Nat} {h : AH} {c : Nat} (h1 : 1 ≤ c) (h2 : c ≤ 50000) : Ct Y_J8_newLength_cabcc (d + 1) G 0 0 [.int (nI c), .int (nI 1), .int (nI (c / 2))] h (fun r h2 => r = some (.int (nI (c + max 1 (c / 2)))) ∧ h2 = h) := by
  refine Ct.ofn 1 rfl (Nat.le_of_ble_eq_true rfl) (by simp [Value.category]) ?_
  generalize hpost : (fun (r : Option Value) (h2 : AH) => r = some (.int (nI (c + max 1 (c / 2)))) ∧ h2 = h) = post
  show J Y_J8_newLength_cabcc (d + 1) G 0 0 0 [some (.int (nI c)), some (.int (nI 1)), some (.int (nI (c / 2))), none] [] h post
  refine J.iload_n 1 dJ8_newLength_cabcc_0 rfl rfl ?_
  refine J.iload_n 2 dJ8_newLength_cabcc_1 rfl rfl ?_
  refine J.iload_n 3 dJ8_newLength_cabcc_2 rfl rfl ?_
  refine J.mmax 6 dJ8_newLength_cabcc_3 rfl wm_220 (Nat.le_of_ble_eq_true rfl) ?_
  refine J.iadd 7 dJ8_newLength_cabcc_6 rfl ?_
  refine J.ist_3 8 dJ8_newLength_cabcc_7 rfl (by decide) ?_
  refine J.iconst 0 9 dJ8_newLength_cabcc_8 rfl (by decide) ?_
  refine J.iload_n 10 dJ8_newLength_cabcc_9 rfl rfl ?_
  refine J.icmp_ge 21 13 dJ8_newLength_cabcc_10 (by decide) rfl (fun c1 => ?_) (fun c1 => ?_)
  · skip
    exact absurd c1 (Int32.not_le.mpr (by rw [nl_1 h1 h2]; exact nI_lt (a := 0) (by omega) (by omega)))
  · skip
    refine J.iload_n 14 dJ8_newLength_cabcc_13 rfl rfl ?_
    refine J.ldc 2147483639 16 dJ8_newLength_cabcc_14 rfl wm_223 ?_
    refine J.icmp_gt 21 19 dJ8_newLength_cabcc_16 (by decide) rfl (fun c2 => ?_) (fun c2 => ?_)
    · skip
      exact absurd (by rw [nl_1 h1 h2]; exact nI_le (b := 2147483639) (by omega) (by decide)) (Int32.not_le.mpr c2)
    · skip
      refine J.iload_n 20 dJ8_newLength_cabcc_19 rfl rfl ?_
      exact J.iret dJ8_newLength_cabcc_20 rfl (by rw [← hpost]; exact ⟨by rw [nl_1 h1 h2], rfl⟩)
theorem jl_copy3 {d : Nat} {G : Nat → Nat} {h : AH} {ed cap c2 : Nat} {f : Nat → Option Nat} (he : h ed = some (Aq "java/lang/Object" cap f)) (hcc : cap ≤ c2) (hc2 : c2 ≤ 50000) (hel : ∀ i, i < cap → ∀ y, f i = some y → isOb h y) : Ct Y_J7_copyOf_6403c (d + 1) G 1 c2 [.ref ed, .int (nI c2), .ref (G 1)] h (fun r h2 => ∃ q, r = some (.ref q) ∧ h q = none ∧ h2 = hu h q (Aq "java/lang/Object" c2 (va_cpy f (fun _ => none) 0 0 cap))) := by
  refine Ct.ofn 1 rfl (Nat.le_of_ble_eq_true rfl) (by simp [Value.category]) ?_
  generalize hpost : (fun (r : Option Value) (h2 : AH) => ∃ q, r = some (.ref q) ∧ h q = none ∧ h2 = hu h q (Aq "java/lang/Object" c2 (va_cpy f (fun _ => none) 0 0 cap))) = post
  show J Y_J7_copyOf_6403c (d + 1) G 1 c2 0 [some (.ref ed), some (.int (nI c2)), some (.ref (G 1)), none] [] h post
  refine J.aload_n 1 dJ7_copyOf_6403c_0 rfl rfl ?_
  refine J.ldcC rfl 3 wm_251 dJ7_copyOf_6403c_1 rfl ?_
  refine J.acmp_ne 13 6 dJ7_copyOf_6403c_3 (by decide) rfl (fun c1 => ?_) (fun c1 => ?_)
  · skip
    exact absurd rfl c1
  · skip
    refine J.iload_n 7 dJ7_copyOf_6403c_6 rfl rfl ?_
    refine J.newq (N := c2) (kc2 := 0) (ks2 := (c2 - c2)) (C := "java/lang/Object") 10 dJ7_copyOf_6403c_7 rfl wm_253 (fun A s hG => hG.2.2.2.2.1) (nI_pos (by omega)) (nI_clamp (by omega)) (by omega) rfl (by omega) (fun q1 hq1 => ?_)
    have n2 : ed ≠ q1 := fun z => by rw [z, hq1] at he; cases he
    refine J.nmH (fun h3 eh3 => ?_)
    have f3 : h3 q1 = some (Aq "java/lang/Object" c2 (fun _ => none)) := by rw [eh3]; exact hu_s
    have f4 : h3 ed = some (Aq "java/lang/Object" cap f) := by rw [eh3, hu_n n2]; exact he
    refine J.goto 24 dJ7_copyOf_6403c_10 (by decide) ?_
    refine J.ast_3 25 dJ7_copyOf_6403c_24 rfl (by decide) ?_
    refine J.aload_n 26 dJ7_copyOf_6403c_25 rfl rfl ?_
    refine J.iconst 0 27 dJ7_copyOf_6403c_26 rfl (by decide) ?_
    refine J.aload_n 28 dJ7_copyOf_6403c_27 rfl rfl ?_
    refine J.iconst 0 29 dJ7_copyOf_6403c_28 rfl (by decide) ?_
    refine J.aload_n 30 dJ7_copyOf_6403c_29 rfl rfl ?_
    refine J.alen 31 dJ7_copyOf_6403c_30 rfl f4 ?_
    show J _ _ _ _ _ _ _ (.int (nI cap) :: _) _ _
    refine J.iload_n 32 dJ7_copyOf_6403c_31 rfl rfl ?_
    refine J.mmin 35 dJ7_copyOf_6403c_32 rfl wm_254 (Nat.le_of_ble_eq_true rfl) ?_
    rw [if_neg (nI_nlt hcc (by omega))]
    refine J.copyq 38 dJ7_copyOf_6403c_35 rfl wm_257 f4 f3 (by decide) (by decide) (nI_pos (by omega)) (by rw [nI_clamp (by omega)]; exact Nat.le_of_eq (Nat.zero_add _)) (by rw [nI_clamp (by omega)]; show 0 + cap ≤ c2; omega) (fun i hi y hy => ?_) (Nat.le_of_ble_eq_true rfl) ?_
    · rw [nI_clamp (by omega)] at hi
      rw [show (0 : Int32).toNatClampNeg + i = i from Nat.zero_add i] at hy
      have hy2 := hel i hi y hy
      rw [eh3]
      exact hy2.hu (hy2.ne hq1)
    rw [show (0 : Int32).toNatClampNeg = 0 from rfl, nI_clamp (by omega)]
    refine J.nmH (fun h5 eh5 => ?_)
    have f5 : h5 q1 = some (Aq "java/lang/Object" c2 (va_cpy f (fun _ => none) 0 0 cap)) := by rw [eh5]; exact hu_s
    have f6 : h5 ed = some (Aq "java/lang/Object" cap f) := by rw [eh5, hu_n n2]; exact f4
    refine J.aload_n 39 dJ7_copyOf_6403c_38 rfl rfl ?_
    exact J.aret dJ7_copyOf_6403c_39 rfl (Or.inr ⟨_, rfl⟩) (Or.inr ⟨_, rfl⟩) (by rw [← hpost]; exact ⟨q1, rfl, hq1, by rw [eh5, eh3, hu_hu]⟩)
theorem jl_copy {d : Nat} {G : Nat → Nat} {h : AH} {ed cap c2 : Nat} {f : Nat → Option Nat} (he : h ed = some (Aq "java/lang/Object" cap f)) (hcc : cap ≤ c2) (hc2 : c2 ≤ 50000) (hel : ∀ i, i < cap → ∀ y, f i = some y → isOb h y) : Ct Y_J7_copyOf_1904c (d + 2) G 1 c2 [.ref ed, .int (nI c2)] h (fun r h2 => ∃ q, r = some (.ref q) ∧ h q = none ∧ h2 = hu h q (Aq "java/lang/Object" c2 (va_cpy f (fun _ => none) 0 0 cap))) := by
  refine Ct.ofn 0 rfl (Nat.le_of_ble_eq_true rfl) (by simp [Value.category]) ?_
  generalize hpost : (fun (r : Option Value) (h2 : AH) => ∃ q, r = some (.ref q) ∧ h q = none ∧ h2 = hu h q (Aq "java/lang/Object" c2 (va_cpy f (fun _ => none) 0 0 cap))) = post
  show J Y_J7_copyOf_1904c (d + 2) G 1 c2 0 [some (.ref ed), some (.int (nI c2))] [] h post
  refine J.aload_n 1 dJ7_copyOf_1904c_0 rfl rfl ?_
  refine J.iload_n 2 dJ7_copyOf_1904c_1 rfl rfl ?_
  refine J.aload_n 3 dJ7_copyOf_1904c_2 rfl rfl ?_
  refine J.getC rfl 6 dJ7_copyOf_1904c_3 rfl he (Nat.le_of_ble_eq_true rfl) ?_
  refine cs_J7_300 rfl 9 (jl_copy3 he hcc hc2 hel) dJ7_copyOf_1904c_6 rfl rfl rfl (Nat.le_of_ble_eq_true rfl) (Nat.le_refl _) (Nat.le_refl _) (fun r h2 hp => ?_)
  obtain ⟨q, rfl, hq, eh2⟩ := hp
  exact J.aret dJ7_copyOf_1904c_9 rfl (Or.inr ⟨_, rfl⟩) (Or.inr ⟨_, rfl⟩) (by rw [← hpost]; exact ⟨q, rfl, hq, eh2⟩)
