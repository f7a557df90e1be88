theorem jl_growE {d : Nat} {G : Nat → Nat} {h : AH} {a : Nat} {mc : Int32} (ha : h a = some (Ob 0 [.int mc, .ref (G 0), .int (nI 0)])) : Ct Y_Jx4a65c_grow_92f84 (d + 1) G 1 10 [.ref a, .int (nI 1)] h (fun r h2 => ∃ q, r = some (.ref q) ∧ h q = none ∧ h2 = hu (hu h q (Aq "java/lang/Object" 10 (fun _ => none))) a (Ob 0 [.int mc, .ref q, .int (nI 0)])) := by
  refine Ct.ofn 2 rfl (Nat.le_of_ble_eq_true rfl) (by simp [Value.category]) ?_
  generalize hpost : (fun (r : Option Value) (h2 : AH) => ∃ q, r = some (.ref q) ∧ h q = none ∧ h2 = hu (hu h q (Aq "java/lang/Object" 10 (fun _ => none))) a (Ob 0 [.int mc, .ref q, .int (nI 0)])) = post
  show J Y_Jx4a65c_grow_92f84 (d + 1) G 1 10 0 [some (.ref a), some (.int (nI 1)), none, none] [] h post
  refine J.aload_n 1 dJx4a65c_grow_92f84_0 rfl rfl ?_
  refine gf_Jx4a65c_9 rfl 4 dJx4a65c_grow_92f84_1 rfl ha rfl ?_
  refine J.alenE 5 dJx4a65c_grow_92f84_4 rfl ?_
  refine J.ist_2 6 dJx4a65c_grow_92f84_5 rfl (by decide) ?_
  refine J.iload_n 7 dJx4a65c_grow_92f84_6 rfl rfl ?_
  refine J.if_gt 20 10 dJx4a65c_grow_92f84_7 (by decide) rfl (fun c1 => ?_) (fun c1 => ?_)
  · skip
    exact absurd c1 (by decide)
  · skip
    refine J.aload_n 11 dJx4a65c_grow_92f84_10 rfl rfl ?_
    refine gf_Jx4a65c_9 rfl 14 dJx4a65c_grow_92f84_11 rfl ha rfl ?_
    refine J.getsE rfl 17 dJx4a65c_grow_92f84_14 rfl ?_
    refine J.acmp_eq 45 20 dJx4a65c_grow_92f84_17 (by decide) rfl (fun c2 => ?_) (fun c2 => ?_)
    · skip
      refine J.aload_n 46 dJx4a65c_grow_92f84_45 rfl rfl ?_
      refine J.bipush 10 48 dJx4a65c_grow_92f84_46 rfl (by decide) ?_
      refine J.iload_n 49 dJx4a65c_grow_92f84_48 rfl rfl ?_
      refine J.mmax 52 dJx4a65c_grow_92f84_49 rfl wm_260 (Nat.le_of_ble_eq_true rfl) ?_
      rw [if_neg (show ¬ (10 : Int32) < nI 1 by decide)]
      refine J.newq (N := 10) (kc2 := 0) (ks2 := 0) (C := "java/lang/Object") 55 dJx4a65c_grow_92f84_52 rfl wm_261 (fun A s hG => hG.2.2.2.2.1) (by decide) (by decide) (by decide) rfl (by omega) (fun q1 hq1 => ?_)
      have n2 : a ≠ q1 := fun z => by rw [z, hq1] at ha; cases ha
      refine J.nmH (fun h3 eh3 => ?_)
      have f3 : h3 q1 = some (Aq "java/lang/Object" 10 (fun _ => none)) := by rw [eh3]; exact hu_s
      have f4 : h3 a = some (Ob 0 [.int mc, .ref (G 0), .int (nI 0)]) := by rw [eh3, hu_n n2]; exact ha
      refine J.dup_x1 56 dJx4a65c_grow_92f84_55 rfl rfl rfl ?_
      refine pf_Jx4a65c_9 rfl 59 dJx4a65c_grow_92f84_56 rfl f4 (Nat.le_of_ble_eq_true rfl) ?_
      refine J.nmH (fun h5 eh5 => ?_)
      have f5 : h5 a = some (Ob 0 [.int mc, .ref q1, .int (nI 0)]) := by rw [eh5]; exact hu_s
      have f6 : h5 q1 = some (Aq "java/lang/Object" 10 (fun _ => none)) := by rw [eh5, hu_n (Ne.symm n2)]; exact f3
      exact J.aret dJx4a65c_grow_92f84_59 rfl (Or.inr ⟨_, rfl⟩) (Or.inr ⟨_, rfl⟩) (by rw [← hpost]; exact ⟨q1, rfl, hq1, by rw [eh5, eh3]; rfl⟩)
    · skip
      exact absurd rfl c2
theorem gr_1 {n : Nat} : nI (n + 1) - nI n = nI 1 := by
  rw [← nI_add n 1, Int32.add_comm]
  exact Int32.add_sub_cancel _ _
theorem gr_2 {n : Nat} (h : n ≤ 10000) : nI n >>> ((1 : Int32) &&& 31) = nI (n / 2) := by
  have k := pk_shrN (n := n) (by omega) ((1 : Int32) &&& 31) 1 (by decide)
  rw [Nat.pow_one] at k
  exact k
theorem jl_growF {d : Nat} {G : Nat → Nat} {h : AH} {a ed n : Nat} {mc : Int32} {f : Nat → Option Nat} (ha : h a = some (Ob 0 [.int mc, .ref ed, .int (nI n)])) (he : h ed = some (Aq "java/lang/Object" n f)) (hn1 : 1 ≤ n) (hn2 : n ≤ 10000) (hel : ∀ i, i < n → ∀ y, f i = some y → isOb h y) : Ct Y_Jx4a65c_grow_92f84 (d + 3) G 1 (n + max 1 (n / 2)) [.ref a, .int (nI (n + 1))] h (fun r h2 => ∃ q, r = some (.ref q) ∧ h q = none ∧ h2 = hu (hu h q (Aq "java/lang/Object" (n + max 1 (n / 2)) (va_cpy f (fun _ => none) 0 0 n))) a (Ob 0 [.int mc, .ref q, .int (nI n)])) := by
  refine Ct.ofn 2 rfl (Nat.le_of_ble_eq_true rfl) (by simp [Value.category]) ?_
  generalize hpost : (fun (r : Option Value) (h2 : AH) => ∃ q, r = some (.ref q) ∧ h q = none ∧ h2 = hu (hu h q (Aq "java/lang/Object" (n + max 1 (n / 2)) (va_cpy f (fun _ => none) 0 0 n))) a (Ob 0 [.int mc, .ref q, .int (nI n)])) = post
  show J Y_Jx4a65c_grow_92f84 (d + 3) G 1 (n + max 1 (n / 2)) 0 [some (.ref a), some (.int (nI (n + 1))), none, none] [] h post
  refine J.aload_n 1 dJx4a65c_grow_92f84_0 rfl rfl ?_
  refine gf_Jx4a65c_9 rfl 4 dJx4a65c_grow_92f84_1 rfl ha rfl ?_
  refine J.alen 5 dJx4a65c_grow_92f84_4 rfl he ?_
  show J _ _ _ _ _ _ _ (.int (nI n) :: _) _ _
  refine J.ist_2 6 dJx4a65c_grow_92f84_5 rfl (by decide) ?_
  refine J.iload_n 7 dJx4a65c_grow_92f84_6 rfl rfl ?_
  refine J.if_gt 20 10 dJx4a65c_grow_92f84_7 (by decide) rfl (fun c1 => ?_) (fun c1 => ?_)
  · skip
    refine J.iload_n 21 dJx4a65c_grow_92f84_20 rfl rfl ?_
    refine J.iload_n 22 dJx4a65c_grow_92f84_21 rfl rfl ?_
    refine J.iload_n 23 dJx4a65c_grow_92f84_22 rfl rfl ?_
    refine J.isub 24 dJx4a65c_grow_92f84_23 rfl ?_
    refine J.iload_n 25 dJx4a65c_grow_92f84_24 rfl rfl ?_
    refine J.iconst 1 26 dJx4a65c_grow_92f84_25 rfl (by decide) ?_
    refine J.ishr 27 dJx4a65c_grow_92f84_26 rfl ?_
    rw [gr_1, gr_2 hn2]
    refine cs_Jx4a65c_73 rfl 30 (jl_newLen hn1 (by omega)) dJx4a65c_grow_92f84_27 rfl rfl rfl (Nat.le_of_ble_eq_true rfl) (Nat.zero_le _) (Nat.zero_le _) (fun r h2 hp => ?_)
    obtain ⟨rfl, rfl⟩ := hp
    refine J.ist_3 31 dJx4a65c_grow_92f84_30 rfl (by decide) ?_
    refine J.aload_n 32 dJx4a65c_grow_92f84_31 rfl rfl ?_
    refine J.aload_n 33 dJx4a65c_grow_92f84_32 rfl rfl ?_
    refine gf_Jx4a65c_9 rfl 36 dJx4a65c_grow_92f84_33 rfl ha rfl ?_
    refine J.iload_n 37 dJx4a65c_grow_92f84_36 rfl rfl ?_
    refine cs_Jx4a65c_66 rfl 40 (jl_copy (c2 := (n + max 1 (n / 2))) he (by omega) (by omega) hel) dJx4a65c_grow_92f84_37 rfl rfl rfl (Nat.le_of_ble_eq_true rfl) (Nat.le_refl _) (Nat.le_refl _) (fun r h2 hp => ?_)
    obtain ⟨q, rfl, hq, eh7⟩ := hp
    have nqa : a ≠ q := fun z => by rw [z, hq] at ha; cases ha
    have f7 : h2 a = some (Ob 0 [.int mc, .ref ed, .int (nI n)]) := by rw [eh7, hu_n nqa]; exact ha
    refine J.dup_x1 41 dJx4a65c_grow_92f84_40 rfl rfl rfl ?_
    refine pf_Jx4a65c_9 rfl 44 dJx4a65c_grow_92f84_41 rfl f7 (Nat.le_of_ble_eq_true rfl) ?_
    refine J.nmH (fun h8 eh8 => ?_)
    have f8 : h8 a = some (Ob 0 [.int mc, .ref q, .int (nI n)]) := by rw [eh8]; exact hu_s
    exact J.aret dJx4a65c_grow_92f84_44 rfl (Or.inr ⟨_, rfl⟩) (Or.inr ⟨_, rfl⟩) (by rw [← hpost]; exact ⟨q, rfl, hq, by rw [eh8, eh7]; rfl⟩)
  · skip
    exact absurd (nI_lt (a := 0) (by omega) (by omega)) c1
theorem jl_grow0E {d : Nat} {G : Nat → Nat} {h : AH} {a : Nat} {mc : Int32} (ha : h a = some (Ob 0 [.int mc, .ref (G 0), .int (nI 0)])) : Ct Y_Jx4a65c_grow_d5877 (d + 2) G 1 10 [.ref a] h (fun r h2 => ∃ q, r = some (.ref q) ∧ h q = none ∧ h2 = hu (hu h q (Aq "java/lang/Object" 10 (fun _ => none))) a (Ob 0 [.int mc, .ref q, .int (nI 0)])) := by
  refine Ct.ofn 0 rfl (Nat.le_of_ble_eq_true rfl) (by simp [Value.category]) ?_
  generalize hpost : (fun (r : Option Value) (h2 : AH) => ∃ q, r = some (.ref q) ∧ h q = none ∧ h2 = hu (hu h q (Aq "java/lang/Object" 10 (fun _ => none))) a (Ob 0 [.int mc, .ref q, .int (nI 0)])) = post
  show J Y_Jx4a65c_grow_d5877 (d + 2) G 1 10 0 [some (.ref a)] [] h post
  refine J.aload_n 1 dJx4a65c_grow_d5877_0 rfl rfl ?_
  refine J.aload_n 2 dJx4a65c_grow_d5877_1 rfl rfl ?_
  refine gf_Jx4a65c_48 rfl 5 dJx4a65c_grow_d5877_2 rfl ha rfl ?_
  refine J.iconst 1 6 dJx4a65c_grow_d5877_5 rfl (by decide) ?_
  refine J.iadd 7 dJx4a65c_grow_d5877_6 rfl ?_
  refine cv_Jx4a65c_69 rfl 10 (jl_growE ha) dJx4a65c_grow_d5877_7 rfl ha rfl rfl (Nat.le_of_ble_eq_true rfl) (Nat.le_refl _) (Nat.le_refl _) (fun r h2 hp => ?_)
  obtain ⟨q, rfl, hq, eh2⟩ := hp
  exact J.aret dJx4a65c_grow_d5877_10 rfl (Or.inr ⟨_, rfl⟩) (Or.inr ⟨_, rfl⟩) (by rw [← hpost]; exact ⟨q, rfl, hq, eh2⟩)
theorem jl_grow0F {d : Nat} {G : Nat → Nat} {h : AH} {a ed n : Nat} {mc : Int32} {f : Nat → Option Nat} (ha : h a = some (Ob 0 [.int mc, .ref ed, .int (nI n)])) (he : h ed = some (Aq "java/lang/Object" n f)) (hn1 : 1 ≤ n) (hn2 : n ≤ 10000) (hel : ∀ i, i < n → ∀ y, f i = some y → isOb h y) : Ct Y_Jx4a65c_grow_d5877 (d + 4) G 1 (n + max 1 (n / 2)) [.ref a] h (fun r h2 => ∃ q, r = some (.ref q) ∧ h q = none ∧ h2 = hu (hu h q (Aq "java/lang/Object" (n + max 1 (n / 2)) (va_cpy f (fun _ => none) 0 0 n))) a (Ob 0 [.int mc, .ref q, .int (nI n)])) := by
  refine Ct.ofn 0 rfl (Nat.le_of_ble_eq_true rfl) (by simp [Value.category]) ?_
  generalize hpost : (fun (r : Option Value) (h2 : AH) => ∃ q, r = some (.ref q) ∧ h q = none ∧ h2 = hu (hu h q (Aq "java/lang/Object" (n + max 1 (n / 2)) (va_cpy f (fun _ => none) 0 0 n))) a (Ob 0 [.int mc, .ref q, .int (nI n)])) = post
  show J Y_Jx4a65c_grow_d5877 (d + 4) G 1 (n + max 1 (n / 2)) 0 [some (.ref a)] [] h post
  refine J.aload_n 1 dJx4a65c_grow_d5877_0 rfl rfl ?_
  refine J.aload_n 2 dJx4a65c_grow_d5877_1 rfl rfl ?_
  refine gf_Jx4a65c_48 rfl 5 dJx4a65c_grow_d5877_2 rfl ha rfl ?_
  refine J.iconst 1 6 dJx4a65c_grow_d5877_5 rfl (by decide) ?_
  refine J.iadd 7 dJx4a65c_grow_d5877_6 rfl ?_
  rw [nI_1]
  refine cv_Jx4a65c_69 rfl 10 (jl_growF ha he hn1 hn2 hel) dJx4a65c_grow_d5877_7 rfl ha rfl rfl (Nat.le_of_ble_eq_true rfl) (Nat.le_refl _) (Nat.le_refl _) (fun r h2 hp => ?_)
  obtain ⟨q, rfl, hq, eh2⟩ := hp
  exact J.aret dJx4a65c_grow_d5877_10 rfl (Or.inr ⟨_, rfl⟩) (Or.inr ⟨_, rfl⟩) (by rw [← hpost]; exact ⟨q, rfl, hq, eh2⟩)
theorem jl_add3R {d : Nat} {G : Nat → Nat} {h : AH} {a ed n : Nat} {mc : Int32} {cap : Nat} {f : Nat → Option Nat} {q0 ci : Nat} {fs : List Value} {rr : vw_C} (ha : h a = some (Ob 0 [.int mc, .ref ed, .int (nI n)])) (he : h ed = some (Aq "java/lang/Object" cap f)) (hn : n < cap) (hc : cap ≤ 10000) (hq0 : h q0 = some (Ob ci fs)) (hr : vwCl[ci]? = some rr) (hqa : q0 ≠ a) : Ct Y_Jx4a65c_add_72be8 d G 0 0 [.ref a, .ref q0, .ref ed, .int (nI n)] h (fun r h2 => r = none ∧ h2 = hu (hu h ed (Aq "java/lang/Object" cap (va_up f n (some q0)))) a (Ob 0 [.int mc, .ref ed, .int (nI (n + 1))])) := by
  refine Ct.ofn 0 rfl (Nat.le_of_ble_eq_true rfl) (by simp [Value.category]) ?_
  generalize hpost : (fun (r : Option Value) (h2 : AH) => r = none ∧ h2 = hu (hu h ed (Aq "java/lang/Object" cap (va_up f n (some q0)))) a (Ob 0 [.int mc, .ref ed, .int (nI (n + 1))])) = post
  show J Y_Jx4a65c_add_72be8 d G 0 0 0 [some (.ref a), some (.ref q0), some (.ref ed), some (.int (nI n))] [] h post
  refine J.iload_n 1 dJx4a65c_add_72be8_0 rfl rfl ?_
  refine J.aload_n 2 dJx4a65c_add_72be8_1 rfl rfl ?_
  refine J.alen 3 dJx4a65c_add_72be8_2 rfl he ?_
  show J _ _ _ _ _ _ _ (.int (nI cap) :: _) _ _
  refine J.icmp_ne 11 6 dJx4a65c_add_72be8_3 (by decide) rfl (fun c1 => ?_) (fun c1 => ?_)
  · skip
    refine J.aload_n 12 dJx4a65c_add_72be8_11 rfl rfl ?_
    refine J.iload_n 13 dJx4a65c_add_72be8_12 rfl rfl ?_
    refine J.aload_n 14 dJx4a65c_add_72be8_13 rfl rfl ?_
    refine J.aast 15 dJx4a65c_add_72be8_14 rfl he (vp_in_nI (by omega) (by omega)) hq0 hr (jcast hr) ?_
    rw [(show (nI n).toNatClampNeg = n from nI_clamp (by omega))]
    refine J.nmH (fun h9 eh9 => ?_)
    have f9 : h9 ed = some (Aq "java/lang/Object" cap (va_up f n (some q0))) := by rw [eh9]; exact hu_s
    have f10 : h9 a = some (Ob 0 [.int mc, .ref ed, .int (nI n)]) := by rw [eh9, hu_n (Ne.symm (fun z => by rw [z, ha] at he; cases he))]; exact ha
    have f11 : h9 q0 = some (Ob ci fs) := by rw [eh9, hu_n (fun z => by rw [z, he] at hq0; cases hq0)]; exact hq0
    refine J.aload_n 16 dJx4a65c_add_72be8_15 rfl rfl ?_
    refine J.iload_n 17 dJx4a65c_add_72be8_16 rfl rfl ?_
    refine J.iconst 1 18 dJx4a65c_add_72be8_17 rfl (by decide) ?_
    refine J.iadd 19 dJx4a65c_add_72be8_18 rfl ?_
    refine pf_Jx4a65c_48 rfl 22 dJx4a65c_add_72be8_19 rfl f10 (Nat.le_of_ble_eq_true rfl) ?_
    refine J.nmH (fun h12 eh12 => ?_)
    have f12 : h12 a = some (Ob 0 [.int mc, .ref ed, .int ((nI n) + 1)]) := by rw [eh12]; exact hu_s
    have f13 : h12 ed = some (Aq "java/lang/Object" cap (va_up f n (some q0))) := by rw [eh12, hu_n (fun z => by rw [z, ha] at he; cases he)]; exact f9
    have f14 : h12 q0 = some (Ob ci fs) := by rw [eh12, hu_n hqa]; exact f11
    exact J.vret dJx4a65c_add_72be8_22 rfl (by rw [← hpost]; exact ⟨rfl, by rw [eh12, eh9, nI_1]; rfl⟩)
  · skip
    exact absurd ((nI_eq (by omega) (by omega)).mp c1) (by omega)
theorem jl_add3E {d : Nat} {G : Nat → Nat} {h : AH} {a : Nat} {mc : Int32} {q0 ci : Nat} {fs : List Value} {rr : vw_C} (ha : h a = some (Ob 0 [.int mc, .ref (G 0), .int (nI 0)])) (hq0 : h q0 = some (Ob ci fs)) (hr : vwCl[ci]? = some rr) (hqa : q0 ≠ a) : Ct Y_Jx4a65c_add_72be8 (d + 3) G 1 10 [.ref a, .ref q0, .ref (G 0), .int (nI 0)] h (fun r h2 => ∃ q, r = none ∧ h q = none ∧ h2 = hu (hu h q (Aq "java/lang/Object" 10 (va_up (fun _ => none) 0 (some q0)))) a (Ob 0 [.int mc, .ref q, .int (nI (0 + 1))])) := by
  refine Ct.ofn 0 rfl (Nat.le_of_ble_eq_true rfl) (by simp [Value.category]) ?_
  generalize hpost : (fun (r : Option Value) (h2 : AH) => ∃ q, r = none ∧ h q = none ∧ h2 = hu (hu h q (Aq "java/lang/Object" 10 (va_up (fun _ => none) 0 (some q0)))) a (Ob 0 [.int mc, .ref q, .int (nI (0 + 1))])) = post
  show J Y_Jx4a65c_add_72be8 (d + 3) G 1 10 0 [some (.ref a), some (.ref q0), some (.ref (G 0)), some (.int (nI 0))] [] h post
  refine J.iload_n 1 dJx4a65c_add_72be8_0 rfl rfl ?_
  refine J.aload_n 2 dJx4a65c_add_72be8_1 rfl rfl ?_
  refine J.alenE 3 dJx4a65c_add_72be8_2 rfl ?_
  refine J.icmp_ne 11 6 dJx4a65c_add_72be8_3 (by decide) rfl (fun c1 => ?_) (fun c1 => ?_)
  · skip
    exact absurd rfl c1
  · skip
    refine J.aload_n 7 dJx4a65c_add_72be8_6 rfl rfl ?_
    refine cv_Jx4a65c_129 rfl 10 (jl_grow0E ha) dJx4a65c_add_72be8_7 rfl ha rfl rfl (Nat.le_of_ble_eq_true rfl) (Nat.le_refl _) (Nat.le_refl _) (fun r h2 hp => ?_)
    obtain ⟨q, rfl, hq, eh15⟩ := hp
    have nqa : q ≠ a := fun z => by rw [z, ha] at hq; cases hq
    have n0q : q0 ≠ q := fun z => by rw [z, hq] at hq0; cases hq0
    have f15 : h2 a = some (Ob 0 [.int mc, .ref q, .int (nI 0)]) := by rw [eh15]; exact hu_s
    have g15 : h2 q = some (Aq "java/lang/Object" 10 (fun _ => none)) := by rw [eh15, hu_n nqa]; exact hu_s
    have k15 : h2 q0 = some (Ob ci fs) := by rw [eh15, hu_n hqa, hu_n n0q]; exact hq0
    refine J.ast_2 11 dJx4a65c_add_72be8_10 rfl (by decide) ?_
    refine J.aload_n 12 dJx4a65c_add_72be8_11 rfl rfl ?_
    refine J.iload_n 13 dJx4a65c_add_72be8_12 rfl rfl ?_
    refine J.aload_n 14 dJx4a65c_add_72be8_13 rfl rfl ?_
    refine J.aast 15 dJx4a65c_add_72be8_14 rfl g15 (by unfold vp_in; decide) k15 hr (jcast hr) ?_
    rw [(show (nI 0).toNatClampNeg = 0 from rfl)]
    refine J.nmH (fun h16 eh16 => ?_)
    have f16 : h16 q = some (Aq "java/lang/Object" 10 (va_up (fun _ => none) 0 (some q0))) := by rw [eh16]; exact hu_s
    have f17 : h16 a = some (Ob 0 [.int mc, .ref q, .int (nI 0)]) := by rw [eh16, hu_n (Ne.symm nqa)]; exact f15
    have f18 : h16 q0 = some (Ob ci fs) := by rw [eh16, hu_n n0q]; exact k15
    refine J.aload_n 16 dJx4a65c_add_72be8_15 rfl rfl ?_
    refine J.iload_n 17 dJx4a65c_add_72be8_16 rfl rfl ?_
    refine J.iconst 1 18 dJx4a65c_add_72be8_17 rfl (by decide) ?_
    refine J.iadd 19 dJx4a65c_add_72be8_18 rfl ?_
    refine pf_Jx4a65c_48 rfl 22 dJx4a65c_add_72be8_19 rfl f17 (Nat.le_of_ble_eq_true rfl) ?_
    refine J.nmH (fun h19 eh19 => ?_)
    have f19 : h19 a = some (Ob 0 [.int mc, .ref q, .int ((nI 0) + 1)]) := by rw [eh19]; exact hu_s
    have f20 : h19 q = some (Aq "java/lang/Object" 10 (va_up (fun _ => none) 0 (some q0))) := by rw [eh19, hu_n nqa]; exact f16
    have f21 : h19 q0 = some (Ob ci fs) := by rw [eh19, hu_n hqa]; exact f18
    exact J.vret dJx4a65c_add_72be8_22 rfl (by rw [← hpost]; exact ⟨q, rfl, hq, by rw [eh19, eh16, eh15, hu_sw (Ne.symm nqa), hu_hu, hu_hu, nI_1]; rfl⟩)
theorem jl_add3F {d : Nat} {G : Nat → Nat} {h : AH} {a ed n : Nat} {mc : Int32} {f : Nat → Option Nat} {q0 ci : Nat} {fs : List Value} {rr : vw_C} (ha : h a = some (Ob 0 [.int mc, .ref ed, .int (nI n)])) (he : h ed = some (Aq "java/lang/Object" n f)) (hn1 : 1 ≤ n) (hn2 : n ≤ 10000) (hel : ∀ i, i < n → ∀ y, f i = some y → isOb h y) (hq0 : h q0 = some (Ob ci fs)) (hr : vwCl[ci]? = some rr) (hqa : q0 ≠ a) : Ct Y_Jx4a65c_add_72be8 (d + 5) G 1 (n + max 1 (n / 2)) [.ref a, .ref q0, .ref ed, .int (nI n)] h (fun r h2 => ∃ q, r = none ∧ h q = none ∧ h2 = hu (hu h q (Aq "java/lang/Object" (n + max 1 (n / 2)) (va_up (va_cpy f (fun _ => none) 0 0 n) n (some q0)))) a (Ob 0 [.int mc, .ref q, .int (nI (n + 1))])) := by
  refine Ct.ofn 0 rfl (Nat.le_of_ble_eq_true rfl) (by simp [Value.category]) ?_
  generalize hpost : (fun (r : Option Value) (h2 : AH) => ∃ q, r = none ∧ h q = none ∧ h2 = hu (hu h q (Aq "java/lang/Object" (n + max 1 (n / 2)) (va_up (va_cpy f (fun _ => none) 0 0 n) n (some q0)))) a (Ob 0 [.int mc, .ref q, .int (nI (n + 1))])) = post
  show J Y_Jx4a65c_add_72be8 (d + 5) G 1 (n + max 1 (n / 2)) 0 [some (.ref a), some (.ref q0), some (.ref ed), some (.int (nI n))] [] h post
  refine J.iload_n 1 dJx4a65c_add_72be8_0 rfl rfl ?_
  refine J.aload_n 2 dJx4a65c_add_72be8_1 rfl rfl ?_
  refine J.alen 3 dJx4a65c_add_72be8_2 rfl he ?_
  show J _ _ _ _ _ _ _ (.int (nI n) :: _) _ _
  refine J.icmp_ne 11 6 dJx4a65c_add_72be8_3 (by decide) rfl (fun c1 => ?_) (fun c1 => ?_)
  · skip
    exact absurd rfl c1
  · skip
    refine J.aload_n 7 dJx4a65c_add_72be8_6 rfl rfl ?_
    refine cv_Jx4a65c_129 rfl 10 (jl_grow0F ha he hn1 hn2 hel) dJx4a65c_add_72be8_7 rfl ha rfl rfl (Nat.le_of_ble_eq_true rfl) (Nat.le_refl _) (Nat.le_refl _) (fun r h2 hp => ?_)
    obtain ⟨q, rfl, hq, eh22⟩ := hp
    have nqa : q ≠ a := fun z => by rw [z, ha] at hq; cases hq
    have n0q : q0 ≠ q := fun z => by rw [z, hq] at hq0; cases hq0
    have f22 : h2 a = some (Ob 0 [.int mc, .ref q, .int (nI n)]) := by rw [eh22]; exact hu_s
    have g22 : h2 q = some (Aq "java/lang/Object" (n + max 1 (n / 2)) (va_cpy f (fun _ => none) 0 0 n)) := by rw [eh22, hu_n nqa]; exact hu_s
    have k22 : h2 q0 = some (Ob ci fs) := by rw [eh22, hu_n hqa, hu_n n0q]; exact hq0
    refine J.ast_2 11 dJx4a65c_add_72be8_10 rfl (by decide) ?_
    refine J.aload_n 12 dJx4a65c_add_72be8_11 rfl rfl ?_
    refine J.iload_n 13 dJx4a65c_add_72be8_12 rfl rfl ?_
    refine J.aload_n 14 dJx4a65c_add_72be8_13 rfl rfl ?_
    refine J.aast 15 dJx4a65c_add_72be8_14 rfl g22 (vp_in_nI (by omega) (by omega)) k22 hr (jcast hr) ?_
    rw [(show (nI n).toNatClampNeg = n from nI_clamp (by omega))]
    refine J.nmH (fun h23 eh23 => ?_)
    have f23 : h23 q = some (Aq "java/lang/Object" (n + max 1 (n / 2)) (va_up (va_cpy f (fun _ => none) 0 0 n) n (some q0))) := by rw [eh23]; exact hu_s
    have f24 : h23 a = some (Ob 0 [.int mc, .ref q, .int (nI n)]) := by rw [eh23, hu_n (Ne.symm nqa)]; exact f22
    have f25 : h23 q0 = some (Ob ci fs) := by rw [eh23, hu_n n0q]; exact k22
    refine J.aload_n 16 dJx4a65c_add_72be8_15 rfl rfl ?_
    refine J.iload_n 17 dJx4a65c_add_72be8_16 rfl rfl ?_
    refine J.iconst 1 18 dJx4a65c_add_72be8_17 rfl (by decide) ?_
    refine J.iadd 19 dJx4a65c_add_72be8_18 rfl ?_
    refine pf_Jx4a65c_48 rfl 22 dJx4a65c_add_72be8_19 rfl f24 (Nat.le_of_ble_eq_true rfl) ?_
    refine J.nmH (fun h26 eh26 => ?_)
    have f26 : h26 a = some (Ob 0 [.int mc, .ref q, .int ((nI n) + 1)]) := by rw [eh26]; exact hu_s
    have f27 : h26 q = some (Aq "java/lang/Object" (n + max 1 (n / 2)) (va_up (va_cpy f (fun _ => none) 0 0 n) n (some q0))) := by rw [eh26, hu_n nqa]; exact f23
    have f28 : h26 q0 = some (Ob ci fs) := by rw [eh26, hu_n hqa]; exact f25
    exact J.vret dJx4a65c_add_72be8_22 rfl (by rw [← hpost]; exact ⟨q, rfl, hq, by rw [eh26, eh23, eh22, hu_sw (Ne.symm nqa), hu_hu, hu_hu, nI_1]; rfl⟩)
