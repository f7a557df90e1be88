/-- the model's rows as they are made -/
def MG (m0 : Nat) (ad : Nat → Nat) (l : List Nat) (h0 K : AH) : Prop := (∀ k, k ∈ l → K (ad k) = some (marr k (fun _ => 0)) ∧ h0 (ad k) = none ∧ ad k ≠ m0) ∧ (∀ j k, j ∈ l → k ∈ l → ad j = ad k → j = k) ∧ ∀ b, h0 b ≠ none → K b = h0 b
def aU (ad : Nat → Nat) (k0 q : Nat) : Nat → Nat := fun k => if k = k0 then q else ad k
theorem MG.add {m0 : Nat} {ad : Nat → Nat} {l : List Nat} {h0 K : AH} {q k0 : Nat} (hM : MG m0 ad l h0 K) (hq : K q = none) (hn : q ≠ m0) (hk : k0 ∉ l) : MG m0 (aU ad k0 q) (k0 :: l) h0 (hu K q (marr k0 (fun _ => 0))) := by
  obtain ⟨h1, h2, h3⟩ := hM
  have hne : ∀ k, k ∈ l → k ≠ k0 := fun k hk2 z => hk (z ▸ hk2)
  have ha : ∀ k, k ∈ l → aU ad k0 q k = ad k := fun k hk2 => if_neg (hne k hk2)
  have has : aU ad k0 q k0 = q := if_pos rfl
  have hqn : ∀ k, k ∈ l → ad k ≠ q := fun k hk2 z => by
    have := (h1 k hk2).1
    rw [z, hq] at this
    cases this
  refine ⟨fun k hk2 => ?_, fun j k hj hk2 e => ?_, fun b hb => ?_⟩
  · rcases List.mem_cons.mp hk2 with rfl | z
    · rw [has]
      refine ⟨hu_s, Classical.byContradiction (fun y => ?_), hn⟩
      have := h3 q y
      rw [hq] at this
      exact y this.symm
    · rw [ha k z, hu_n (hqn k z)]
      exact h1 k z
  · rcases List.mem_cons.mp hj with rfl | z
    · rcases List.mem_cons.mp hk2 with rfl | z2
      · rfl
      · rw [has, ha k z2] at e
        exact absurd e.symm (hqn k z2)
    · rcases List.mem_cons.mp hk2 with rfl | z2
      · rw [has, ha j z] at e
        exact absurd e (hqn j z)
      · rw [ha j z, ha k z2] at e
        exact h2 j k z z2 e
  · rw [hu_n (fun z => hb (by have := h3 b hb; rw [z, hq] at this; rw [z]; exact this.symm))]
    exact h3 b hb
def m1 : MS := (fun k => if k = 3 then 1 else if k = 55 then -1 else 0, fun _ _ => 0)
theorem m1s : (m1.1, (u2 (u2 (u2 (u2 (u2 (u2 (u2 (u2 (u2 (u2 (u2 (u2 m1.2 6 0 9) 6 1 9) 6 2 9) 6 3 9) 6 4 9) 6 5 9) 6 6 9) 6 7 9) 6 8 9) 6 9 9) 6 10 9) 6 11 9)) = s0 := by
  refine Prod.ext rfl (funext fun k => ?_)
  show (u2 (u2 (u2 (u2 (u2 (u2 (u2 (u2 (u2 (u2 (u2 (u2 (fun _ _ => 0) 6 0 9) 6 1 9) 6 2 9) 6 3 9) 6 4 9) 6 5 9) 6 6 9) 6 7 9) 6 8 9) 6 9 9) 6 10 9) 6 11 9) k = if k = 6 then sg0 else fun _ => 0
  by_cases e : k = 6
  · subst e
    rfl
  · rw [u2_n e, u2_n e, u2_n e, u2_n e, u2_n e, u2_n e, u2_n e, u2_n e, u2_n e, u2_n e, u2_n e, u2_n e, if_neg e]
theorem mk_all : ∀ k, mk k = true → k ∈ [61, 59, 58, 54, 53, 52, 50, 49, 44, 43, 42, 41, 40, 39, 38, 37, 36, 34, 32, 31, 29, 27, 26, 25, 24, 23, 22, 21, 20, 19, 18, 17, 15, 14, 13, 12, 10, 9, 8, 7, 6, 5, 4, 2, 1] := by
  intro k hk
  by_cases h : k < 62
  · revert hk
    revert k
    decide
  · obtain ⟨n, rfl⟩ : ∃ n, k = n + 62 := ⟨k - 62, by omega⟩
    exact absurd hk (show ¬ mk (n + 62) = true from fun z => by cases z)
theorem k_modInit {d : Nat} {G : Nat → Nat} {k : AH} {a : Nat} (ha : k a = none) : Ct Y_X12_init (d + 1) G 45 3593 [.ref a] (hu k a (Ob 13 [.int 0, .null, .null, .int 0, .null, .null, .null, .null, .null, .null, .null, .int 0, .null, .null, .null, .null, .int 0, .null, .null, .null, .null, .null, .null, .null, .null, .null, .null, .null, .int 0, .null, .int 0, .null, .null, .int 0, .null, .int 0, .null, .null, .null, .null, .null, .null, .null, .null, .null, .int 0, .int 0, .int 0, .int 0, .null, .null, .int 0, .null, .null, .null, .int 0, .int 0, .int 0, .null, .null, .int 0, .null])) (fun r h2 => r = none ∧ ∃ ad, MR a ad s0 h2 ∧ (∀ k2, mk k2 = true → k (ad k2) = none) ∧ ∀ b, k b ≠ none → h2 b = k b) := by
  refine Ct.ofn 1 rfl (Nat.le_of_ble_eq_true rfl) (by simp [Value.category]) ?_
  generalize hpost : (fun (r : Option Value) (h2 : AH) => r = none ∧ ∃ ad, MR a ad s0 h2 ∧ (∀ k2, mk k2 = true → k (ad k2) = none) ∧ ∀ b, k b ≠ none → h2 b = k b) = post
  show J Y_X12_init (d + 1) G 45 3593 0 [some (.ref a), none] [] (hu k a (Ob 13 [.int 0, .null, .null, .int 0, .null, .null, .null, .null, .null, .null, .null, .int 0, .null, .null, .null, .null, .int 0, .null, .null, .null, .null, .null, .null, .null, .null, .null, .null, .null, .int 0, .null, .int 0, .null, .null, .int 0, .null, .int 0, .null, .null, .null, .null, .null, .null, .null, .null, .null, .int 0, .int 0, .int 0, .int 0, .null, .null, .int 0, .null, .null, .null, .int 0, .int 0, .int 0, .null, .null, .int 0, .null])) post
  have b0 := ha
  have g0 : MG a (fun _ => 0) [] k k := ⟨fun _ z => (by cases z), fun _ _ z => (by cases z), fun _ _ => rfl⟩
  refine J.aload_n 1 dX12_init_0 rfl rfl ?_
  refine co_X12_1 rfl 4 dX12_init_1 rfl (Nat.le_of_ble_eq_true rfl) ?_
  refine J.aload_n 5 dX12_init_4 rfl rfl ?_
  refine J.bipush 12 7 dX12_init_5 rfl (by decide) ?_
  refine J.newi (N := 12) 9 dX12_init_7 rfl wm_80 (by decide) (by decide) (by decide) rfl rfl (fun q1 hq1 => ?_)
  obtain ⟨n1, f1, e1⟩ := hu_push (e := (Ai 12 (fun _ => 0))) hq1
  rw [e1]
  have b1 := hu_fr (e := (Ai 12 (fun _ => 0))) (Ne.symm n1) b0
  have g1 : MG a (aU (fun _ => 0) 1 q1) [1] k (hu k q1 (Ai 12 (fun _ => 0))) := g0.add f1 n1 (by decide)
  clear g0 e1 hq1 f1
  generalize hu k q1 (Ai 12 (fun _ => 0)) = k1 at g1 b1 ⊢
  refine pf_X12_9 rfl rfl 12 dX12_init_9 rfl hu_s (Nat.le_of_ble_eq_true rfl) ?_
  rw [hu_hu]
  show J _ _ _ _ _ _ _ _ (hu k1 a (Ob 13 [.int 0, .ref q1, .null, .int 0, .null, .null, .null, .null, .null, .null, .null, .int 0, .null, .null, .null, .null, .int 0, .null, .null, .null, .null, .null, .null, .null, .null, .null, .null, .null, .int 0, .null, .int 0, .null, .null, .int 0, .null, .int 0, .null, .null, .null, .null, .null, .null, .null, .null, .null, .int 0, .int 0, .int 0, .int 0, .null, .null, .int 0, .null, .null, .null, .int 0, .int 0, .int 0, .null, .null, .int 0, .null])) _
  refine J.aload_n 13 dX12_init_12 rfl rfl ?_
  refine J.bipush 12 15 dX12_init_13 rfl (by decide) ?_
  refine J.newi (N := 12) 17 dX12_init_15 rfl wm_80 (by decide) (by decide) (by decide) rfl rfl (fun q2 hq2 => ?_)
  obtain ⟨n2, f2, e2⟩ := hu_push (e := (Ai 12 (fun _ => 0))) hq2
  rw [e2]
  have b2 := hu_fr (e := (Ai 12 (fun _ => 0))) (Ne.symm n2) b1
  have g2 : MG a (aU (aU (fun _ => 0) 1 q1) 2 q2) [2, 1] k (hu k1 q2 (Ai 12 (fun _ => 0))) := g1.add f2 n2 (by decide)
  clear g1 b1 e2 hq2 f2
  generalize hu k1 q2 (Ai 12 (fun _ => 0)) = k2 at g2 b2 ⊢
  refine pf_X12_13 rfl rfl 20 dX12_init_17 rfl hu_s (Nat.le_of_ble_eq_true rfl) ?_
  rw [hu_hu]
  show J _ _ _ _ _ _ _ _ (hu k2 a (Ob 13 [.int 0, .ref q1, .ref q2, .int 0, .null, .null, .null, .null, .null, .null, .null, .int 0, .null, .null, .null, .null, .int 0, .null, .null, .null, .null, .null, .null, .null, .null, .null, .null, .null, .int 0, .null, .int 0, .null, .null, .int 0, .null, .int 0, .null, .null, .null, .null, .null, .null, .null, .null, .null, .int 0, .int 0, .int 0, .int 0, .null, .null, .int 0, .null, .null, .null, .int 0, .int 0, .int 0, .null, .null, .int 0, .null])) _
  refine J.aload_n 21 dX12_init_20 rfl rfl ?_
  refine J.iconst 1 22 dX12_init_21 rfl (by decide) ?_
  refine pf_X12_16 rfl 25 dX12_init_22 rfl hu_s (Nat.le_of_ble_eq_true rfl) ?_
  rw [hu_hu]
  show J _ _ _ _ _ _ _ _ (hu k2 a (Ob 13 [.int 0, .ref q1, .ref q2, .int 1, .null, .null, .null, .null, .null, .null, .null, .int 0, .null, .null, .null, .null, .int 0, .null, .null, .null, .null, .null, .null, .null, .null, .null, .null, .null, .int 0, .null, .int 0, .null, .null, .int 0, .null, .int 0, .null, .null, .null, .null, .null, .null, .null, .null, .null, .int 0, .int 0, .int 0, .int 0, .null, .null, .int 0, .null, .null, .null, .int 0, .int 0, .int 0, .null, .null, .int 0, .null])) _
  refine J.aload_n 26 dX12_init_25 rfl rfl ?_
  refine J.bipush 12 28 dX12_init_26 rfl (by decide) ?_
  refine J.newi (N := 12) 30 dX12_init_28 rfl wm_80 (by decide) (by decide) (by decide) rfl rfl (fun q3 hq3 => ?_)
  obtain ⟨n3, f3, e3⟩ := hu_push (e := (Ai 12 (fun _ => 0))) hq3
  rw [e3]
  have b3 := hu_fr (e := (Ai 12 (fun _ => 0))) (Ne.symm n3) b2
  have g3 : MG a (aU (aU (aU (fun _ => 0) 1 q1) 2 q2) 4 q3) [4, 2, 1] k (hu k2 q3 (Ai 12 (fun _ => 0))) := g2.add f3 n3 (by decide)
  clear g2 b2 e3 hq3 f3
  generalize hu k2 q3 (Ai 12 (fun _ => 0)) = k3 at g3 b3 ⊢
  refine pf_X12_20 rfl rfl 33 dX12_init_30 rfl hu_s (Nat.le_of_ble_eq_true rfl) ?_
  rw [hu_hu]
  show J _ _ _ _ _ _ _ _ (hu k3 a (Ob 13 [.int 0, .ref q1, .ref q2, .int 1, .ref q3, .null, .null, .null, .null, .null, .null, .int 0, .null, .null, .null, .null, .int 0, .null, .null, .null, .null, .null, .null, .null, .null, .null, .null, .null, .int 0, .null, .int 0, .null, .null, .int 0, .null, .int 0, .null, .null, .null, .null, .null, .null, .null, .null, .null, .int 0, .int 0, .int 0, .int 0, .null, .null, .int 0, .null, .null, .null, .int 0, .int 0, .int 0, .null, .null, .int 0, .null])) _
  refine J.aload_n 34 dX12_init_33 rfl rfl ?_
  refine J.bipush 12 36 dX12_init_34 rfl (by decide) ?_
  refine J.newi (N := 12) 38 dX12_init_36 rfl wm_80 (by decide) (by decide) (by decide) rfl rfl (fun q4 hq4 => ?_)
  obtain ⟨n4, f4, e4⟩ := hu_push (e := (Ai 12 (fun _ => 0))) hq4
  rw [e4]
  have b4 := hu_fr (e := (Ai 12 (fun _ => 0))) (Ne.symm n4) b3
  have g4 : MG a (aU (aU (aU (aU (fun _ => 0) 1 q1) 2 q2) 4 q3) 5 q4) [5, 4, 2, 1] k (hu k3 q4 (Ai 12 (fun _ => 0))) := g3.add f4 n4 (by decide)
  clear g3 b3 e4 hq4 f4
  generalize hu k3 q4 (Ai 12 (fun _ => 0)) = k4 at g4 b4 ⊢
  refine pf_X12_23 rfl rfl 41 dX12_init_38 rfl hu_s (Nat.le_of_ble_eq_true rfl) ?_
  rw [hu_hu]
  show J _ _ _ _ _ _ _ _ (hu k4 a (Ob 13 [.int 0, .ref q1, .ref q2, .int 1, .ref q3, .ref q4, .null, .null, .null, .null, .null, .int 0, .null, .null, .null, .null, .int 0, .null, .null, .null, .null, .null, .null, .null, .null, .null, .null, .null, .int 0, .null, .int 0, .null, .null, .int 0, .null, .int 0, .null, .null, .null, .null, .null, .null, .null, .null, .null, .int 0, .int 0, .int 0, .int 0, .null, .null, .int 0, .null, .null, .null, .int 0, .int 0, .int 0, .null, .null, .int 0, .null])) _
  refine J.aload_n 42 dX12_init_41 rfl rfl ?_
  refine J.bipush 12 44 dX12_init_42 rfl (by decide) ?_
  refine J.newi (N := 12) 46 dX12_init_44 rfl wm_80 (by decide) (by decide) (by decide) rfl rfl (fun q5 hq5 => ?_)
  obtain ⟨n5, f5, e5⟩ := hu_push (e := (Ai 12 (fun _ => 0))) hq5
  rw [e5]
  have b5 := hu_fr (e := (Ai 12 (fun _ => 0))) (Ne.symm n5) b4
  have g5 : MG a (aU (aU (aU (aU (aU (fun _ => 0) 1 q1) 2 q2) 4 q3) 5 q4) 6 q5) [6, 5, 4, 2, 1] k (hu k4 q5 (Ai 12 (fun _ => 0))) := g4.add f5 n5 (by decide)
  clear g4 b4 e5 hq5 f5
  generalize hu k4 q5 (Ai 12 (fun _ => 0)) = k5 at g5 b5 ⊢
  refine pf_X12_26 rfl rfl 49 dX12_init_46 rfl hu_s (Nat.le_of_ble_eq_true rfl) ?_
  rw [hu_hu]
  show J _ _ _ _ _ _ _ _ (hu k5 a (Ob 13 [.int 0, .ref q1, .ref q2, .int 1, .ref q3, .ref q4, .ref q5, .null, .null, .null, .null, .int 0, .null, .null, .null, .null, .int 0, .null, .null, .null, .null, .null, .null, .null, .null, .null, .null, .null, .int 0, .null, .int 0, .null, .null, .int 0, .null, .int 0, .null, .null, .null, .null, .null, .null, .null, .null, .null, .int 0, .int 0, .int 0, .int 0, .null, .null, .int 0, .null, .null, .null, .int 0, .int 0, .int 0, .null, .null, .int 0, .null])) _
  refine J.aload_n 50 dX12_init_49 rfl rfl ?_
  refine J.iconst 4 51 dX12_init_50 rfl (by decide) ?_
  refine J.newi (N := 4) 53 dX12_init_51 rfl wm_80 (by decide) (by decide) (by decide) rfl rfl (fun q6 hq6 => ?_)
  obtain ⟨n6, f6, e6⟩ := hu_push (e := (Ai 4 (fun _ => 0))) hq6
  rw [e6]
  have b6 := hu_fr (e := (Ai 4 (fun _ => 0))) (Ne.symm n6) b5
  have g6 : MG a (aU (aU (aU (aU (aU (aU (fun _ => 0) 1 q1) 2 q2) 4 q3) 5 q4) 6 q5) 7 q6) [7, 6, 5, 4, 2, 1] k (hu k5 q6 (Ai 4 (fun _ => 0))) := g5.add f6 n6 (by decide)
  clear g5 b5 e6 hq6 f6
  generalize hu k5 q6 (Ai 4 (fun _ => 0)) = k6 at g6 b6 ⊢
  refine pf_X12_29 rfl rfl 56 dX12_init_53 rfl hu_s (Nat.le_of_ble_eq_true rfl) ?_
  rw [hu_hu]
  show J _ _ _ _ _ _ _ _ (hu k6 a (Ob 13 [.int 0, .ref q1, .ref q2, .int 1, .ref q3, .ref q4, .ref q5, .ref q6, .null, .null, .null, .int 0, .null, .null, .null, .null, .int 0, .null, .null, .null, .null, .null, .null, .null, .null, .null, .null, .null, .int 0, .null, .int 0, .null, .null, .int 0, .null, .int 0, .null, .null, .null, .null, .null, .null, .null, .null, .null, .int 0, .int 0, .int 0, .int 0, .null, .null, .int 0, .null, .null, .null, .int 0, .int 0, .int 0, .null, .null, .int 0, .null])) _
  refine J.aload_n 57 dX12_init_56 rfl rfl ?_
  refine J.iconst 4 58 dX12_init_57 rfl (by decide) ?_
  refine J.newi (N := 4) 60 dX12_init_58 rfl wm_80 (by decide) (by decide) (by decide) rfl rfl (fun q7 hq7 => ?_)
  obtain ⟨n7, f7, e7⟩ := hu_push (e := (Ai 4 (fun _ => 0))) hq7
  rw [e7]
  have b7 := hu_fr (e := (Ai 4 (fun _ => 0))) (Ne.symm n7) b6
  have g7 : MG a (aU (aU (aU (aU (aU (aU (aU (fun _ => 0) 1 q1) 2 q2) 4 q3) 5 q4) 6 q5) 7 q6) 8 q7) [8, 7, 6, 5, 4, 2, 1] k (hu k6 q7 (Ai 4 (fun _ => 0))) := g6.add f7 n7 (by decide)
  clear g6 b6 e7 hq7 f7
  generalize hu k6 q7 (Ai 4 (fun _ => 0)) = k7 at g7 b7 ⊢
  refine pf_X12_32 rfl rfl 63 dX12_init_60 rfl hu_s (Nat.le_of_ble_eq_true rfl) ?_
  rw [hu_hu]
  show J _ _ _ _ _ _ _ _ (hu k7 a (Ob 13 [.int 0, .ref q1, .ref q2, .int 1, .ref q3, .ref q4, .ref q5, .ref q6, .ref q7, .null, .null, .int 0, .null, .null, .null, .null, .int 0, .null, .null, .null, .null, .null, .null, .null, .null, .null, .null, .null, .int 0, .null, .int 0, .null, .null, .int 0, .null, .int 0, .null, .null, .null, .null, .null, .null, .null, .null, .null, .int 0, .int 0, .int 0, .int 0, .null, .null, .int 0, .null, .null, .null, .int 0, .int 0, .int 0, .null, .null, .int 0, .null])) _
  refine J.aload_n 64 dX12_init_63 rfl rfl ?_
  refine J.iconst 4 65 dX12_init_64 rfl (by decide) ?_
  refine J.newi (N := 4) 67 dX12_init_65 rfl wm_80 (by decide) (by decide) (by decide) rfl rfl (fun q8 hq8 => ?_)
  obtain ⟨n8, f8, e8⟩ := hu_push (e := (Ai 4 (fun _ => 0))) hq8
  rw [e8]
  have b8 := hu_fr (e := (Ai 4 (fun _ => 0))) (Ne.symm n8) b7
  have g8 : MG a (aU (aU (aU (aU (aU (aU (aU (aU (fun _ => 0) 1 q1) 2 q2) 4 q3) 5 q4) 6 q5) 7 q6) 8 q7) 9 q8) [9, 8, 7, 6, 5, 4, 2, 1] k (hu k7 q8 (Ai 4 (fun _ => 0))) := g7.add f8 n8 (by decide)
  clear g7 b7 e8 hq8 f8
  generalize hu k7 q8 (Ai 4 (fun _ => 0)) = k8 at g8 b8 ⊢
  refine pf_X12_35 rfl rfl 70 dX12_init_67 rfl hu_s (Nat.le_of_ble_eq_true rfl) ?_
  rw [hu_hu]
  show J _ _ _ _ _ _ _ _ (hu k8 a (Ob 13 [.int 0, .ref q1, .ref q2, .int 1, .ref q3, .ref q4, .ref q5, .ref q6, .ref q7, .ref q8, .null, .int 0, .null, .null, .null, .null, .int 0, .null, .null, .null, .null, .null, .null, .null, .null, .null, .null, .null, .int 0, .null, .int 0, .null, .null, .int 0, .null, .int 0, .null, .null, .null, .null, .null, .null, .null, .null, .null, .int 0, .int 0, .int 0, .int 0, .null, .null, .int 0, .null, .null, .null, .int 0, .int 0, .int 0, .null, .null, .int 0, .null])) _
  refine J.aload_n 71 dX12_init_70 rfl rfl ?_
  refine J.iconst 4 72 dX12_init_71 rfl (by decide) ?_
  refine J.newi (N := 4) 74 dX12_init_72 rfl wm_80 (by decide) (by decide) (by decide) rfl rfl (fun q9 hq9 => ?_)
  obtain ⟨n9, f9, e9⟩ := hu_push (e := (Ai 4 (fun _ => 0))) hq9
  rw [e9]
  have b9 := hu_fr (e := (Ai 4 (fun _ => 0))) (Ne.symm n9) b8
  have g9 : MG a (aU (aU (aU (aU (aU (aU (aU (aU (aU (fun _ => 0) 1 q1) 2 q2) 4 q3) 5 q4) 6 q5) 7 q6) 8 q7) 9 q8) 10 q9) [10, 9, 8, 7, 6, 5, 4, 2, 1] k (hu k8 q9 (Ai 4 (fun _ => 0))) := g8.add f9 n9 (by decide)
  clear g8 b8 e9 hq9 f9
  generalize hu k8 q9 (Ai 4 (fun _ => 0)) = k9 at g9 b9 ⊢
  refine pf_X12_38 rfl rfl 77 dX12_init_74 rfl hu_s (Nat.le_of_ble_eq_true rfl) ?_
  rw [hu_hu]
  show J _ _ _ _ _ _ _ _ (hu k9 a (Ob 13 [.int 0, .ref q1, .ref q2, .int 1, .ref q3, .ref q4, .ref q5, .ref q6, .ref q7, .ref q8, .ref q9, .int 0, .null, .null, .null, .null, .int 0, .null, .null, .null, .null, .null, .null, .null, .null, .null, .null, .null, .int 0, .null, .int 0, .null, .null, .int 0, .null, .int 0, .null, .null, .null, .null, .null, .null, .null, .null, .null, .int 0, .int 0, .int 0, .int 0, .null, .null, .int 0, .null, .null, .null, .int 0, .int 0, .int 0, .null, .null, .int 0, .null])) _
  refine J.aload_n 78 dX12_init_77 rfl rfl ?_
  refine J.bipush 6 80 dX12_init_78 rfl (by decide) ?_
  refine J.newi (N := 6) 82 dX12_init_80 rfl wm_80 (by decide) (by decide) (by decide) rfl rfl (fun q10 hq10 => ?_)
  obtain ⟨n10, f10, e10⟩ := hu_push (e := (Ai 6 (fun _ => 0))) hq10
  rw [e10]
  have b10 := hu_fr (e := (Ai 6 (fun _ => 0))) (Ne.symm n10) b9
  have g10 : MG a (aU (aU (aU (aU (aU (aU (aU (aU (aU (aU (fun _ => 0) 1 q1) 2 q2) 4 q3) 5 q4) 6 q5) 7 q6) 8 q7) 9 q8) 10 q9) 12 q10) [12, 10, 9, 8, 7, 6, 5, 4, 2, 1] k (hu k9 q10 (Ai 6 (fun _ => 0))) := g9.add f10 n10 (by decide)
  clear g9 b9 e10 hq10 f10
  generalize hu k9 q10 (Ai 6 (fun _ => 0)) = k10 at g10 b10 ⊢
  refine pf_X12_41 rfl rfl 85 dX12_init_82 rfl hu_s (Nat.le_of_ble_eq_true rfl) ?_
  rw [hu_hu]
  show J _ _ _ _ _ _ _ _ (hu k10 a (Ob 13 [.int 0, .ref q1, .ref q2, .int 1, .ref q3, .ref q4, .ref q5, .ref q6, .ref q7, .ref q8, .ref q9, .int 0, .ref q10, .null, .null, .null, .int 0, .null, .null, .null, .null, .null, .null, .null, .null, .null, .null, .null, .int 0, .null, .int 0, .null, .null, .int 0, .null, .int 0, .null, .null, .null, .null, .null, .null, .null, .null, .null, .int 0, .int 0, .int 0, .int 0, .null, .null, .int 0, .null, .null, .null, .int 0, .int 0, .int 0, .null, .null, .int 0, .null])) _
  refine J.aload_n 86 dX12_init_85 rfl rfl ?_
  refine J.bipush 6 88 dX12_init_86 rfl (by decide) ?_
  refine J.newi (N := 6) 90 dX12_init_88 rfl wm_80 (by decide) (by decide) (by decide) rfl rfl (fun q11 hq11 => ?_)
  obtain ⟨n11, f11, e11⟩ := hu_push (e := (Ai 6 (fun _ => 0))) hq11
  rw [e11]
  have b11 := hu_fr (e := (Ai 6 (fun _ => 0))) (Ne.symm n11) b10
  have g11 : MG a (aU (aU (aU (aU (aU (aU (aU (aU (aU (aU (aU (fun _ => 0) 1 q1) 2 q2) 4 q3) 5 q4) 6 q5) 7 q6) 8 q7) 9 q8) 10 q9) 12 q10) 13 q11) [13, 12, 10, 9, 8, 7, 6, 5, 4, 2, 1] k (hu k10 q11 (Ai 6 (fun _ => 0))) := g10.add f11 n11 (by decide)
  clear g10 b10 e11 hq11 f11
  generalize hu k10 q11 (Ai 6 (fun _ => 0)) = k11 at g11 b11 ⊢
  refine pf_X12_44 rfl rfl 93 dX12_init_90 rfl hu_s (Nat.le_of_ble_eq_true rfl) ?_
  rw [hu_hu]
  show J _ _ _ _ _ _ _ _ (hu k11 a (Ob 13 [.int 0, .ref q1, .ref q2, .int 1, .ref q3, .ref q4, .ref q5, .ref q6, .ref q7, .ref q8, .ref q9, .int 0, .ref q10, .ref q11, .null, .null, .int 0, .null, .null, .null, .null, .null, .null, .null, .null, .null, .null, .null, .int 0, .null, .int 0, .null, .null, .int 0, .null, .int 0, .null, .null, .null, .null, .null, .null, .null, .null, .null, .int 0, .int 0, .int 0, .int 0, .null, .null, .int 0, .null, .null, .null, .int 0, .int 0, .int 0, .null, .null, .int 0, .null])) _
  refine J.aload_n 94 dX12_init_93 rfl rfl ?_
  refine J.bipush 6 96 dX12_init_94 rfl (by decide) ?_
  refine J.newi (N := 6) 98 dX12_init_96 rfl wm_80 (by decide) (by decide) (by decide) rfl rfl (fun q12 hq12 => ?_)
  obtain ⟨n12, f12, e12⟩ := hu_push (e := (Ai 6 (fun _ => 0))) hq12
  rw [e12]
  have b12 := hu_fr (e := (Ai 6 (fun _ => 0))) (Ne.symm n12) b11
  have g12 : MG a (aU (aU (aU (aU (aU (aU (aU (aU (aU (aU (aU (aU (fun _ => 0) 1 q1) 2 q2) 4 q3) 5 q4) 6 q5) 7 q6) 8 q7) 9 q8) 10 q9) 12 q10) 13 q11) 14 q12) [14, 13, 12, 10, 9, 8, 7, 6, 5, 4, 2, 1] k (hu k11 q12 (Ai 6 (fun _ => 0))) := g11.add f12 n12 (by decide)
  clear g11 b11 e12 hq12 f12
  generalize hu k11 q12 (Ai 6 (fun _ => 0)) = k12 at g12 b12 ⊢
  refine pf_X12_47 rfl rfl 101 dX12_init_98 rfl hu_s (Nat.le_of_ble_eq_true rfl) ?_
  rw [hu_hu]
  show J _ _ _ _ _ _ _ _ (hu k12 a (Ob 13 [.int 0, .ref q1, .ref q2, .int 1, .ref q3, .ref q4, .ref q5, .ref q6, .ref q7, .ref q8, .ref q9, .int 0, .ref q10, .ref q11, .ref q12, .null, .int 0, .null, .null, .null, .null, .null, .null, .null, .null, .null, .null, .null, .int 0, .null, .int 0, .null, .null, .int 0, .null, .int 0, .null, .null, .null, .null, .null, .null, .null, .null, .null, .int 0, .int 0, .int 0, .int 0, .null, .null, .int 0, .null, .null, .null, .int 0, .int 0, .int 0, .null, .null, .int 0, .null])) _
  refine J.aload_n 102 dX12_init_101 rfl rfl ?_
  refine J.bipush 6 104 dX12_init_102 rfl (by decide) ?_
  refine J.newi (N := 6) 106 dX12_init_104 rfl wm_80 (by decide) (by decide) (by decide) rfl rfl (fun q13 hq13 => ?_)
  obtain ⟨n13, f13, e13⟩ := hu_push (e := (Ai 6 (fun _ => 0))) hq13
  rw [e13]
  have b13 := hu_fr (e := (Ai 6 (fun _ => 0))) (Ne.symm n13) b12
  have g13 : MG a (aU (aU (aU (aU (aU (aU (aU (aU (aU (aU (aU (aU (aU (fun _ => 0) 1 q1) 2 q2) 4 q3) 5 q4) 6 q5) 7 q6) 8 q7) 9 q8) 10 q9) 12 q10) 13 q11) 14 q12) 15 q13) [15, 14, 13, 12, 10, 9, 8, 7, 6, 5, 4, 2, 1] k (hu k12 q13 (Ai 6 (fun _ => 0))) := g12.add f13 n13 (by decide)
  clear g12 b12 e13 hq13 f13
  generalize hu k12 q13 (Ai 6 (fun _ => 0)) = k13 at g13 b13 ⊢
  refine pf_X12_50 rfl rfl 109 dX12_init_106 rfl hu_s (Nat.le_of_ble_eq_true rfl) ?_
  rw [hu_hu]
  show J _ _ _ _ _ _ _ _ (hu k13 a (Ob 13 [.int 0, .ref q1, .ref q2, .int 1, .ref q3, .ref q4, .ref q5, .ref q6, .ref q7, .ref q8, .ref q9, .int 0, .ref q10, .ref q11, .ref q12, .ref q13, .int 0, .null, .null, .null, .null, .null, .null, .null, .null, .null, .null, .null, .int 0, .null, .int 0, .null, .null, .int 0, .null, .int 0, .null, .null, .null, .null, .null, .null, .null, .null, .null, .int 0, .int 0, .int 0, .int 0, .null, .null, .int 0, .null, .null, .null, .int 0, .int 0, .int 0, .null, .null, .int 0, .null])) _
  refine J.aload_n 110 dX12_init_109 rfl rfl ?_
  refine J.bipush 80 112 dX12_init_110 rfl (by decide) ?_
  refine J.newi (N := 80) 114 dX12_init_112 rfl wm_80 (by decide) (by decide) (by decide) rfl rfl (fun q14 hq14 => ?_)
  obtain ⟨n14, f14, e14⟩ := hu_push (e := (Ai 80 (fun _ => 0))) hq14
  rw [e14]
  have b14 := hu_fr (e := (Ai 80 (fun _ => 0))) (Ne.symm n14) b13
  have g14 : MG a (aU (aU (aU (aU (aU (aU (aU (aU (aU (aU (aU (aU (aU (aU (fun _ => 0) 1 q1) 2 q2) 4 q3) 5 q4) 6 q5) 7 q6) 8 q7) 9 q8) 10 q9) 12 q10) 13 q11) 14 q12) 15 q13) 17 q14) [17, 15, 14, 13, 12, 10, 9, 8, 7, 6, 5, 4, 2, 1] k (hu k13 q14 (Ai 80 (fun _ => 0))) := g13.add f14 n14 (by decide)
  clear g13 b13 e14 hq14 f14
  generalize hu k13 q14 (Ai 80 (fun _ => 0)) = k14 at g14 b14 ⊢
  refine pf_X12_53 rfl rfl 117 dX12_init_114 rfl hu_s (Nat.le_of_ble_eq_true rfl) ?_
  rw [hu_hu]
  show J _ _ _ _ _ _ _ _ (hu k14 a (Ob 13 [.int 0, .ref q1, .ref q2, .int 1, .ref q3, .ref q4, .ref q5, .ref q6, .ref q7, .ref q8, .ref q9, .int 0, .ref q10, .ref q11, .ref q12, .ref q13, .int 0, .ref q14, .null, .null, .null, .null, .null, .null, .null, .null, .null, .null, .int 0, .null, .int 0, .null, .null, .int 0, .null, .int 0, .null, .null, .null, .null, .null, .null, .null, .null, .null, .int 0, .int 0, .int 0, .int 0, .null, .null, .int 0, .null, .null, .null, .int 0, .int 0, .int 0, .null, .null, .int 0, .null])) _
  refine J.aload_n 118 dX12_init_117 rfl rfl ?_
  refine J.bipush 80 120 dX12_init_118 rfl (by decide) ?_
  refine J.newi (N := 80) 122 dX12_init_120 rfl wm_80 (by decide) (by decide) (by decide) rfl rfl (fun q15 hq15 => ?_)
  obtain ⟨n15, f15, e15⟩ := hu_push (e := (Ai 80 (fun _ => 0))) hq15
  rw [e15]
  have b15 := hu_fr (e := (Ai 80 (fun _ => 0))) (Ne.symm n15) b14
  have g15 : MG a (aU (aU (aU (aU (aU (aU (aU (aU (aU (aU (aU (aU (aU (aU (aU (fun _ => 0) 1 q1) 2 q2) 4 q3) 5 q4) 6 q5) 7 q6) 8 q7) 9 q8) 10 q9) 12 q10) 13 q11) 14 q12) 15 q13) 17 q14) 18 q15) [18, 17, 15, 14, 13, 12, 10, 9, 8, 7, 6, 5, 4, 2, 1] k (hu k14 q15 (Ai 80 (fun _ => 0))) := g14.add f15 n15 (by decide)
  clear g14 b14 e15 hq15 f15
  generalize hu k14 q15 (Ai 80 (fun _ => 0)) = k15 at g15 b15 ⊢
  refine pf_X12_56 rfl rfl 125 dX12_init_122 rfl hu_s (Nat.le_of_ble_eq_true rfl) ?_
  rw [hu_hu]
  show J _ _ _ _ _ _ _ _ (hu k15 a (Ob 13 [.int 0, .ref q1, .ref q2, .int 1, .ref q3, .ref q4, .ref q5, .ref q6, .ref q7, .ref q8, .ref q9, .int 0, .ref q10, .ref q11, .ref q12, .ref q13, .int 0, .ref q14, .ref q15, .null, .null, .null, .null, .null, .null, .null, .null, .null, .int 0, .null, .int 0, .null, .null, .int 0, .null, .int 0, .null, .null, .null, .null, .null, .null, .null, .null, .null, .int 0, .int 0, .int 0, .int 0, .null, .null, .int 0, .null, .null, .null, .int 0, .int 0, .int 0, .null, .null, .int 0, .null])) _
  refine J.aload_n 126 dX12_init_125 rfl rfl ?_
  refine J.bipush 80 128 dX12_init_126 rfl (by decide) ?_
  refine J.newi (N := 80) 130 dX12_init_128 rfl wm_80 (by decide) (by decide) (by decide) rfl rfl (fun q16 hq16 => ?_)
  obtain ⟨n16, f16, e16⟩ := hu_push (e := (Ai 80 (fun _ => 0))) hq16
  rw [e16]
  have b16 := hu_fr (e := (Ai 80 (fun _ => 0))) (Ne.symm n16) b15
  have g16 : MG a (aU (aU (aU (aU (aU (aU (aU (aU (aU (aU (aU (aU (aU (aU (aU (aU (fun _ => 0) 1 q1) 2 q2) 4 q3) 5 q4) 6 q5) 7 q6) 8 q7) 9 q8) 10 q9) 12 q10) 13 q11) 14 q12) 15 q13) 17 q14) 18 q15) 19 q16) [19, 18, 17, 15, 14, 13, 12, 10, 9, 8, 7, 6, 5, 4, 2, 1] k (hu k15 q16 (Ai 80 (fun _ => 0))) := g15.add f16 n16 (by decide)
  clear g15 b15 e16 hq16 f16
  generalize hu k15 q16 (Ai 80 (fun _ => 0)) = k16 at g16 b16 ⊢
  refine pf_X12_59 rfl rfl 133 dX12_init_130 rfl hu_s (Nat.le_of_ble_eq_true rfl) ?_
  rw [hu_hu]
  show J _ _ _ _ _ _ _ _ (hu k16 a (Ob 13 [.int 0, .ref q1, .ref q2, .int 1, .ref q3, .ref q4, .ref q5, .ref q6, .ref q7, .ref q8, .ref q9, .int 0, .ref q10, .ref q11, .ref q12, .ref q13, .int 0, .ref q14, .ref q15, .ref q16, .null, .null, .null, .null, .null, .null, .null, .null, .int 0, .null, .int 0, .null, .null, .int 0, .null, .int 0, .null, .null, .null, .null, .null, .null, .null, .null, .null, .int 0, .int 0, .int 0, .int 0, .null, .null, .int 0, .null, .null, .null, .int 0, .int 0, .int 0, .null, .null, .int 0, .null])) _
  refine J.aload_n 134 dX12_init_133 rfl rfl ?_
  refine J.bipush 80 136 dX12_init_134 rfl (by decide) ?_
  refine J.newi (N := 80) 138 dX12_init_136 rfl wm_80 (by decide) (by decide) (by decide) rfl rfl (fun q17 hq17 => ?_)
  obtain ⟨n17, f17, e17⟩ := hu_push (e := (Ai 80 (fun _ => 0))) hq17
  rw [e17]
  have b17 := hu_fr (e := (Ai 80 (fun _ => 0))) (Ne.symm n17) b16
  have g17 : MG a (aU (aU (aU (aU (aU (aU (aU (aU (aU (aU (aU (aU (aU (aU (aU (aU (aU (fun _ => 0) 1 q1) 2 q2) 4 q3) 5 q4) 6 q5) 7 q6) 8 q7) 9 q8) 10 q9) 12 q10) 13 q11) 14 q12) 15 q13) 17 q14) 18 q15) 19 q16) 20 q17) [20, 19, 18, 17, 15, 14, 13, 12, 10, 9, 8, 7, 6, 5, 4, 2, 1] k (hu k16 q17 (Ai 80 (fun _ => 0))) := g16.add f17 n17 (by decide)
  clear g16 b16 e17 hq17 f17
  generalize hu k16 q17 (Ai 80 (fun _ => 0)) = k17 at g17 b17 ⊢
  refine pf_X12_62 rfl rfl 141 dX12_init_138 rfl hu_s (Nat.le_of_ble_eq_true rfl) ?_
  rw [hu_hu]
  show J _ _ _ _ _ _ _ _ (hu k17 a (Ob 13 [.int 0, .ref q1, .ref q2, .int 1, .ref q3, .ref q4, .ref q5, .ref q6, .ref q7, .ref q8, .ref q9, .int 0, .ref q10, .ref q11, .ref q12, .ref q13, .int 0, .ref q14, .ref q15, .ref q16, .ref q17, .null, .null, .null, .null, .null, .null, .null, .int 0, .null, .int 0, .null, .null, .int 0, .null, .int 0, .null, .null, .null, .null, .null, .null, .null, .null, .null, .int 0, .int 0, .int 0, .int 0, .null, .null, .int 0, .null, .null, .null, .int 0, .int 0, .int 0, .null, .null, .int 0, .null])) _
  refine J.aload_n 142 dX12_init_141 rfl rfl ?_
  refine J.bipush 80 144 dX12_init_142 rfl (by decide) ?_
  refine J.newi (N := 80) 146 dX12_init_144 rfl wm_80 (by decide) (by decide) (by decide) rfl rfl (fun q18 hq18 => ?_)
  obtain ⟨n18, f18, e18⟩ := hu_push (e := (Ai 80 (fun _ => 0))) hq18
  rw [e18]
  have b18 := hu_fr (e := (Ai 80 (fun _ => 0))) (Ne.symm n18) b17
  have g18 : MG a (aU (aU (aU (aU (aU (aU (aU (aU (aU (aU (aU (aU (aU (aU (aU (aU (aU (aU (fun _ => 0) 1 q1) 2 q2) 4 q3) 5 q4) 6 q5) 7 q6) 8 q7) 9 q8) 10 q9) 12 q10) 13 q11) 14 q12) 15 q13) 17 q14) 18 q15) 19 q16) 20 q17) 21 q18) [21, 20, 19, 18, 17, 15, 14, 13, 12, 10, 9, 8, 7, 6, 5, 4, 2, 1] k (hu k17 q18 (Ai 80 (fun _ => 0))) := g17.add f18 n18 (by decide)
  clear g17 b17 e18 hq18 f18
  generalize hu k17 q18 (Ai 80 (fun _ => 0)) = k18 at g18 b18 ⊢
  refine pf_X12_65 rfl rfl 149 dX12_init_146 rfl hu_s (Nat.le_of_ble_eq_true rfl) ?_
  rw [hu_hu]
  show J _ _ _ _ _ _ _ _ (hu k18 a (Ob 13 [.int 0, .ref q1, .ref q2, .int 1, .ref q3, .ref q4, .ref q5, .ref q6, .ref q7, .ref q8, .ref q9, .int 0, .ref q10, .ref q11, .ref q12, .ref q13, .int 0, .ref q14, .ref q15, .ref q16, .ref q17, .ref q18, .null, .null, .null, .null, .null, .null, .int 0, .null, .int 0, .null, .null, .int 0, .null, .int 0, .null, .null, .null, .null, .null, .null, .null, .null, .null, .int 0, .int 0, .int 0, .int 0, .null, .null, .int 0, .null, .null, .null, .int 0, .int 0, .int 0, .null, .null, .int 0, .null])) _
  refine J.aload_n 150 dX12_init_149 rfl rfl ?_
  refine J.bipush 80 152 dX12_init_150 rfl (by decide) ?_
  refine J.newi (N := 80) 154 dX12_init_152 rfl wm_80 (by decide) (by decide) (by decide) rfl rfl (fun q19 hq19 => ?_)
  obtain ⟨n19, f19, e19⟩ := hu_push (e := (Ai 80 (fun _ => 0))) hq19
  rw [e19]
  have b19 := hu_fr (e := (Ai 80 (fun _ => 0))) (Ne.symm n19) b18
  have g19 : MG a (aU (aU (aU (aU (aU (aU (aU (aU (aU (aU (aU (aU (aU (aU (aU (aU (aU (aU (aU (fun _ => 0) 1 q1) 2 q2) 4 q3) 5 q4) 6 q5) 7 q6) 8 q7) 9 q8) 10 q9) 12 q10) 13 q11) 14 q12) 15 q13) 17 q14) 18 q15) 19 q16) 20 q17) 21 q18) 22 q19) [22, 21, 20, 19, 18, 17, 15, 14, 13, 12, 10, 9, 8, 7, 6, 5, 4, 2, 1] k (hu k18 q19 (Ai 80 (fun _ => 0))) := g18.add f19 n19 (by decide)
  clear g18 b18 e19 hq19 f19
  generalize hu k18 q19 (Ai 80 (fun _ => 0)) = k19 at g19 b19 ⊢
  refine pf_X12_68 rfl rfl 157 dX12_init_154 rfl hu_s (Nat.le_of_ble_eq_true rfl) ?_
  rw [hu_hu]
  show J _ _ _ _ _ _ _ _ (hu k19 a (Ob 13 [.int 0, .ref q1, .ref q2, .int 1, .ref q3, .ref q4, .ref q5, .ref q6, .ref q7, .ref q8, .ref q9, .int 0, .ref q10, .ref q11, .ref q12, .ref q13, .int 0, .ref q14, .ref q15, .ref q16, .ref q17, .ref q18, .ref q19, .null, .null, .null, .null, .null, .int 0, .null, .int 0, .null, .null, .int 0, .null, .int 0, .null, .null, .null, .null, .null, .null, .null, .null, .null, .int 0, .int 0, .int 0, .int 0, .null, .null, .int 0, .null, .null, .null, .int 0, .int 0, .int 0, .null, .null, .int 0, .null])) _
  refine J.aload_n 158 dX12_init_157 rfl rfl ?_
  refine J.bipush 80 160 dX12_init_158 rfl (by decide) ?_
  refine J.newi (N := 80) 162 dX12_init_160 rfl wm_80 (by decide) (by decide) (by decide) rfl rfl (fun q20 hq20 => ?_)
  obtain ⟨n20, f20, e20⟩ := hu_push (e := (Ai 80 (fun _ => 0))) hq20
  rw [e20]
  have b20 := hu_fr (e := (Ai 80 (fun _ => 0))) (Ne.symm n20) b19
  have g20 : MG a (aU (aU (aU (aU (aU (aU (aU (aU (aU (aU (aU (aU (aU (aU (aU (aU (aU (aU (aU (aU (fun _ => 0) 1 q1) 2 q2) 4 q3) 5 q4) 6 q5) 7 q6) 8 q7) 9 q8) 10 q9) 12 q10) 13 q11) 14 q12) 15 q13) 17 q14) 18 q15) 19 q16) 20 q17) 21 q18) 22 q19) 23 q20) [23, 22, 21, 20, 19, 18, 17, 15, 14, 13, 12, 10, 9, 8, 7, 6, 5, 4, 2, 1] k (hu k19 q20 (Ai 80 (fun _ => 0))) := g19.add f20 n20 (by decide)
  clear g19 b19 e20 hq20 f20
  generalize hu k19 q20 (Ai 80 (fun _ => 0)) = k20 at g20 b20 ⊢
  refine pf_X12_71 rfl rfl 165 dX12_init_162 rfl hu_s (Nat.le_of_ble_eq_true rfl) ?_
  rw [hu_hu]
  show J _ _ _ _ _ _ _ _ (hu k20 a (Ob 13 [.int 0, .ref q1, .ref q2, .int 1, .ref q3, .ref q4, .ref q5, .ref q6, .ref q7, .ref q8, .ref q9, .int 0, .ref q10, .ref q11, .ref q12, .ref q13, .int 0, .ref q14, .ref q15, .ref q16, .ref q17, .ref q18, .ref q19, .ref q20, .null, .null, .null, .null, .int 0, .null, .int 0, .null, .null, .int 0, .null, .int 0, .null, .null, .null, .null, .null, .null, .null, .null, .null, .int 0, .int 0, .int 0, .int 0, .null, .null, .int 0, .null, .null, .null, .int 0, .int 0, .int 0, .null, .null, .int 0, .null])) _
  refine J.aload_n 166 dX12_init_165 rfl rfl ?_
  refine J.bipush 80 168 dX12_init_166 rfl (by decide) ?_
  refine J.newi (N := 80) 170 dX12_init_168 rfl wm_80 (by decide) (by decide) (by decide) rfl rfl (fun q21 hq21 => ?_)
  obtain ⟨n21, f21, e21⟩ := hu_push (e := (Ai 80 (fun _ => 0))) hq21
  rw [e21]
  have b21 := hu_fr (e := (Ai 80 (fun _ => 0))) (Ne.symm n21) b20
  have g21 : MG a (aU (aU (aU (aU (aU (aU (aU (aU (aU (aU (aU (aU (aU (aU (aU (aU (aU (aU (aU (aU (aU (fun _ => 0) 1 q1) 2 q2) 4 q3) 5 q4) 6 q5) 7 q6) 8 q7) 9 q8) 10 q9) 12 q10) 13 q11) 14 q12) 15 q13) 17 q14) 18 q15) 19 q16) 20 q17) 21 q18) 22 q19) 23 q20) 24 q21) [24, 23, 22, 21, 20, 19, 18, 17, 15, 14, 13, 12, 10, 9, 8, 7, 6, 5, 4, 2, 1] k (hu k20 q21 (Ai 80 (fun _ => 0))) := g20.add f21 n21 (by decide)
  clear g20 b20 e21 hq21 f21
  generalize hu k20 q21 (Ai 80 (fun _ => 0)) = k21 at g21 b21 ⊢
  refine pf_X12_74 rfl rfl 173 dX12_init_170 rfl hu_s (Nat.le_of_ble_eq_true rfl) ?_
  rw [hu_hu]
  show J _ _ _ _ _ _ _ _ (hu k21 a (Ob 13 [.int 0, .ref q1, .ref q2, .int 1, .ref q3, .ref q4, .ref q5, .ref q6, .ref q7, .ref q8, .ref q9, .int 0, .ref q10, .ref q11, .ref q12, .ref q13, .int 0, .ref q14, .ref q15, .ref q16, .ref q17, .ref q18, .ref q19, .ref q20, .ref q21, .null, .null, .null, .int 0, .null, .int 0, .null, .null, .int 0, .null, .int 0, .null, .null, .null, .null, .null, .null, .null, .null, .null, .int 0, .int 0, .int 0, .int 0, .null, .null, .int 0, .null, .null, .null, .int 0, .int 0, .int 0, .null, .null, .int 0, .null])) _
  refine J.aload_n 174 dX12_init_173 rfl rfl ?_
  refine J.bipush 80 176 dX12_init_174 rfl (by decide) ?_
  refine J.newi (N := 80) 178 dX12_init_176 rfl wm_80 (by decide) (by decide) (by decide) rfl rfl (fun q22 hq22 => ?_)
  obtain ⟨n22, f22, e22⟩ := hu_push (e := (Ai 80 (fun _ => 0))) hq22
  rw [e22]
  have b22 := hu_fr (e := (Ai 80 (fun _ => 0))) (Ne.symm n22) b21
  have g22 : MG a (aU (aU (aU (aU (aU (aU (aU (aU (aU (aU (aU (aU (aU (aU (aU (aU (aU (aU (aU (aU (aU (aU (fun _ => 0) 1 q1) 2 q2) 4 q3) 5 q4) 6 q5) 7 q6) 8 q7) 9 q8) 10 q9) 12 q10) 13 q11) 14 q12) 15 q13) 17 q14) 18 q15) 19 q16) 20 q17) 21 q18) 22 q19) 23 q20) 24 q21) 25 q22) [25, 24, 23, 22, 21, 20, 19, 18, 17, 15, 14, 13, 12, 10, 9, 8, 7, 6, 5, 4, 2, 1] k (hu k21 q22 (Ai 80 (fun _ => 0))) := g21.add f22 n22 (by decide)
  clear g21 b21 e22 hq22 f22
  generalize hu k21 q22 (Ai 80 (fun _ => 0)) = k22 at g22 b22 ⊢
  refine pf_X12_77 rfl rfl 181 dX12_init_178 rfl hu_s (Nat.le_of_ble_eq_true rfl) ?_
  rw [hu_hu]
  show J _ _ _ _ _ _ _ _ (hu k22 a (Ob 13 [.int 0, .ref q1, .ref q2, .int 1, .ref q3, .ref q4, .ref q5, .ref q6, .ref q7, .ref q8, .ref q9, .int 0, .ref q10, .ref q11, .ref q12, .ref q13, .int 0, .ref q14, .ref q15, .ref q16, .ref q17, .ref q18, .ref q19, .ref q20, .ref q21, .ref q22, .null, .null, .int 0, .null, .int 0, .null, .null, .int 0, .null, .int 0, .null, .null, .null, .null, .null, .null, .null, .null, .null, .int 0, .int 0, .int 0, .int 0, .null, .null, .int 0, .null, .null, .null, .int 0, .int 0, .int 0, .null, .null, .int 0, .null])) _
  refine J.aload_n 182 dX12_init_181 rfl rfl ?_
  refine J.bipush 80 184 dX12_init_182 rfl (by decide) ?_
  refine J.newi (N := 80) 186 dX12_init_184 rfl wm_80 (by decide) (by decide) (by decide) rfl rfl (fun q23 hq23 => ?_)
  obtain ⟨n23, f23, e23⟩ := hu_push (e := (Ai 80 (fun _ => 0))) hq23
  rw [e23]
  have b23 := hu_fr (e := (Ai 80 (fun _ => 0))) (Ne.symm n23) b22
  have g23 : MG a (aU (aU (aU (aU (aU (aU (aU (aU (aU (aU (aU (aU (aU (aU (aU (aU (aU (aU (aU (aU (aU (aU (aU (fun _ => 0) 1 q1) 2 q2) 4 q3) 5 q4) 6 q5) 7 q6) 8 q7) 9 q8) 10 q9) 12 q10) 13 q11) 14 q12) 15 q13) 17 q14) 18 q15) 19 q16) 20 q17) 21 q18) 22 q19) 23 q20) 24 q21) 25 q22) 26 q23) [26, 25, 24, 23, 22, 21, 20, 19, 18, 17, 15, 14, 13, 12, 10, 9, 8, 7, 6, 5, 4, 2, 1] k (hu k22 q23 (Ai 80 (fun _ => 0))) := g22.add f23 n23 (by decide)
  clear g22 b22 e23 hq23 f23
  generalize hu k22 q23 (Ai 80 (fun _ => 0)) = k23 at g23 b23 ⊢
  refine pf_X12_80 rfl rfl 189 dX12_init_186 rfl hu_s (Nat.le_of_ble_eq_true rfl) ?_
  rw [hu_hu]
  show J _ _ _ _ _ _ _ _ (hu k23 a (Ob 13 [.int 0, .ref q1, .ref q2, .int 1, .ref q3, .ref q4, .ref q5, .ref q6, .ref q7, .ref q8, .ref q9, .int 0, .ref q10, .ref q11, .ref q12, .ref q13, .int 0, .ref q14, .ref q15, .ref q16, .ref q17, .ref q18, .ref q19, .ref q20, .ref q21, .ref q22, .ref q23, .null, .int 0, .null, .int 0, .null, .null, .int 0, .null, .int 0, .null, .null, .null, .null, .null, .null, .null, .null, .null, .int 0, .int 0, .int 0, .int 0, .null, .null, .int 0, .null, .null, .null, .int 0, .int 0, .int 0, .null, .null, .int 0, .null])) _
  refine J.aload_n 190 dX12_init_189 rfl rfl ?_
  refine J.bipush 80 192 dX12_init_190 rfl (by decide) ?_
  refine J.newi (N := 80) 194 dX12_init_192 rfl wm_80 (by decide) (by decide) (by decide) rfl rfl (fun q24 hq24 => ?_)
  obtain ⟨n24, f24, e24⟩ := hu_push (e := (Ai 80 (fun _ => 0))) hq24
  rw [e24]
  have b24 := hu_fr (e := (Ai 80 (fun _ => 0))) (Ne.symm n24) b23
  have g24 : MG a (aU (aU (aU (aU (aU (aU (aU (aU (aU (aU (aU (aU (aU (aU (aU (aU (aU (aU (aU (aU (aU (aU (aU (aU (fun _ => 0) 1 q1) 2 q2) 4 q3) 5 q4) 6 q5) 7 q6) 8 q7) 9 q8) 10 q9) 12 q10) 13 q11) 14 q12) 15 q13) 17 q14) 18 q15) 19 q16) 20 q17) 21 q18) 22 q19) 23 q20) 24 q21) 25 q22) 26 q23) 27 q24) [27, 26, 25, 24, 23, 22, 21, 20, 19, 18, 17, 15, 14, 13, 12, 10, 9, 8, 7, 6, 5, 4, 2, 1] k (hu k23 q24 (Ai 80 (fun _ => 0))) := g23.add f24 n24 (by decide)
  clear g23 b23 e24 hq24 f24
  generalize hu k23 q24 (Ai 80 (fun _ => 0)) = k24 at g24 b24 ⊢
  refine pf_X12_83 rfl rfl 197 dX12_init_194 rfl hu_s (Nat.le_of_ble_eq_true rfl) ?_
  rw [hu_hu]
  show J _ _ _ _ _ _ _ _ (hu k24 a (Ob 13 [.int 0, .ref q1, .ref q2, .int 1, .ref q3, .ref q4, .ref q5, .ref q6, .ref q7, .ref q8, .ref q9, .int 0, .ref q10, .ref q11, .ref q12, .ref q13, .int 0, .ref q14, .ref q15, .ref q16, .ref q17, .ref q18, .ref q19, .ref q20, .ref q21, .ref q22, .ref q23, .ref q24, .int 0, .null, .int 0, .null, .null, .int 0, .null, .int 0, .null, .null, .null, .null, .null, .null, .null, .null, .null, .int 0, .int 0, .int 0, .int 0, .null, .null, .int 0, .null, .null, .null, .int 0, .int 0, .int 0, .null, .null, .int 0, .null])) _
  refine J.aload_n 198 dX12_init_197 rfl rfl ?_
  refine J.bipush 60 200 dX12_init_198 rfl (by decide) ?_
  refine J.newi (N := 60) 202 dX12_init_200 rfl wm_80 (by decide) (by decide) (by decide) rfl rfl (fun q25 hq25 => ?_)
  obtain ⟨n25, f25, e25⟩ := hu_push (e := (Ai 60 (fun _ => 0))) hq25
  rw [e25]
  have b25 := hu_fr (e := (Ai 60 (fun _ => 0))) (Ne.symm n25) b24
  have g25 : MG a (aU (aU (aU (aU (aU (aU (aU (aU (aU (aU (aU (aU (aU (aU (aU (aU (aU (aU (aU (aU (aU (aU (aU (aU (aU (fun _ => 0) 1 q1) 2 q2) 4 q3) 5 q4) 6 q5) 7 q6) 8 q7) 9 q8) 10 q9) 12 q10) 13 q11) 14 q12) 15 q13) 17 q14) 18 q15) 19 q16) 20 q17) 21 q18) 22 q19) 23 q20) 24 q21) 25 q22) 26 q23) 27 q24) 29 q25) [29, 27, 26, 25, 24, 23, 22, 21, 20, 19, 18, 17, 15, 14, 13, 12, 10, 9, 8, 7, 6, 5, 4, 2, 1] k (hu k24 q25 (Ai 60 (fun _ => 0))) := g24.add f25 n25 (by decide)
  clear g24 b24 e25 hq25 f25
  generalize hu k24 q25 (Ai 60 (fun _ => 0)) = k25 at g25 b25 ⊢
  refine pf_X12_86 rfl rfl 205 dX12_init_202 rfl hu_s (Nat.le_of_ble_eq_true rfl) ?_
  rw [hu_hu]
  show J _ _ _ _ _ _ _ _ (hu k25 a (Ob 13 [.int 0, .ref q1, .ref q2, .int 1, .ref q3, .ref q4, .ref q5, .ref q6, .ref q7, .ref q8, .ref q9, .int 0, .ref q10, .ref q11, .ref q12, .ref q13, .int 0, .ref q14, .ref q15, .ref q16, .ref q17, .ref q18, .ref q19, .ref q20, .ref q21, .ref q22, .ref q23, .ref q24, .int 0, .ref q25, .int 0, .null, .null, .int 0, .null, .int 0, .null, .null, .null, .null, .null, .null, .null, .null, .null, .int 0, .int 0, .int 0, .int 0, .null, .null, .int 0, .null, .null, .null, .int 0, .int 0, .int 0, .null, .null, .int 0, .null])) _
  refine J.aload_n 206 dX12_init_205 rfl rfl ?_
  refine J.sipush 600 209 dX12_init_206 rfl (by decide) ?_
  refine J.newi (N := 600) 211 dX12_init_209 rfl wm_80 (by decide) (by decide) (by decide) rfl rfl (fun q26 hq26 => ?_)
  obtain ⟨n26, f26, e26⟩ := hu_push (e := (Ai 600 (fun _ => 0))) hq26
  rw [e26]
  have b26 := hu_fr (e := (Ai 600 (fun _ => 0))) (Ne.symm n26) b25
  have g26 : MG a (aU (aU (aU (aU (aU (aU (aU (aU (aU (aU (aU (aU (aU (aU (aU (aU (aU (aU (aU (aU (aU (aU (aU (aU (aU (aU (fun _ => 0) 1 q1) 2 q2) 4 q3) 5 q4) 6 q5) 7 q6) 8 q7) 9 q8) 10 q9) 12 q10) 13 q11) 14 q12) 15 q13) 17 q14) 18 q15) 19 q16) 20 q17) 21 q18) 22 q19) 23 q20) 24 q21) 25 q22) 26 q23) 27 q24) 29 q25) 31 q26) [31, 29, 27, 26, 25, 24, 23, 22, 21, 20, 19, 18, 17, 15, 14, 13, 12, 10, 9, 8, 7, 6, 5, 4, 2, 1] k (hu k25 q26 (Ai 600 (fun _ => 0))) := g25.add f26 n26 (by decide)
  clear g25 b25 e26 hq26 f26
  generalize hu k25 q26 (Ai 600 (fun _ => 0)) = k26 at g26 b26 ⊢
  refine pf_X12_89 rfl rfl 214 dX12_init_211 rfl hu_s (Nat.le_of_ble_eq_true rfl) ?_
  rw [hu_hu]
  show J _ _ _ _ _ _ _ _ (hu k26 a (Ob 13 [.int 0, .ref q1, .ref q2, .int 1, .ref q3, .ref q4, .ref q5, .ref q6, .ref q7, .ref q8, .ref q9, .int 0, .ref q10, .ref q11, .ref q12, .ref q13, .int 0, .ref q14, .ref q15, .ref q16, .ref q17, .ref q18, .ref q19, .ref q20, .ref q21, .ref q22, .ref q23, .ref q24, .int 0, .ref q25, .int 0, .ref q26, .null, .int 0, .null, .int 0, .null, .null, .null, .null, .null, .null, .null, .null, .null, .int 0, .int 0, .int 0, .int 0, .null, .null, .int 0, .null, .null, .null, .int 0, .int 0, .int 0, .null, .null, .int 0, .null])) _
  refine J.aload_n 215 dX12_init_214 rfl rfl ?_
  refine J.bipush 10 217 dX12_init_215 rfl (by decide) ?_
  refine J.newi (N := 10) 219 dX12_init_217 rfl wm_80 (by decide) (by decide) (by decide) rfl rfl (fun q27 hq27 => ?_)
  obtain ⟨n27, f27, e27⟩ := hu_push (e := (Ai 10 (fun _ => 0))) hq27
  rw [e27]
  have b27 := hu_fr (e := (Ai 10 (fun _ => 0))) (Ne.symm n27) b26
  have g27 : MG a (aU (aU (aU (aU (aU (aU (aU (aU (aU (aU (aU (aU (aU (aU (aU (aU (aU (aU (aU (aU (aU (aU (aU (aU (aU (aU (aU (fun _ => 0) 1 q1) 2 q2) 4 q3) 5 q4) 6 q5) 7 q6) 8 q7) 9 q8) 10 q9) 12 q10) 13 q11) 14 q12) 15 q13) 17 q14) 18 q15) 19 q16) 20 q17) 21 q18) 22 q19) 23 q20) 24 q21) 25 q22) 26 q23) 27 q24) 29 q25) 31 q26) 32 q27) [32, 31, 29, 27, 26, 25, 24, 23, 22, 21, 20, 19, 18, 17, 15, 14, 13, 12, 10, 9, 8, 7, 6, 5, 4, 2, 1] k (hu k26 q27 (Ai 10 (fun _ => 0))) := g26.add f27 n27 (by decide)
  clear g26 b26 e27 hq27 f27
  generalize hu k26 q27 (Ai 10 (fun _ => 0)) = k27 at g27 b27 ⊢
  refine pf_X12_92 rfl rfl 222 dX12_init_219 rfl hu_s (Nat.le_of_ble_eq_true rfl) ?_
  rw [hu_hu]
  show J _ _ _ _ _ _ _ _ (hu k27 a (Ob 13 [.int 0, .ref q1, .ref q2, .int 1, .ref q3, .ref q4, .ref q5, .ref q6, .ref q7, .ref q8, .ref q9, .int 0, .ref q10, .ref q11, .ref q12, .ref q13, .int 0, .ref q14, .ref q15, .ref q16, .ref q17, .ref q18, .ref q19, .ref q20, .ref q21, .ref q22, .ref q23, .ref q24, .int 0, .ref q25, .int 0, .ref q26, .ref q27, .int 0, .null, .int 0, .null, .null, .null, .null, .null, .null, .null, .null, .null, .int 0, .int 0, .int 0, .int 0, .null, .null, .int 0, .null, .null, .null, .int 0, .int 0, .int 0, .null, .null, .int 0, .null])) _
  refine J.aload_n 223 dX12_init_222 rfl rfl ?_
  refine J.bipush 20 225 dX12_init_223 rfl (by decide) ?_
  refine J.newi (N := 20) 227 dX12_init_225 rfl wm_80 (by decide) (by decide) (by decide) rfl rfl (fun q28 hq28 => ?_)
  obtain ⟨n28, f28, e28⟩ := hu_push (e := (Ai 20 (fun _ => 0))) hq28
  rw [e28]
  have b28 := hu_fr (e := (Ai 20 (fun _ => 0))) (Ne.symm n28) b27
  have g28 : MG a (aU (aU (aU (aU (aU (aU (aU (aU (aU (aU (aU (aU (aU (aU (aU (aU (aU (aU (aU (aU (aU (aU (aU (aU (aU (aU (aU (aU (fun _ => 0) 1 q1) 2 q2) 4 q3) 5 q4) 6 q5) 7 q6) 8 q7) 9 q8) 10 q9) 12 q10) 13 q11) 14 q12) 15 q13) 17 q14) 18 q15) 19 q16) 20 q17) 21 q18) 22 q19) 23 q20) 24 q21) 25 q22) 26 q23) 27 q24) 29 q25) 31 q26) 32 q27) 34 q28) [34, 32, 31, 29, 27, 26, 25, 24, 23, 22, 21, 20, 19, 18, 17, 15, 14, 13, 12, 10, 9, 8, 7, 6, 5, 4, 2, 1] k (hu k27 q28 (Ai 20 (fun _ => 0))) := g27.add f28 n28 (by decide)
  clear g27 b27 e28 hq28 f28
  generalize hu k27 q28 (Ai 20 (fun _ => 0)) = k28 at g28 b28 ⊢
  refine pf_X12_95 rfl rfl 230 dX12_init_227 rfl hu_s (Nat.le_of_ble_eq_true rfl) ?_
  rw [hu_hu]
  show J _ _ _ _ _ _ _ _ (hu k28 a (Ob 13 [.int 0, .ref q1, .ref q2, .int 1, .ref q3, .ref q4, .ref q5, .ref q6, .ref q7, .ref q8, .ref q9, .int 0, .ref q10, .ref q11, .ref q12, .ref q13, .int 0, .ref q14, .ref q15, .ref q16, .ref q17, .ref q18, .ref q19, .ref q20, .ref q21, .ref q22, .ref q23, .ref q24, .int 0, .ref q25, .int 0, .ref q26, .ref q27, .int 0, .ref q28, .int 0, .null, .null, .null, .null, .null, .null, .null, .null, .null, .int 0, .int 0, .int 0, .int 0, .null, .null, .int 0, .null, .null, .null, .int 0, .int 0, .int 0, .null, .null, .int 0, .null])) _
  refine J.aload_n 231 dX12_init_230 rfl rfl ?_
  refine J.sipush 200 234 dX12_init_231 rfl (by decide) ?_
  refine J.newi (N := 200) 236 dX12_init_234 rfl wm_80 (by decide) (by decide) (by decide) rfl rfl (fun q29 hq29 => ?_)
  obtain ⟨n29, f29, e29⟩ := hu_push (e := (Ai 200 (fun _ => 0))) hq29
  rw [e29]
  have b29 := hu_fr (e := (Ai 200 (fun _ => 0))) (Ne.symm n29) b28
  have g29 : MG a (aU (aU (aU (aU (aU (aU (aU (aU (aU (aU (aU (aU (aU (aU (aU (aU (aU (aU (aU (aU (aU (aU (aU (aU (aU (aU (aU (aU (aU (fun _ => 0) 1 q1) 2 q2) 4 q3) 5 q4) 6 q5) 7 q6) 8 q7) 9 q8) 10 q9) 12 q10) 13 q11) 14 q12) 15 q13) 17 q14) 18 q15) 19 q16) 20 q17) 21 q18) 22 q19) 23 q20) 24 q21) 25 q22) 26 q23) 27 q24) 29 q25) 31 q26) 32 q27) 34 q28) 36 q29) [36, 34, 32, 31, 29, 27, 26, 25, 24, 23, 22, 21, 20, 19, 18, 17, 15, 14, 13, 12, 10, 9, 8, 7, 6, 5, 4, 2, 1] k (hu k28 q29 (Ai 200 (fun _ => 0))) := g28.add f29 n29 (by decide)
  clear g28 b28 e29 hq29 f29
  generalize hu k28 q29 (Ai 200 (fun _ => 0)) = k29 at g29 b29 ⊢
  refine pf_X12_98 rfl rfl 239 dX12_init_236 rfl hu_s (Nat.le_of_ble_eq_true rfl) ?_
  rw [hu_hu]
  show J _ _ _ _ _ _ _ _ (hu k29 a (Ob 13 [.int 0, .ref q1, .ref q2, .int 1, .ref q3, .ref q4, .ref q5, .ref q6, .ref q7, .ref q8, .ref q9, .int 0, .ref q10, .ref q11, .ref q12, .ref q13, .int 0, .ref q14, .ref q15, .ref q16, .ref q17, .ref q18, .ref q19, .ref q20, .ref q21, .ref q22, .ref q23, .ref q24, .int 0, .ref q25, .int 0, .ref q26, .ref q27, .int 0, .ref q28, .int 0, .ref q29, .null, .null, .null, .null, .null, .null, .null, .null, .int 0, .int 0, .int 0, .int 0, .null, .null, .int 0, .null, .null, .null, .int 0, .int 0, .int 0, .null, .null, .int 0, .null])) _
  refine J.aload_n 240 dX12_init_239 rfl rfl ?_
  refine J.sipush 200 243 dX12_init_240 rfl (by decide) ?_
  refine J.newi (N := 200) 245 dX12_init_243 rfl wm_80 (by decide) (by decide) (by decide) rfl rfl (fun q30 hq30 => ?_)
  obtain ⟨n30, f30, e30⟩ := hu_push (e := (Ai 200 (fun _ => 0))) hq30
  rw [e30]
  have b30 := hu_fr (e := (Ai 200 (fun _ => 0))) (Ne.symm n30) b29
  have g30 : MG a (aU (aU (aU (aU (aU (aU (aU (aU (aU (aU (aU (aU (aU (aU (aU (aU (aU (aU (aU (aU (aU (aU (aU (aU (aU (aU (aU (aU (aU (aU (fun _ => 0) 1 q1) 2 q2) 4 q3) 5 q4) 6 q5) 7 q6) 8 q7) 9 q8) 10 q9) 12 q10) 13 q11) 14 q12) 15 q13) 17 q14) 18 q15) 19 q16) 20 q17) 21 q18) 22 q19) 23 q20) 24 q21) 25 q22) 26 q23) 27 q24) 29 q25) 31 q26) 32 q27) 34 q28) 36 q29) 37 q30) [37, 36, 34, 32, 31, 29, 27, 26, 25, 24, 23, 22, 21, 20, 19, 18, 17, 15, 14, 13, 12, 10, 9, 8, 7, 6, 5, 4, 2, 1] k (hu k29 q30 (Ai 200 (fun _ => 0))) := g29.add f30 n30 (by decide)
  clear g29 b29 e30 hq30 f30
  generalize hu k29 q30 (Ai 200 (fun _ => 0)) = k30 at g30 b30 ⊢
  refine pf_X12_101 rfl rfl 248 dX12_init_245 rfl hu_s (Nat.le_of_ble_eq_true rfl) ?_
  rw [hu_hu]
  show J _ _ _ _ _ _ _ _ (hu k30 a (Ob 13 [.int 0, .ref q1, .ref q2, .int 1, .ref q3, .ref q4, .ref q5, .ref q6, .ref q7, .ref q8, .ref q9, .int 0, .ref q10, .ref q11, .ref q12, .ref q13, .int 0, .ref q14, .ref q15, .ref q16, .ref q17, .ref q18, .ref q19, .ref q20, .ref q21, .ref q22, .ref q23, .ref q24, .int 0, .ref q25, .int 0, .ref q26, .ref q27, .int 0, .ref q28, .int 0, .ref q29, .ref q30, .null, .null, .null, .null, .null, .null, .null, .int 0, .int 0, .int 0, .int 0, .null, .null, .int 0, .null, .null, .null, .int 0, .int 0, .int 0, .null, .null, .int 0, .null])) _
  refine J.aload_n 249 dX12_init_248 rfl rfl ?_
  refine J.sipush 200 252 dX12_init_249 rfl (by decide) ?_
  refine J.newi (N := 200) 254 dX12_init_252 rfl wm_80 (by decide) (by decide) (by decide) rfl rfl (fun q31 hq31 => ?_)
  obtain ⟨n31, f31, e31⟩ := hu_push (e := (Ai 200 (fun _ => 0))) hq31
  rw [e31]
  have b31 := hu_fr (e := (Ai 200 (fun _ => 0))) (Ne.symm n31) b30
  have g31 : MG a (aU (aU (aU (aU (aU (aU (aU (aU (aU (aU (aU (aU (aU (aU (aU (aU (aU (aU (aU (aU (aU (aU (aU (aU (aU (aU (aU (aU (aU (aU (aU (fun _ => 0) 1 q1) 2 q2) 4 q3) 5 q4) 6 q5) 7 q6) 8 q7) 9 q8) 10 q9) 12 q10) 13 q11) 14 q12) 15 q13) 17 q14) 18 q15) 19 q16) 20 q17) 21 q18) 22 q19) 23 q20) 24 q21) 25 q22) 26 q23) 27 q24) 29 q25) 31 q26) 32 q27) 34 q28) 36 q29) 37 q30) 38 q31) [38, 37, 36, 34, 32, 31, 29, 27, 26, 25, 24, 23, 22, 21, 20, 19, 18, 17, 15, 14, 13, 12, 10, 9, 8, 7, 6, 5, 4, 2, 1] k (hu k30 q31 (Ai 200 (fun _ => 0))) := g30.add f31 n31 (by decide)
  clear g30 b30 e31 hq31 f31
  generalize hu k30 q31 (Ai 200 (fun _ => 0)) = k31 at g31 b31 ⊢
  refine pf_X12_104 rfl rfl 257 dX12_init_254 rfl hu_s (Nat.le_of_ble_eq_true rfl) ?_
  rw [hu_hu]
  show J _ _ _ _ _ _ _ _ (hu k31 a (Ob 13 [.int 0, .ref q1, .ref q2, .int 1, .ref q3, .ref q4, .ref q5, .ref q6, .ref q7, .ref q8, .ref q9, .int 0, .ref q10, .ref q11, .ref q12, .ref q13, .int 0, .ref q14, .ref q15, .ref q16, .ref q17, .ref q18, .ref q19, .ref q20, .ref q21, .ref q22, .ref q23, .ref q24, .int 0, .ref q25, .int 0, .ref q26, .ref q27, .int 0, .ref q28, .int 0, .ref q29, .ref q30, .ref q31, .null, .null, .null, .null, .null, .null, .int 0, .int 0, .int 0, .int 0, .null, .null, .int 0, .null, .null, .null, .int 0, .int 0, .int 0, .null, .null, .int 0, .null])) _
  refine J.aload_n 258 dX12_init_257 rfl rfl ?_
  refine J.sipush 200 261 dX12_init_258 rfl (by decide) ?_
  refine J.newi (N := 200) 263 dX12_init_261 rfl wm_80 (by decide) (by decide) (by decide) rfl rfl (fun q32 hq32 => ?_)
  obtain ⟨n32, f32, e32⟩ := hu_push (e := (Ai 200 (fun _ => 0))) hq32
  rw [e32]
  have b32 := hu_fr (e := (Ai 200 (fun _ => 0))) (Ne.symm n32) b31
  have g32 : MG a (aU (aU (aU (aU (aU (aU (aU (aU (aU (aU (aU (aU (aU (aU (aU (aU (aU (aU (aU (aU (aU (aU (aU (aU (aU (aU (aU (aU (aU (aU (aU (aU (fun _ => 0) 1 q1) 2 q2) 4 q3) 5 q4) 6 q5) 7 q6) 8 q7) 9 q8) 10 q9) 12 q10) 13 q11) 14 q12) 15 q13) 17 q14) 18 q15) 19 q16) 20 q17) 21 q18) 22 q19) 23 q20) 24 q21) 25 q22) 26 q23) 27 q24) 29 q25) 31 q26) 32 q27) 34 q28) 36 q29) 37 q30) 38 q31) 39 q32) [39, 38, 37, 36, 34, 32, 31, 29, 27, 26, 25, 24, 23, 22, 21, 20, 19, 18, 17, 15, 14, 13, 12, 10, 9, 8, 7, 6, 5, 4, 2, 1] k (hu k31 q32 (Ai 200 (fun _ => 0))) := g31.add f32 n32 (by decide)
  clear g31 b31 e32 hq32 f32
  generalize hu k31 q32 (Ai 200 (fun _ => 0)) = k32 at g32 b32 ⊢
  refine pf_X12_107 rfl rfl 266 dX12_init_263 rfl hu_s (Nat.le_of_ble_eq_true rfl) ?_
  rw [hu_hu]
  show J _ _ _ _ _ _ _ _ (hu k32 a (Ob 13 [.int 0, .ref q1, .ref q2, .int 1, .ref q3, .ref q4, .ref q5, .ref q6, .ref q7, .ref q8, .ref q9, .int 0, .ref q10, .ref q11, .ref q12, .ref q13, .int 0, .ref q14, .ref q15, .ref q16, .ref q17, .ref q18, .ref q19, .ref q20, .ref q21, .ref q22, .ref q23, .ref q24, .int 0, .ref q25, .int 0, .ref q26, .ref q27, .int 0, .ref q28, .int 0, .ref q29, .ref q30, .ref q31, .ref q32, .null, .null, .null, .null, .null, .int 0, .int 0, .int 0, .int 0, .null, .null, .int 0, .null, .null, .null, .int 0, .int 0, .int 0, .null, .null, .int 0, .null])) _
  refine J.aload_n 267 dX12_init_266 rfl rfl ?_
  refine J.sipush 200 270 dX12_init_267 rfl (by decide) ?_
  refine J.newi (N := 200) 272 dX12_init_270 rfl wm_80 (by decide) (by decide) (by decide) rfl rfl (fun q33 hq33 => ?_)
  obtain ⟨n33, f33, e33⟩ := hu_push (e := (Ai 200 (fun _ => 0))) hq33
  rw [e33]
  have b33 := hu_fr (e := (Ai 200 (fun _ => 0))) (Ne.symm n33) b32
  have g33 : MG a (aU (aU (aU (aU (aU (aU (aU (aU (aU (aU (aU (aU (aU (aU (aU (aU (aU (aU (aU (aU (aU (aU (aU (aU (aU (aU (aU (aU (aU (aU (aU (aU (aU (fun _ => 0) 1 q1) 2 q2) 4 q3) 5 q4) 6 q5) 7 q6) 8 q7) 9 q8) 10 q9) 12 q10) 13 q11) 14 q12) 15 q13) 17 q14) 18 q15) 19 q16) 20 q17) 21 q18) 22 q19) 23 q20) 24 q21) 25 q22) 26 q23) 27 q24) 29 q25) 31 q26) 32 q27) 34 q28) 36 q29) 37 q30) 38 q31) 39 q32) 40 q33) [40, 39, 38, 37, 36, 34, 32, 31, 29, 27, 26, 25, 24, 23, 22, 21, 20, 19, 18, 17, 15, 14, 13, 12, 10, 9, 8, 7, 6, 5, 4, 2, 1] k (hu k32 q33 (Ai 200 (fun _ => 0))) := g32.add f33 n33 (by decide)
  clear g32 b32 e33 hq33 f33
  generalize hu k32 q33 (Ai 200 (fun _ => 0)) = k33 at g33 b33 ⊢
  refine pf_X12_110 rfl rfl 275 dX12_init_272 rfl hu_s (Nat.le_of_ble_eq_true rfl) ?_
  rw [hu_hu]
  show J _ _ _ _ _ _ _ _ (hu k33 a (Ob 13 [.int 0, .ref q1, .ref q2, .int 1, .ref q3, .ref q4, .ref q5, .ref q6, .ref q7, .ref q8, .ref q9, .int 0, .ref q10, .ref q11, .ref q12, .ref q13, .int 0, .ref q14, .ref q15, .ref q16, .ref q17, .ref q18, .ref q19, .ref q20, .ref q21, .ref q22, .ref q23, .ref q24, .int 0, .ref q25, .int 0, .ref q26, .ref q27, .int 0, .ref q28, .int 0, .ref q29, .ref q30, .ref q31, .ref q32, .ref q33, .null, .null, .null, .null, .int 0, .int 0, .int 0, .int 0, .null, .null, .int 0, .null, .null, .null, .int 0, .int 0, .int 0, .null, .null, .int 0, .null])) _
  refine J.aload_n 276 dX12_init_275 rfl rfl ?_
  refine J.sipush 200 279 dX12_init_276 rfl (by decide) ?_
  refine J.newi (N := 200) 281 dX12_init_279 rfl wm_80 (by decide) (by decide) (by decide) rfl rfl (fun q34 hq34 => ?_)
  obtain ⟨n34, f34, e34⟩ := hu_push (e := (Ai 200 (fun _ => 0))) hq34
  rw [e34]
  have b34 := hu_fr (e := (Ai 200 (fun _ => 0))) (Ne.symm n34) b33
  have g34 : MG a (aU (aU (aU (aU (aU (aU (aU (aU (aU (aU (aU (aU (aU (aU (aU (aU (aU (aU (aU (aU (aU (aU (aU (aU (aU (aU (aU (aU (aU (aU (aU (aU (aU (aU (fun _ => 0) 1 q1) 2 q2) 4 q3) 5 q4) 6 q5) 7 q6) 8 q7) 9 q8) 10 q9) 12 q10) 13 q11) 14 q12) 15 q13) 17 q14) 18 q15) 19 q16) 20 q17) 21 q18) 22 q19) 23 q20) 24 q21) 25 q22) 26 q23) 27 q24) 29 q25) 31 q26) 32 q27) 34 q28) 36 q29) 37 q30) 38 q31) 39 q32) 40 q33) 41 q34) [41, 40, 39, 38, 37, 36, 34, 32, 31, 29, 27, 26, 25, 24, 23, 22, 21, 20, 19, 18, 17, 15, 14, 13, 12, 10, 9, 8, 7, 6, 5, 4, 2, 1] k (hu k33 q34 (Ai 200 (fun _ => 0))) := g33.add f34 n34 (by decide)
  clear g33 b33 e34 hq34 f34
  generalize hu k33 q34 (Ai 200 (fun _ => 0)) = k34 at g34 b34 ⊢
  refine pf_X12_113 rfl rfl 284 dX12_init_281 rfl hu_s (Nat.le_of_ble_eq_true rfl) ?_
  rw [hu_hu]
  show J _ _ _ _ _ _ _ _ (hu k34 a (Ob 13 [.int 0, .ref q1, .ref q2, .int 1, .ref q3, .ref q4, .ref q5, .ref q6, .ref q7, .ref q8, .ref q9, .int 0, .ref q10, .ref q11, .ref q12, .ref q13, .int 0, .ref q14, .ref q15, .ref q16, .ref q17, .ref q18, .ref q19, .ref q20, .ref q21, .ref q22, .ref q23, .ref q24, .int 0, .ref q25, .int 0, .ref q26, .ref q27, .int 0, .ref q28, .int 0, .ref q29, .ref q30, .ref q31, .ref q32, .ref q33, .ref q34, .null, .null, .null, .int 0, .int 0, .int 0, .int 0, .null, .null, .int 0, .null, .null, .null, .int 0, .int 0, .int 0, .null, .null, .int 0, .null])) _
  refine J.aload_n 285 dX12_init_284 rfl rfl ?_
  refine J.sipush 200 288 dX12_init_285 rfl (by decide) ?_
  refine J.newi (N := 200) 290 dX12_init_288 rfl wm_80 (by decide) (by decide) (by decide) rfl rfl (fun q35 hq35 => ?_)
  obtain ⟨n35, f35, e35⟩ := hu_push (e := (Ai 200 (fun _ => 0))) hq35
  rw [e35]
  have b35 := hu_fr (e := (Ai 200 (fun _ => 0))) (Ne.symm n35) b34
  have g35 : MG a (aU (aU (aU (aU (aU (aU (aU (aU (aU (aU (aU (aU (aU (aU (aU (aU (aU (aU (aU (aU (aU (aU (aU (aU (aU (aU (aU (aU (aU (aU (aU (aU (aU (aU (aU (fun _ => 0) 1 q1) 2 q2) 4 q3) 5 q4) 6 q5) 7 q6) 8 q7) 9 q8) 10 q9) 12 q10) 13 q11) 14 q12) 15 q13) 17 q14) 18 q15) 19 q16) 20 q17) 21 q18) 22 q19) 23 q20) 24 q21) 25 q22) 26 q23) 27 q24) 29 q25) 31 q26) 32 q27) 34 q28) 36 q29) 37 q30) 38 q31) 39 q32) 40 q33) 41 q34) 42 q35) [42, 41, 40, 39, 38, 37, 36, 34, 32, 31, 29, 27, 26, 25, 24, 23, 22, 21, 20, 19, 18, 17, 15, 14, 13, 12, 10, 9, 8, 7, 6, 5, 4, 2, 1] k (hu k34 q35 (Ai 200 (fun _ => 0))) := g34.add f35 n35 (by decide)
  clear g34 b34 e35 hq35 f35
  generalize hu k34 q35 (Ai 200 (fun _ => 0)) = k35 at g35 b35 ⊢
  refine pf_X12_116 rfl rfl 293 dX12_init_290 rfl hu_s (Nat.le_of_ble_eq_true rfl) ?_
  rw [hu_hu]
  show J _ _ _ _ _ _ _ _ (hu k35 a (Ob 13 [.int 0, .ref q1, .ref q2, .int 1, .ref q3, .ref q4, .ref q5, .ref q6, .ref q7, .ref q8, .ref q9, .int 0, .ref q10, .ref q11, .ref q12, .ref q13, .int 0, .ref q14, .ref q15, .ref q16, .ref q17, .ref q18, .ref q19, .ref q20, .ref q21, .ref q22, .ref q23, .ref q24, .int 0, .ref q25, .int 0, .ref q26, .ref q27, .int 0, .ref q28, .int 0, .ref q29, .ref q30, .ref q31, .ref q32, .ref q33, .ref q34, .ref q35, .null, .null, .int 0, .int 0, .int 0, .int 0, .null, .null, .int 0, .null, .null, .null, .int 0, .int 0, .int 0, .null, .null, .int 0, .null])) _
  refine J.aload_n 294 dX12_init_293 rfl rfl ?_
  refine J.sipush 200 297 dX12_init_294 rfl (by decide) ?_
  refine J.newi (N := 200) 299 dX12_init_297 rfl wm_80 (by decide) (by decide) (by decide) rfl rfl (fun q36 hq36 => ?_)
  obtain ⟨n36, f36, e36⟩ := hu_push (e := (Ai 200 (fun _ => 0))) hq36
  rw [e36]
  have b36 := hu_fr (e := (Ai 200 (fun _ => 0))) (Ne.symm n36) b35
  have g36 : MG a (aU (aU (aU (aU (aU (aU (aU (aU (aU (aU (aU (aU (aU (aU (aU (aU (aU (aU (aU (aU (aU (aU (aU (aU (aU (aU (aU (aU (aU (aU (aU (aU (aU (aU (aU (aU (fun _ => 0) 1 q1) 2 q2) 4 q3) 5 q4) 6 q5) 7 q6) 8 q7) 9 q8) 10 q9) 12 q10) 13 q11) 14 q12) 15 q13) 17 q14) 18 q15) 19 q16) 20 q17) 21 q18) 22 q19) 23 q20) 24 q21) 25 q22) 26 q23) 27 q24) 29 q25) 31 q26) 32 q27) 34 q28) 36 q29) 37 q30) 38 q31) 39 q32) 40 q33) 41 q34) 42 q35) 43 q36) [43, 42, 41, 40, 39, 38, 37, 36, 34, 32, 31, 29, 27, 26, 25, 24, 23, 22, 21, 20, 19, 18, 17, 15, 14, 13, 12, 10, 9, 8, 7, 6, 5, 4, 2, 1] k (hu k35 q36 (Ai 200 (fun _ => 0))) := g35.add f36 n36 (by decide)
  clear g35 b35 e36 hq36 f36
  generalize hu k35 q36 (Ai 200 (fun _ => 0)) = k36 at g36 b36 ⊢
  refine pf_X12_119 rfl rfl 302 dX12_init_299 rfl hu_s (Nat.le_of_ble_eq_true rfl) ?_
  rw [hu_hu]
  show J _ _ _ _ _ _ _ _ (hu k36 a (Ob 13 [.int 0, .ref q1, .ref q2, .int 1, .ref q3, .ref q4, .ref q5, .ref q6, .ref q7, .ref q8, .ref q9, .int 0, .ref q10, .ref q11, .ref q12, .ref q13, .int 0, .ref q14, .ref q15, .ref q16, .ref q17, .ref q18, .ref q19, .ref q20, .ref q21, .ref q22, .ref q23, .ref q24, .int 0, .ref q25, .int 0, .ref q26, .ref q27, .int 0, .ref q28, .int 0, .ref q29, .ref q30, .ref q31, .ref q32, .ref q33, .ref q34, .ref q35, .ref q36, .null, .int 0, .int 0, .int 0, .int 0, .null, .null, .int 0, .null, .null, .null, .int 0, .int 0, .int 0, .null, .null, .int 0, .null])) _
  refine J.aload_n 303 dX12_init_302 rfl rfl ?_
  refine J.sipush 200 306 dX12_init_303 rfl (by decide) ?_
  refine J.newi (N := 200) 308 dX12_init_306 rfl wm_80 (by decide) (by decide) (by decide) rfl rfl (fun q37 hq37 => ?_)
  obtain ⟨n37, f37, e37⟩ := hu_push (e := (Ai 200 (fun _ => 0))) hq37
  rw [e37]
  have b37 := hu_fr (e := (Ai 200 (fun _ => 0))) (Ne.symm n37) b36
  have g37 : MG a (aU (aU (aU (aU (aU (aU (aU (aU (aU (aU (aU (aU (aU (aU (aU (aU (aU (aU (aU (aU (aU (aU (aU (aU (aU (aU (aU (aU (aU (aU (aU (aU (aU (aU (aU (aU (aU (fun _ => 0) 1 q1) 2 q2) 4 q3) 5 q4) 6 q5) 7 q6) 8 q7) 9 q8) 10 q9) 12 q10) 13 q11) 14 q12) 15 q13) 17 q14) 18 q15) 19 q16) 20 q17) 21 q18) 22 q19) 23 q20) 24 q21) 25 q22) 26 q23) 27 q24) 29 q25) 31 q26) 32 q27) 34 q28) 36 q29) 37 q30) 38 q31) 39 q32) 40 q33) 41 q34) 42 q35) 43 q36) 44 q37) [44, 43, 42, 41, 40, 39, 38, 37, 36, 34, 32, 31, 29, 27, 26, 25, 24, 23, 22, 21, 20, 19, 18, 17, 15, 14, 13, 12, 10, 9, 8, 7, 6, 5, 4, 2, 1] k (hu k36 q37 (Ai 200 (fun _ => 0))) := g36.add f37 n37 (by decide)
  clear g36 b36 e37 hq37 f37
  generalize hu k36 q37 (Ai 200 (fun _ => 0)) = k37 at g37 b37 ⊢
  refine pf_X12_122 rfl rfl 311 dX12_init_308 rfl hu_s (Nat.le_of_ble_eq_true rfl) ?_
  rw [hu_hu]
  show J _ _ _ _ _ _ _ _ (hu k37 a (Ob 13 [.int 0, .ref q1, .ref q2, .int 1, .ref q3, .ref q4, .ref q5, .ref q6, .ref q7, .ref q8, .ref q9, .int 0, .ref q10, .ref q11, .ref q12, .ref q13, .int 0, .ref q14, .ref q15, .ref q16, .ref q17, .ref q18, .ref q19, .ref q20, .ref q21, .ref q22, .ref q23, .ref q24, .int 0, .ref q25, .int 0, .ref q26, .ref q27, .int 0, .ref q28, .int 0, .ref q29, .ref q30, .ref q31, .ref q32, .ref q33, .ref q34, .ref q35, .ref q36, .ref q37, .int 0, .int 0, .int 0, .int 0, .null, .null, .int 0, .null, .null, .null, .int 0, .int 0, .int 0, .null, .null, .int 0, .null])) _
  refine J.aload_n 312 dX12_init_311 rfl rfl ?_
  refine J.bipush 80 314 dX12_init_312 rfl (by decide) ?_
  refine J.newz (N := 80) 316 dX12_init_314 rfl wm_1171 (by decide) (by decide) (by decide) rfl rfl (fun q38 hq38 => ?_)
  obtain ⟨n38, f38, e38⟩ := hu_push (e := (Az 80 (fun _ => 0))) hq38
  rw [e38]
  have b38 := hu_fr (e := (Az 80 (fun _ => 0))) (Ne.symm n38) b37
  have g38 : MG a (aU (aU (aU (aU (aU (aU (aU (aU (aU (aU (aU (aU (aU (aU (aU (aU (aU (aU (aU (aU (aU (aU (aU (aU (aU (aU (aU (aU (aU (aU (aU (aU (aU (aU (aU (aU (aU (aU (fun _ => 0) 1 q1) 2 q2) 4 q3) 5 q4) 6 q5) 7 q6) 8 q7) 9 q8) 10 q9) 12 q10) 13 q11) 14 q12) 15 q13) 17 q14) 18 q15) 19 q16) 20 q17) 21 q18) 22 q19) 23 q20) 24 q21) 25 q22) 26 q23) 27 q24) 29 q25) 31 q26) 32 q27) 34 q28) 36 q29) 37 q30) 38 q31) 39 q32) 40 q33) 41 q34) 42 q35) 43 q36) 44 q37) 49 q38) [49, 44, 43, 42, 41, 40, 39, 38, 37, 36, 34, 32, 31, 29, 27, 26, 25, 24, 23, 22, 21, 20, 19, 18, 17, 15, 14, 13, 12, 10, 9, 8, 7, 6, 5, 4, 2, 1] k (hu k37 q38 (Az 80 (fun _ => 0))) := g37.add f38 n38 (by decide)
  clear g37 b37 e38 hq38 f38
  generalize hu k37 q38 (Az 80 (fun _ => 0)) = k38 at g38 b38 ⊢
  refine pf_X12_125 rfl rfl 319 dX12_init_316 rfl hu_s (Nat.le_of_ble_eq_true rfl) ?_
  rw [hu_hu]
  show J _ _ _ _ _ _ _ _ (hu k38 a (Ob 13 [.int 0, .ref q1, .ref q2, .int 1, .ref q3, .ref q4, .ref q5, .ref q6, .ref q7, .ref q8, .ref q9, .int 0, .ref q10, .ref q11, .ref q12, .ref q13, .int 0, .ref q14, .ref q15, .ref q16, .ref q17, .ref q18, .ref q19, .ref q20, .ref q21, .ref q22, .ref q23, .ref q24, .int 0, .ref q25, .int 0, .ref q26, .ref q27, .int 0, .ref q28, .int 0, .ref q29, .ref q30, .ref q31, .ref q32, .ref q33, .ref q34, .ref q35, .ref q36, .ref q37, .int 0, .int 0, .int 0, .int 0, .ref q38, .null, .int 0, .null, .null, .null, .int 0, .int 0, .int 0, .null, .null, .int 0, .null])) _
  refine J.aload_n 320 dX12_init_319 rfl rfl ?_
  refine J.iconst 5 321 dX12_init_320 rfl (by decide) ?_
  refine J.newi (N := 5) 323 dX12_init_321 rfl wm_80 (by decide) (by decide) (by decide) rfl rfl (fun q39 hq39 => ?_)
  obtain ⟨n39, f39, e39⟩ := hu_push (e := (Ai 5 (fun _ => 0))) hq39
  rw [e39]
  have b39 := hu_fr (e := (Ai 5 (fun _ => 0))) (Ne.symm n39) b38
  have g39 : MG a (aU (aU (aU (aU (aU (aU (aU (aU (aU (aU (aU (aU (aU (aU (aU (aU (aU (aU (aU (aU (aU (aU (aU (aU (aU (aU (aU (aU (aU (aU (aU (aU (aU (aU (aU (aU (aU (aU (aU (fun _ => 0) 1 q1) 2 q2) 4 q3) 5 q4) 6 q5) 7 q6) 8 q7) 9 q8) 10 q9) 12 q10) 13 q11) 14 q12) 15 q13) 17 q14) 18 q15) 19 q16) 20 q17) 21 q18) 22 q19) 23 q20) 24 q21) 25 q22) 26 q23) 27 q24) 29 q25) 31 q26) 32 q27) 34 q28) 36 q29) 37 q30) 38 q31) 39 q32) 40 q33) 41 q34) 42 q35) 43 q36) 44 q37) 49 q38) 50 q39) [50, 49, 44, 43, 42, 41, 40, 39, 38, 37, 36, 34, 32, 31, 29, 27, 26, 25, 24, 23, 22, 21, 20, 19, 18, 17, 15, 14, 13, 12, 10, 9, 8, 7, 6, 5, 4, 2, 1] k (hu k38 q39 (Ai 5 (fun _ => 0))) := g38.add f39 n39 (by decide)
  clear g38 b38 e39 hq39 f39
  generalize hu k38 q39 (Ai 5 (fun _ => 0)) = k39 at g39 b39 ⊢
  refine pf_X12_129 rfl rfl 326 dX12_init_323 rfl hu_s (Nat.le_of_ble_eq_true rfl) ?_
  rw [hu_hu]
  show J _ _ _ _ _ _ _ _ (hu k39 a (Ob 13 [.int 0, .ref q1, .ref q2, .int 1, .ref q3, .ref q4, .ref q5, .ref q6, .ref q7, .ref q8, .ref q9, .int 0, .ref q10, .ref q11, .ref q12, .ref q13, .int 0, .ref q14, .ref q15, .ref q16, .ref q17, .ref q18, .ref q19, .ref q20, .ref q21, .ref q22, .ref q23, .ref q24, .int 0, .ref q25, .int 0, .ref q26, .ref q27, .int 0, .ref q28, .int 0, .ref q29, .ref q30, .ref q31, .ref q32, .ref q33, .ref q34, .ref q35, .ref q36, .ref q37, .int 0, .int 0, .int 0, .int 0, .ref q38, .ref q39, .int 0, .null, .null, .null, .int 0, .int 0, .int 0, .null, .null, .int 0, .null])) _
  refine J.aload_n 327 dX12_init_326 rfl rfl ?_
  refine J.iconst 5 328 dX12_init_327 rfl (by decide) ?_
  refine J.newi (N := 5) 330 dX12_init_328 rfl wm_80 (by decide) (by decide) (by decide) rfl rfl (fun q40 hq40 => ?_)
  obtain ⟨n40, f40, e40⟩ := hu_push (e := (Ai 5 (fun _ => 0))) hq40
  rw [e40]
  have b40 := hu_fr (e := (Ai 5 (fun _ => 0))) (Ne.symm n40) b39
  have g40 : MG a (aU (aU (aU (aU (aU (aU (aU (aU (aU (aU (aU (aU (aU (aU (aU (aU (aU (aU (aU (aU (aU (aU (aU (aU (aU (aU (aU (aU (aU (aU (aU (aU (aU (aU (aU (aU (aU (aU (aU (aU (fun _ => 0) 1 q1) 2 q2) 4 q3) 5 q4) 6 q5) 7 q6) 8 q7) 9 q8) 10 q9) 12 q10) 13 q11) 14 q12) 15 q13) 17 q14) 18 q15) 19 q16) 20 q17) 21 q18) 22 q19) 23 q20) 24 q21) 25 q22) 26 q23) 27 q24) 29 q25) 31 q26) 32 q27) 34 q28) 36 q29) 37 q30) 38 q31) 39 q32) 40 q33) 41 q34) 42 q35) 43 q36) 44 q37) 49 q38) 50 q39) 52 q40) [52, 50, 49, 44, 43, 42, 41, 40, 39, 38, 37, 36, 34, 32, 31, 29, 27, 26, 25, 24, 23, 22, 21, 20, 19, 18, 17, 15, 14, 13, 12, 10, 9, 8, 7, 6, 5, 4, 2, 1] k (hu k39 q40 (Ai 5 (fun _ => 0))) := g39.add f40 n40 (by decide)
  clear g39 b39 e40 hq40 f40
  generalize hu k39 q40 (Ai 5 (fun _ => 0)) = k40 at g40 b40 ⊢
  refine pf_X12_132 rfl rfl 333 dX12_init_330 rfl hu_s (Nat.le_of_ble_eq_true rfl) ?_
  rw [hu_hu]
  show J _ _ _ _ _ _ _ _ (hu k40 a (Ob 13 [.int 0, .ref q1, .ref q2, .int 1, .ref q3, .ref q4, .ref q5, .ref q6, .ref q7, .ref q8, .ref q9, .int 0, .ref q10, .ref q11, .ref q12, .ref q13, .int 0, .ref q14, .ref q15, .ref q16, .ref q17, .ref q18, .ref q19, .ref q20, .ref q21, .ref q22, .ref q23, .ref q24, .int 0, .ref q25, .int 0, .ref q26, .ref q27, .int 0, .ref q28, .int 0, .ref q29, .ref q30, .ref q31, .ref q32, .ref q33, .ref q34, .ref q35, .ref q36, .ref q37, .int 0, .int 0, .int 0, .int 0, .ref q38, .ref q39, .int 0, .ref q40, .null, .null, .int 0, .int 0, .int 0, .null, .null, .int 0, .null])) _
  refine J.aload_n 334 dX12_init_333 rfl rfl ?_
  refine J.iconst 5 335 dX12_init_334 rfl (by decide) ?_
  refine J.newi (N := 5) 337 dX12_init_335 rfl wm_80 (by decide) (by decide) (by decide) rfl rfl (fun q41 hq41 => ?_)
  obtain ⟨n41, f41, e41⟩ := hu_push (e := (Ai 5 (fun _ => 0))) hq41
  rw [e41]
  have b41 := hu_fr (e := (Ai 5 (fun _ => 0))) (Ne.symm n41) b40
  have g41 : MG a (aU (aU (aU (aU (aU (aU (aU (aU (aU (aU (aU (aU (aU (aU (aU (aU (aU (aU (aU (aU (aU (aU (aU (aU (aU (aU (aU (aU (aU (aU (aU (aU (aU (aU (aU (aU (aU (aU (aU (aU (aU (fun _ => 0) 1 q1) 2 q2) 4 q3) 5 q4) 6 q5) 7 q6) 8 q7) 9 q8) 10 q9) 12 q10) 13 q11) 14 q12) 15 q13) 17 q14) 18 q15) 19 q16) 20 q17) 21 q18) 22 q19) 23 q20) 24 q21) 25 q22) 26 q23) 27 q24) 29 q25) 31 q26) 32 q27) 34 q28) 36 q29) 37 q30) 38 q31) 39 q32) 40 q33) 41 q34) 42 q35) 43 q36) 44 q37) 49 q38) 50 q39) 52 q40) 53 q41) [53, 52, 50, 49, 44, 43, 42, 41, 40, 39, 38, 37, 36, 34, 32, 31, 29, 27, 26, 25, 24, 23, 22, 21, 20, 19, 18, 17, 15, 14, 13, 12, 10, 9, 8, 7, 6, 5, 4, 2, 1] k (hu k40 q41 (Ai 5 (fun _ => 0))) := g40.add f41 n41 (by decide)
  clear g40 b40 e41 hq41 f41
  generalize hu k40 q41 (Ai 5 (fun _ => 0)) = k41 at g41 b41 ⊢
  refine pf_X12_135 rfl rfl 340 dX12_init_337 rfl hu_s (Nat.le_of_ble_eq_true rfl) ?_
  rw [hu_hu]
  show J _ _ _ _ _ _ _ _ (hu k41 a (Ob 13 [.int 0, .ref q1, .ref q2, .int 1, .ref q3, .ref q4, .ref q5, .ref q6, .ref q7, .ref q8, .ref q9, .int 0, .ref q10, .ref q11, .ref q12, .ref q13, .int 0, .ref q14, .ref q15, .ref q16, .ref q17, .ref q18, .ref q19, .ref q20, .ref q21, .ref q22, .ref q23, .ref q24, .int 0, .ref q25, .int 0, .ref q26, .ref q27, .int 0, .ref q28, .int 0, .ref q29, .ref q30, .ref q31, .ref q32, .ref q33, .ref q34, .ref q35, .ref q36, .ref q37, .int 0, .int 0, .int 0, .int 0, .ref q38, .ref q39, .int 0, .ref q40, .ref q41, .null, .int 0, .int 0, .int 0, .null, .null, .int 0, .null])) _
  refine J.aload_n 341 dX12_init_340 rfl rfl ?_
  refine J.iconst 5 342 dX12_init_341 rfl (by decide) ?_
  refine J.newz (N := 5) 344 dX12_init_342 rfl wm_1171 (by decide) (by decide) (by decide) rfl rfl (fun q42 hq42 => ?_)
  obtain ⟨n42, f42, e42⟩ := hu_push (e := (Az 5 (fun _ => 0))) hq42
  rw [e42]
  have b42 := hu_fr (e := (Az 5 (fun _ => 0))) (Ne.symm n42) b41
  have g42 : MG a (aU (aU (aU (aU (aU (aU (aU (aU (aU (aU (aU (aU (aU (aU (aU (aU (aU (aU (aU (aU (aU (aU (aU (aU (aU (aU (aU (aU (aU (aU (aU (aU (aU (aU (aU (aU (aU (aU (aU (aU (aU (aU (fun _ => 0) 1 q1) 2 q2) 4 q3) 5 q4) 6 q5) 7 q6) 8 q7) 9 q8) 10 q9) 12 q10) 13 q11) 14 q12) 15 q13) 17 q14) 18 q15) 19 q16) 20 q17) 21 q18) 22 q19) 23 q20) 24 q21) 25 q22) 26 q23) 27 q24) 29 q25) 31 q26) 32 q27) 34 q28) 36 q29) 37 q30) 38 q31) 39 q32) 40 q33) 41 q34) 42 q35) 43 q36) 44 q37) 49 q38) 50 q39) 52 q40) 53 q41) 54 q42) [54, 53, 52, 50, 49, 44, 43, 42, 41, 40, 39, 38, 37, 36, 34, 32, 31, 29, 27, 26, 25, 24, 23, 22, 21, 20, 19, 18, 17, 15, 14, 13, 12, 10, 9, 8, 7, 6, 5, 4, 2, 1] k (hu k41 q42 (Az 5 (fun _ => 0))) := g41.add f42 n42 (by decide)
  clear g41 b41 e42 hq42 f42
  generalize hu k41 q42 (Az 5 (fun _ => 0)) = k42 at g42 b42 ⊢
  refine pf_X12_138 rfl rfl 347 dX12_init_344 rfl hu_s (Nat.le_of_ble_eq_true rfl) ?_
  rw [hu_hu]
  show J _ _ _ _ _ _ _ _ (hu k42 a (Ob 13 [.int 0, .ref q1, .ref q2, .int 1, .ref q3, .ref q4, .ref q5, .ref q6, .ref q7, .ref q8, .ref q9, .int 0, .ref q10, .ref q11, .ref q12, .ref q13, .int 0, .ref q14, .ref q15, .ref q16, .ref q17, .ref q18, .ref q19, .ref q20, .ref q21, .ref q22, .ref q23, .ref q24, .int 0, .ref q25, .int 0, .ref q26, .ref q27, .int 0, .ref q28, .int 0, .ref q29, .ref q30, .ref q31, .ref q32, .ref q33, .ref q34, .ref q35, .ref q36, .ref q37, .int 0, .int 0, .int 0, .int 0, .ref q38, .ref q39, .int 0, .ref q40, .ref q41, .ref q42, .int 0, .int 0, .int 0, .null, .null, .int 0, .null])) _
  refine J.aload_n 348 dX12_init_347 rfl rfl ?_
  refine J.iconst (-1) 349 dX12_init_348 rfl (by decide) ?_
  refine pf_X12_141 rfl 352 dX12_init_349 rfl hu_s (Nat.le_of_ble_eq_true rfl) ?_
  rw [hu_hu]
  show J _ _ _ _ _ _ _ _ (hu k42 a (Ob 13 [.int 0, .ref q1, .ref q2, .int 1, .ref q3, .ref q4, .ref q5, .ref q6, .ref q7, .ref q8, .ref q9, .int 0, .ref q10, .ref q11, .ref q12, .ref q13, .int 0, .ref q14, .ref q15, .ref q16, .ref q17, .ref q18, .ref q19, .ref q20, .ref q21, .ref q22, .ref q23, .ref q24, .int 0, .ref q25, .int 0, .ref q26, .ref q27, .int 0, .ref q28, .int 0, .ref q29, .ref q30, .ref q31, .ref q32, .ref q33, .ref q34, .ref q35, .ref q36, .ref q37, .int 0, .int 0, .int 0, .int 0, .ref q38, .ref q39, .int 0, .ref q40, .ref q41, .ref q42, .int (-1), .int 0, .int 0, .null, .null, .int 0, .null])) _
  refine J.aload_n 353 dX12_init_352 rfl rfl ?_
  refine J.bipush 9 355 dX12_init_353 rfl (by decide) ?_
  refine J.newi (N := 9) 357 dX12_init_355 rfl wm_80 (by decide) (by decide) (by decide) rfl rfl (fun q43 hq43 => ?_)
  obtain ⟨n43, f43, e43⟩ := hu_push (e := (Ai 9 (fun _ => 0))) hq43
  rw [e43]
  have b43 := hu_fr (e := (Ai 9 (fun _ => 0))) (Ne.symm n43) b42
  have g43 : MG a (aU (aU (aU (aU (aU (aU (aU (aU (aU (aU (aU (aU (aU (aU (aU (aU (aU (aU (aU (aU (aU (aU (aU (aU (aU (aU (aU (aU (aU (aU (aU (aU (aU (aU (aU (aU (aU (aU (aU (aU (aU (aU (aU (fun _ => 0) 1 q1) 2 q2) 4 q3) 5 q4) 6 q5) 7 q6) 8 q7) 9 q8) 10 q9) 12 q10) 13 q11) 14 q12) 15 q13) 17 q14) 18 q15) 19 q16) 20 q17) 21 q18) 22 q19) 23 q20) 24 q21) 25 q22) 26 q23) 27 q24) 29 q25) 31 q26) 32 q27) 34 q28) 36 q29) 37 q30) 38 q31) 39 q32) 40 q33) 41 q34) 42 q35) 43 q36) 44 q37) 49 q38) 50 q39) 52 q40) 53 q41) 54 q42) 58 q43) [58, 54, 53, 52, 50, 49, 44, 43, 42, 41, 40, 39, 38, 37, 36, 34, 32, 31, 29, 27, 26, 25, 24, 23, 22, 21, 20, 19, 18, 17, 15, 14, 13, 12, 10, 9, 8, 7, 6, 5, 4, 2, 1] k (hu k42 q43 (Ai 9 (fun _ => 0))) := g42.add f43 n43 (by decide)
  clear g42 b42 e43 hq43 f43
  generalize hu k42 q43 (Ai 9 (fun _ => 0)) = k43 at g43 b43 ⊢
  refine pf_X12_144 rfl rfl 360 dX12_init_357 rfl hu_s (Nat.le_of_ble_eq_true rfl) ?_
  rw [hu_hu]
  show J _ _ _ _ _ _ _ _ (hu k43 a (Ob 13 [.int 0, .ref q1, .ref q2, .int 1, .ref q3, .ref q4, .ref q5, .ref q6, .ref q7, .ref q8, .ref q9, .int 0, .ref q10, .ref q11, .ref q12, .ref q13, .int 0, .ref q14, .ref q15, .ref q16, .ref q17, .ref q18, .ref q19, .ref q20, .ref q21, .ref q22, .ref q23, .ref q24, .int 0, .ref q25, .int 0, .ref q26, .ref q27, .int 0, .ref q28, .int 0, .ref q29, .ref q30, .ref q31, .ref q32, .ref q33, .ref q34, .ref q35, .ref q36, .ref q37, .int 0, .int 0, .int 0, .int 0, .ref q38, .ref q39, .int 0, .ref q40, .ref q41, .ref q42, .int (-1), .int 0, .int 0, .ref q43, .null, .int 0, .null])) _
  refine J.aload_n 361 dX12_init_360 rfl rfl ?_
  refine J.bipush 9 363 dX12_init_361 rfl (by decide) ?_
  refine J.newi (N := 9) 365 dX12_init_363 rfl wm_80 (by decide) (by decide) (by decide) rfl rfl (fun q44 hq44 => ?_)
  obtain ⟨n44, f44, e44⟩ := hu_push (e := (Ai 9 (fun _ => 0))) hq44
  rw [e44]
  have b44 := hu_fr (e := (Ai 9 (fun _ => 0))) (Ne.symm n44) b43
  have g44 : MG a (aU (aU (aU (aU (aU (aU (aU (aU (aU (aU (aU (aU (aU (aU (aU (aU (aU (aU (aU (aU (aU (aU (aU (aU (aU (aU (aU (aU (aU (aU (aU (aU (aU (aU (aU (aU (aU (aU (aU (aU (aU (aU (aU (aU (fun _ => 0) 1 q1) 2 q2) 4 q3) 5 q4) 6 q5) 7 q6) 8 q7) 9 q8) 10 q9) 12 q10) 13 q11) 14 q12) 15 q13) 17 q14) 18 q15) 19 q16) 20 q17) 21 q18) 22 q19) 23 q20) 24 q21) 25 q22) 26 q23) 27 q24) 29 q25) 31 q26) 32 q27) 34 q28) 36 q29) 37 q30) 38 q31) 39 q32) 40 q33) 41 q34) 42 q35) 43 q36) 44 q37) 49 q38) 50 q39) 52 q40) 53 q41) 54 q42) 58 q43) 59 q44) [59, 58, 54, 53, 52, 50, 49, 44, 43, 42, 41, 40, 39, 38, 37, 36, 34, 32, 31, 29, 27, 26, 25, 24, 23, 22, 21, 20, 19, 18, 17, 15, 14, 13, 12, 10, 9, 8, 7, 6, 5, 4, 2, 1] k (hu k43 q44 (Ai 9 (fun _ => 0))) := g43.add f44 n44 (by decide)
  clear g43 b43 e44 hq44 f44
  generalize hu k43 q44 (Ai 9 (fun _ => 0)) = k44 at g44 b44 ⊢
  refine pf_X12_147 rfl rfl 368 dX12_init_365 rfl hu_s (Nat.le_of_ble_eq_true rfl) ?_
  rw [hu_hu]
  show J _ _ _ _ _ _ _ _ (hu k44 a (Ob 13 [.int 0, .ref q1, .ref q2, .int 1, .ref q3, .ref q4, .ref q5, .ref q6, .ref q7, .ref q8, .ref q9, .int 0, .ref q10, .ref q11, .ref q12, .ref q13, .int 0, .ref q14, .ref q15, .ref q16, .ref q17, .ref q18, .ref q19, .ref q20, .ref q21, .ref q22, .ref q23, .ref q24, .int 0, .ref q25, .int 0, .ref q26, .ref q27, .int 0, .ref q28, .int 0, .ref q29, .ref q30, .ref q31, .ref q32, .ref q33, .ref q34, .ref q35, .ref q36, .ref q37, .int 0, .int 0, .int 0, .int 0, .ref q38, .ref q39, .int 0, .ref q40, .ref q41, .ref q42, .int (-1), .int 0, .int 0, .ref q43, .ref q44, .int 0, .null])) _
  refine J.aload_n 369 dX12_init_368 rfl rfl ?_
  refine J.iconst 5 370 dX12_init_369 rfl (by decide) ?_
  refine J.newi (N := 5) 372 dX12_init_370 rfl wm_80 (by decide) (by decide) (by decide) rfl rfl (fun q45 hq45 => ?_)
  obtain ⟨n45, f45, e45⟩ := hu_push (e := (Ai 5 (fun _ => 0))) hq45
  rw [e45]
  have b45 := hu_fr (e := (Ai 5 (fun _ => 0))) (Ne.symm n45) b44
  have g45 : MG a (aU (aU (aU (aU (aU (aU (aU (aU (aU (aU (aU (aU (aU (aU (aU (aU (aU (aU (aU (aU (aU (aU (aU (aU (aU (aU (aU (aU (aU (aU (aU (aU (aU (aU (aU (aU (aU (aU (aU (aU (aU (aU (aU (aU (aU (fun _ => 0) 1 q1) 2 q2) 4 q3) 5 q4) 6 q5) 7 q6) 8 q7) 9 q8) 10 q9) 12 q10) 13 q11) 14 q12) 15 q13) 17 q14) 18 q15) 19 q16) 20 q17) 21 q18) 22 q19) 23 q20) 24 q21) 25 q22) 26 q23) 27 q24) 29 q25) 31 q26) 32 q27) 34 q28) 36 q29) 37 q30) 38 q31) 39 q32) 40 q33) 41 q34) 42 q35) 43 q36) 44 q37) 49 q38) 50 q39) 52 q40) 53 q41) 54 q42) 58 q43) 59 q44) 61 q45) [61, 59, 58, 54, 53, 52, 50, 49, 44, 43, 42, 41, 40, 39, 38, 37, 36, 34, 32, 31, 29, 27, 26, 25, 24, 23, 22, 21, 20, 19, 18, 17, 15, 14, 13, 12, 10, 9, 8, 7, 6, 5, 4, 2, 1] k (hu k44 q45 (Ai 5 (fun _ => 0))) := g44.add f45 n45 (by decide)
  clear g44 b44 e45 hq45 f45
  generalize hu k44 q45 (Ai 5 (fun _ => 0)) = k45 at g45 b45 ⊢
  refine pf_X12_150 rfl rfl 375 dX12_init_372 rfl hu_s (Nat.le_of_ble_eq_true rfl) ?_
  rw [hu_hu]
  show J _ _ _ _ _ _ _ _ (hu k45 a (Ob 13 [.int 0, .ref q1, .ref q2, .int 1, .ref q3, .ref q4, .ref q5, .ref q6, .ref q7, .ref q8, .ref q9, .int 0, .ref q10, .ref q11, .ref q12, .ref q13, .int 0, .ref q14, .ref q15, .ref q16, .ref q17, .ref q18, .ref q19, .ref q20, .ref q21, .ref q22, .ref q23, .ref q24, .int 0, .ref q25, .int 0, .ref q26, .ref q27, .int 0, .ref q28, .int 0, .ref q29, .ref q30, .ref q31, .ref q32, .ref q33, .ref q34, .ref q35, .ref q36, .ref q37, .int 0, .int 0, .int 0, .int 0, .ref q38, .ref q39, .int 0, .ref q40, .ref q41, .ref q42, .int (-1), .int 0, .int 0, .ref q43, .ref q44, .int 0, .ref q45])) _
  have hM : MR a (aU (aU (aU (aU (aU (aU (aU (aU (aU (aU (aU (aU (aU (aU (aU (aU (aU (aU (aU (aU (aU (aU (aU (aU (aU (aU (aU (aU (aU (aU (aU (aU (aU (aU (aU (aU (aU (aU (aU (aU (aU (aU (aU (aU (aU (fun _ => 0) 1 q1) 2 q2) 4 q3) 5 q4) 6 q5) 7 q6) 8 q7) 9 q8) 10 q9) 12 q10) 13 q11) 14 q12) 15 q13) 17 q14) 18 q15) 19 q16) 20 q17) 21 q18) 22 q19) 23 q20) 24 q21) 25 q22) 26 q23) 27 q24) 29 q25) 31 q26) 32 q27) 34 q28) 36 q29) 37 q30) 38 q31) 39 q32) 40 q33) 41 q34) 42 q35) 43 q36) 44 q37) 49 q38) 50 q39) 52 q40) 53 q41) 54 q42) 58 q43) 59 q44) 61 q45) m1 (hu k45 a (Ob 13 [.int 0, .ref q1, .ref q2, .int 1, .ref q3, .ref q4, .ref q5, .ref q6, .ref q7, .ref q8, .ref q9, .int 0, .ref q10, .ref q11, .ref q12, .ref q13, .int 0, .ref q14, .ref q15, .ref q16, .ref q17, .ref q18, .ref q19, .ref q20, .ref q21, .ref q22, .ref q23, .ref q24, .int 0, .ref q25, .int 0, .ref q26, .ref q27, .int 0, .ref q28, .int 0, .ref q29, .ref q30, .ref q31, .ref q32, .ref q33, .ref q34, .ref q35, .ref q36, .ref q37, .int 0, .int 0, .int 0, .int 0, .ref q38, .ref q39, .int 0, .ref q40, .ref q41, .ref q42, .int (-1), .int 0, .int 0, .ref q43, .ref q44, .int 0, .ref q45])) := ⟨hu_s, fun k hk => by rw [hu_n (g45.1 k (mk_all k hk)).2.2]; exact (g45.1 k (mk_all k hk)).1, fun k hk => (g45.1 k (mk_all k hk)).2.2, fun j k hj hk => g45.2.1 j k (mk_all j hj) (mk_all k hk)⟩
  have hF : MF a (aU (aU (aU (aU (aU (aU (aU (aU (aU (aU (aU (aU (aU (aU (aU (aU (aU (aU (aU (aU (aU (aU (aU (aU (aU (aU (aU (aU (aU (aU (aU (aU (aU (aU (aU (aU (aU (aU (aU (aU (aU (aU (aU (aU (aU (fun _ => 0) 1 q1) 2 q2) 4 q3) 5 q4) 6 q5) 7 q6) 8 q7) 9 q8) 10 q9) 12 q10) 13 q11) 14 q12) 15 q13) 17 q14) 18 q15) 19 q16) 20 q17) 21 q18) 22 q19) 23 q20) 24 q21) 25 q22) 26 q23) 27 q24) 29 q25) 31 q26) 32 q27) 34 q28) 36 q29) 37 q30) 38 q31) 39 q32) 40 q33) 41 q34) 42 q35) 43 q36) 44 q37) 49 q38) 50 q39) 52 q40) 53 q41) 54 q42) 58 q43) 59 q44) 61 q45) (hu k45 a (Ob 13 [.int 0, .ref q1, .ref q2, .int 1, .ref q3, .ref q4, .ref q5, .ref q6, .ref q7, .ref q8, .ref q9, .int 0, .ref q10, .ref q11, .ref q12, .ref q13, .int 0, .ref q14, .ref q15, .ref q16, .ref q17, .ref q18, .ref q19, .ref q20, .ref q21, .ref q22, .ref q23, .ref q24, .int 0, .ref q25, .int 0, .ref q26, .ref q27, .int 0, .ref q28, .int 0, .ref q29, .ref q30, .ref q31, .ref q32, .ref q33, .ref q34, .ref q35, .ref q36, .ref q37, .int 0, .int 0, .int 0, .int 0, .ref q38, .ref q39, .int 0, .ref q40, .ref q41, .ref q42, .int (-1), .int 0, .int 0, .ref q43, .ref q44, .int 0, .ref q45])) (hu k45 a (Ob 13 [.int 0, .ref q1, .ref q2, .int 1, .ref q3, .ref q4, .ref q5, .ref q6, .ref q7, .ref q8, .ref q9, .int 0, .ref q10, .ref q11, .ref q12, .ref q13, .int 0, .ref q14, .ref q15, .ref q16, .ref q17, .ref q18, .ref q19, .ref q20, .ref q21, .ref q22, .ref q23, .ref q24, .int 0, .ref q25, .int 0, .ref q26, .ref q27, .int 0, .ref q28, .int 0, .ref q29, .ref q30, .ref q31, .ref q32, .ref q33, .ref q34, .ref q35, .ref q36, .ref q37, .int 0, .int 0, .int 0, .int 0, .ref q38, .ref q39, .int 0, .ref q40, .ref q41, .ref q42, .int (-1), .int 0, .int 0, .ref q43, .ref q44, .int 0, .ref q45])) := fun _ _ _ => rfl
  have hfr : ∀ k2, mk k2 = true → k ((aU (aU (aU (aU (aU (aU (aU (aU (aU (aU (aU (aU (aU (aU (aU (aU (aU (aU (aU (aU (aU (aU (aU (aU (aU (aU (aU (aU (aU (aU (aU (aU (aU (aU (aU (aU (aU (aU (aU (aU (aU (aU (aU (aU (aU (fun _ => 0) 1 q1) 2 q2) 4 q3) 5 q4) 6 q5) 7 q6) 8 q7) 9 q8) 10 q9) 12 q10) 13 q11) 14 q12) 15 q13) 17 q14) 18 q15) 19 q16) 20 q17) 21 q18) 22 q19) 23 q20) 24 q21) 25 q22) 26 q23) 27 q24) 29 q25) 31 q26) 32 q27) 34 q28) 36 q29) 37 q30) 38 q31) 39 q32) 40 q33) 41 q34) 42 q35) 43 q36) 44 q37) 49 q38) 50 q39) 52 q40) 53 q41) 54 q42) 58 q43) 59 q44) 61 q45) k2) = none := fun k2 hk => (g45.1 k2 (mk_all k2 hk)).2.1
  have hkp : ∀ b, k b ≠ none → b ≠ a ∧ (hu k45 a (Ob 13 [.int 0, .ref q1, .ref q2, .int 1, .ref q3, .ref q4, .ref q5, .ref q6, .ref q7, .ref q8, .ref q9, .int 0, .ref q10, .ref q11, .ref q12, .ref q13, .int 0, .ref q14, .ref q15, .ref q16, .ref q17, .ref q18, .ref q19, .ref q20, .ref q21, .ref q22, .ref q23, .ref q24, .int 0, .ref q25, .int 0, .ref q26, .ref q27, .int 0, .ref q28, .int 0, .ref q29, .ref q30, .ref q31, .ref q32, .ref q33, .ref q34, .ref q35, .ref q36, .ref q37, .int 0, .int 0, .int 0, .int 0, .ref q38, .ref q39, .int 0, .ref q40, .ref q41, .ref q42, .int (-1), .int 0, .int 0, .ref q43, .ref q44, .int 0, .ref q45])) b = k b := fun b hb => ⟨fun z => hb (by rw [z]; exact ha), by rw [hu_n (fun z => hb (by rw [z]; exact ha))]; exact g45.2.2 b hb⟩
  clear g45 b45
  generalize (aU (aU (aU (aU (aU (aU (aU (aU (aU (aU (aU (aU (aU (aU (aU (aU (aU (aU (aU (aU (aU (aU (aU (aU (aU (aU (aU (aU (aU (aU (aU (aU (aU (aU (aU (aU (aU (aU (aU (aU (aU (aU (aU (aU (aU (fun _ => 0) 1 q1) 2 q2) 4 q3) 5 q4) 6 q5) 7 q6) 8 q7) 9 q8) 10 q9) 12 q10) 13 q11) 14 q12) 15 q13) 17 q14) 18 q15) 19 q16) 20 q17) 21 q18) 22 q19) 23 q20) 24 q21) 25 q22) 26 q23) 27 q24) 29 q25) 31 q26) 32 q27) 34 q28) 36 q29) 37 q30) 38 q31) 39 q32) 40 q33) 41 q34) 42 q35) 43 q36) 44 q37) 49 q38) 50 q39) 52 q40) 53 q41) 54 q42) 58 q43) 59 q44) 61 q45) = ad at hM hF hfr
  generalize hu k45 a (Ob 13 [.int 0, .ref q1, .ref q2, .int 1, .ref q3, .ref q4, .ref q5, .ref q6, .ref q7, .ref q8, .ref q9, .int 0, .ref q10, .ref q11, .ref q12, .ref q13, .int 0, .ref q14, .ref q15, .ref q16, .ref q17, .ref q18, .ref q19, .ref q20, .ref q21, .ref q22, .ref q23, .ref q24, .int 0, .ref q25, .int 0, .ref q26, .ref q27, .int 0, .ref q28, .int 0, .ref q29, .ref q30, .ref q31, .ref q32, .ref q33, .ref q34, .ref q35, .ref q36, .ref q37, .int 0, .int 0, .int 0, .int 0, .ref q38, .ref q39, .int 0, .ref q40, .ref q41, .ref q42, .int (-1), .int 0, .int 0, .ref q43, .ref q44, .int 0, .ref q45]) = h at hM hF hkp ⊢
  refine J.iconst 0 376 dX12_init_375 rfl (by decide) ?_
  refine J.ist_1 377 dX12_init_376 rfl (by decide) ?_
  refine J.iload_n 378 dX12_init_377 rfl rfl ?_
  refine J.bipush 12 380 dX12_init_378 rfl (by decide) ?_
  refine J.icmp_ge 397 383 dX12_init_380 (by decide) rfl (fun c => absurd c (show ¬ (12 : Int32) ≤ 0 by decide)) (fun _ => ?_)
  refine J.aload_n 384 dX12_init_383 rfl rfl ?_
  refine mg_26 hM rfl 387 dX12_init_384 rfl ?_
  refine J.iload_n 388 dX12_init_387 rfl rfl ?_
  refine J.bipush 9 390 dX12_init_388 rfl (by decide) ?_
  refine ml_is hM hF 0 (by decide) rfl rfl (by unfold vp_in; decide) 391 dX12_init_390 rfl (fun h hM hF => ?_)
  refine J.iinc_1 1 394 dX12_init_391 rfl (by decide) (by decide) ?_
  refine J.goto 377 dX12_init_394 (by decide) ?_
  refine J.iload_n 378 dX12_init_377 rfl rfl ?_
  refine J.bipush 12 380 dX12_init_378 rfl (by decide) ?_
  refine J.icmp_ge 397 383 dX12_init_380 (by decide) rfl (fun c => absurd c (show ¬ (12 : Int32) ≤ (0 + 1) by decide)) (fun _ => ?_)
  refine J.aload_n 384 dX12_init_383 rfl rfl ?_
  refine mg_26 hM rfl 387 dX12_init_384 rfl ?_
  refine J.iload_n 388 dX12_init_387 rfl rfl ?_
  refine J.bipush 9 390 dX12_init_388 rfl (by decide) ?_
  refine ml_is hM hF 1 (by decide) rfl rfl (by unfold vp_in; decide) 391 dX12_init_390 rfl (fun h hM hF => ?_)
  refine J.iinc_1 1 394 dX12_init_391 rfl (by decide) (by decide) ?_
  refine J.goto 377 dX12_init_394 (by decide) ?_
  refine J.iload_n 378 dX12_init_377 rfl rfl ?_
  refine J.bipush 12 380 dX12_init_378 rfl (by decide) ?_
  refine J.icmp_ge 397 383 dX12_init_380 (by decide) rfl (fun c => absurd c (show ¬ (12 : Int32) ≤ ((0 + 1) + 1) by decide)) (fun _ => ?_)
  refine J.aload_n 384 dX12_init_383 rfl rfl ?_
  refine mg_26 hM rfl 387 dX12_init_384 rfl ?_
  refine J.iload_n 388 dX12_init_387 rfl rfl ?_
  refine J.bipush 9 390 dX12_init_388 rfl (by decide) ?_
  refine ml_is hM hF 2 (by decide) rfl rfl (by unfold vp_in; decide) 391 dX12_init_390 rfl (fun h hM hF => ?_)
  refine J.iinc_1 1 394 dX12_init_391 rfl (by decide) (by decide) ?_
  refine J.goto 377 dX12_init_394 (by decide) ?_
  refine J.iload_n 378 dX12_init_377 rfl rfl ?_
  refine J.bipush 12 380 dX12_init_378 rfl (by decide) ?_
  refine J.icmp_ge 397 383 dX12_init_380 (by decide) rfl (fun c => absurd c (show ¬ (12 : Int32) ≤ (((0 + 1) + 1) + 1) by decide)) (fun _ => ?_)
  refine J.aload_n 384 dX12_init_383 rfl rfl ?_
  refine mg_26 hM rfl 387 dX12_init_384 rfl ?_
  refine J.iload_n 388 dX12_init_387 rfl rfl ?_
  refine J.bipush 9 390 dX12_init_388 rfl (by decide) ?_
  refine ml_is hM hF 3 (by decide) rfl rfl (by unfold vp_in; decide) 391 dX12_init_390 rfl (fun h hM hF => ?_)
  refine J.iinc_1 1 394 dX12_init_391 rfl (by decide) (by decide) ?_
  refine J.goto 377 dX12_init_394 (by decide) ?_
  refine J.iload_n 378 dX12_init_377 rfl rfl ?_
  refine J.bipush 12 380 dX12_init_378 rfl (by decide) ?_
  refine J.icmp_ge 397 383 dX12_init_380 (by decide) rfl (fun c => absurd c (show ¬ (12 : Int32) ≤ ((((0 + 1) + 1) + 1) + 1) by decide)) (fun _ => ?_)
  refine J.aload_n 384 dX12_init_383 rfl rfl ?_
  refine mg_26 hM rfl 387 dX12_init_384 rfl ?_
  refine J.iload_n 388 dX12_init_387 rfl rfl ?_
  refine J.bipush 9 390 dX12_init_388 rfl (by decide) ?_
  refine ml_is hM hF 4 (by decide) rfl rfl (by unfold vp_in; decide) 391 dX12_init_390 rfl (fun h hM hF => ?_)
  refine J.iinc_1 1 394 dX12_init_391 rfl (by decide) (by decide) ?_
  refine J.goto 377 dX12_init_394 (by decide) ?_
  refine J.iload_n 378 dX12_init_377 rfl rfl ?_
  refine J.bipush 12 380 dX12_init_378 rfl (by decide) ?_
  refine J.icmp_ge 397 383 dX12_init_380 (by decide) rfl (fun c => absurd c (show ¬ (12 : Int32) ≤ (((((0 + 1) + 1) + 1) + 1) + 1) by decide)) (fun _ => ?_)
  refine J.aload_n 384 dX12_init_383 rfl rfl ?_
  refine mg_26 hM rfl 387 dX12_init_384 rfl ?_
  refine J.iload_n 388 dX12_init_387 rfl rfl ?_
  refine J.bipush 9 390 dX12_init_388 rfl (by decide) ?_
  refine ml_is hM hF 5 (by decide) rfl rfl (by unfold vp_in; decide) 391 dX12_init_390 rfl (fun h hM hF => ?_)
  refine J.iinc_1 1 394 dX12_init_391 rfl (by decide) (by decide) ?_
  refine J.goto 377 dX12_init_394 (by decide) ?_
  refine J.iload_n 378 dX12_init_377 rfl rfl ?_
  refine J.bipush 12 380 dX12_init_378 rfl (by decide) ?_
  refine J.icmp_ge 397 383 dX12_init_380 (by decide) rfl (fun c => absurd c (show ¬ (12 : Int32) ≤ ((((((0 + 1) + 1) + 1) + 1) + 1) + 1) by decide)) (fun _ => ?_)
  refine J.aload_n 384 dX12_init_383 rfl rfl ?_
  refine mg_26 hM rfl 387 dX12_init_384 rfl ?_
  refine J.iload_n 388 dX12_init_387 rfl rfl ?_
  refine J.bipush 9 390 dX12_init_388 rfl (by decide) ?_
  refine ml_is hM hF 6 (by decide) rfl rfl (by unfold vp_in; decide) 391 dX12_init_390 rfl (fun h hM hF => ?_)
  refine J.iinc_1 1 394 dX12_init_391 rfl (by decide) (by decide) ?_
  refine J.goto 377 dX12_init_394 (by decide) ?_
  refine J.iload_n 378 dX12_init_377 rfl rfl ?_
  refine J.bipush 12 380 dX12_init_378 rfl (by decide) ?_
  refine J.icmp_ge 397 383 dX12_init_380 (by decide) rfl (fun c => absurd c (show ¬ (12 : Int32) ≤ (((((((0 + 1) + 1) + 1) + 1) + 1) + 1) + 1) by decide)) (fun _ => ?_)
  refine J.aload_n 384 dX12_init_383 rfl rfl ?_
  refine mg_26 hM rfl 387 dX12_init_384 rfl ?_
  refine J.iload_n 388 dX12_init_387 rfl rfl ?_
  refine J.bipush 9 390 dX12_init_388 rfl (by decide) ?_
  refine ml_is hM hF 7 (by decide) rfl rfl (by unfold vp_in; decide) 391 dX12_init_390 rfl (fun h hM hF => ?_)
  refine J.iinc_1 1 394 dX12_init_391 rfl (by decide) (by decide) ?_
  refine J.goto 377 dX12_init_394 (by decide) ?_
  refine J.iload_n 378 dX12_init_377 rfl rfl ?_
  refine J.bipush 12 380 dX12_init_378 rfl (by decide) ?_
  refine J.icmp_ge 397 383 dX12_init_380 (by decide) rfl (fun c => absurd c (show ¬ (12 : Int32) ≤ ((((((((0 + 1) + 1) + 1) + 1) + 1) + 1) + 1) + 1) by decide)) (fun _ => ?_)
  refine J.aload_n 384 dX12_init_383 rfl rfl ?_
  refine mg_26 hM rfl 387 dX12_init_384 rfl ?_
  refine J.iload_n 388 dX12_init_387 rfl rfl ?_
  refine J.bipush 9 390 dX12_init_388 rfl (by decide) ?_
  refine ml_is hM hF 8 (by decide) rfl rfl (by unfold vp_in; decide) 391 dX12_init_390 rfl (fun h hM hF => ?_)
  refine J.iinc_1 1 394 dX12_init_391 rfl (by decide) (by decide) ?_
  refine J.goto 377 dX12_init_394 (by decide) ?_
  refine J.iload_n 378 dX12_init_377 rfl rfl ?_
  refine J.bipush 12 380 dX12_init_378 rfl (by decide) ?_
  refine J.icmp_ge 397 383 dX12_init_380 (by decide) rfl (fun c => absurd c (show ¬ (12 : Int32) ≤ (((((((((0 + 1) + 1) + 1) + 1) + 1) + 1) + 1) + 1) + 1) by decide)) (fun _ => ?_)
  refine J.aload_n 384 dX12_init_383 rfl rfl ?_
  refine mg_26 hM rfl 387 dX12_init_384 rfl ?_
  refine J.iload_n 388 dX12_init_387 rfl rfl ?_
  refine J.bipush 9 390 dX12_init_388 rfl (by decide) ?_
  refine ml_is hM hF 9 (by decide) rfl rfl (by unfold vp_in; decide) 391 dX12_init_390 rfl (fun h hM hF => ?_)
  refine J.iinc_1 1 394 dX12_init_391 rfl (by decide) (by decide) ?_
  refine J.goto 377 dX12_init_394 (by decide) ?_
  refine J.iload_n 378 dX12_init_377 rfl rfl ?_
  refine J.bipush 12 380 dX12_init_378 rfl (by decide) ?_
  refine J.icmp_ge 397 383 dX12_init_380 (by decide) rfl (fun c => absurd c (show ¬ (12 : Int32) ≤ ((((((((((0 + 1) + 1) + 1) + 1) + 1) + 1) + 1) + 1) + 1) + 1) by decide)) (fun _ => ?_)
  refine J.aload_n 384 dX12_init_383 rfl rfl ?_
  refine mg_26 hM rfl 387 dX12_init_384 rfl ?_
  refine J.iload_n 388 dX12_init_387 rfl rfl ?_
  refine J.bipush 9 390 dX12_init_388 rfl (by decide) ?_
  refine ml_is hM hF 10 (by decide) rfl rfl (by unfold vp_in; decide) 391 dX12_init_390 rfl (fun h hM hF => ?_)
  refine J.iinc_1 1 394 dX12_init_391 rfl (by decide) (by decide) ?_
  refine J.goto 377 dX12_init_394 (by decide) ?_
  refine J.iload_n 378 dX12_init_377 rfl rfl ?_
  refine J.bipush 12 380 dX12_init_378 rfl (by decide) ?_
  refine J.icmp_ge 397 383 dX12_init_380 (by decide) rfl (fun c => absurd c (show ¬ (12 : Int32) ≤ (((((((((((0 + 1) + 1) + 1) + 1) + 1) + 1) + 1) + 1) + 1) + 1) + 1) by decide)) (fun _ => ?_)
  refine J.aload_n 384 dX12_init_383 rfl rfl ?_
  refine mg_26 hM rfl 387 dX12_init_384 rfl ?_
  refine J.iload_n 388 dX12_init_387 rfl rfl ?_
  refine J.bipush 9 390 dX12_init_388 rfl (by decide) ?_
  refine ml_is hM hF 11 (by decide) rfl rfl (by unfold vp_in; decide) 391 dX12_init_390 rfl (fun h hM hF => ?_)
  refine J.iinc_1 1 394 dX12_init_391 rfl (by decide) (by decide) ?_
  refine J.goto 377 dX12_init_394 (by decide) ?_
  refine J.iload_n 378 dX12_init_377 rfl rfl ?_
  refine J.bipush 12 380 dX12_init_378 rfl (by decide) ?_
  refine J.icmp_ge 397 383 dX12_init_380 (by decide) rfl (fun _ => ?_) (fun c => absurd (show (12 : Int32) ≤ ((((((((((((0 + 1) + 1) + 1) + 1) + 1) + 1) + 1) + 1) + 1) + 1) + 1) + 1) by decide) c)
  rw [m1s] at hM
  exact J.vret dX12_init_397 rfl (by rw [← hpost]; exact ⟨rfl, ad, hM, hfr, fun b hb => (hF b (hkp b hb).1 (fun k2 hk z => hb (by rw [z]; exact hfr k2 hk))).trans (hkp b hb).2⟩)
