theorem hu_push {K : AH} {a q : Nat} {X e : AE} (h : (hu K a X) q = none) : q ≠ a ∧ K q = none ∧ hu (hu K a X) q e = hu (hu K q e) a X := by
  have n : q ≠ a := fun z => by rw [z, hu_s] at h; cases h
  refine ⟨n, ?_, hu_sw (Ne.symm n)⟩
  rw [hu_n n] at h
  exact h
theorem hu_in {K : AH} {a q : Nat} {X e f : AE} (n : q ≠ a) : hu (hu (hu K q e) a X) q f = hu (hu K q f) a X := by
  rw [hu_sw (Ne.symm n), hu_hu]
theorem hu_inn {K : AH} {a q : Nat} {X e : AE} (n : q ≠ a) : (hu (hu K q e) a X) q = some e := by
  rw [hu_n n]
  exact hu_s
theorem c_weaInit {d : Nat} {G : Nat → Nat} {k : AH} {a : Nat} (ha : k a = none) : Ct Y_X10_init (d + 4) G 3 36 [.ref a] (hu k a (Ob 11 [.null, .null, .null])) (fun r h2 => r = none ∧ ∃ q1 q2 q3, k q1 = none ∧ (hu k q1 (Ai 12 (fun _ => 0))) q2 = none ∧ (hu (hu k q1 (Ai 12 (fun _ => 0))) q2 (Ai 12 (fun _ => 0))) q3 = none ∧ (hu (hu (hu k q1 (Ai 12 (fun _ => 0))) q2 (Ai 12 (fun _ => 0))) q3 (Ai 12 (upd (upd (upd (upd (upd (upd (upd (upd (upd (upd (upd (upd (fun _ => 0) 0 9) 1 9) 2 9) 3 9) 4 9) 5 9) 6 9) 7 9) 8 9) 9 9) 10 9) 11 9))) a = none ∧ h2 = hu (hu (hu (hu k q1 (Ai 12 (fun _ => 0))) q2 (Ai 12 (fun _ => 0))) q3 (Ai 12 (upd (upd (upd (upd (upd (upd (upd (upd (upd (upd (upd (upd (fun _ => 0) 0 9) 1 9) 2 9) 3 9) 4 9) 5 9) 6 9) 7 9) 8 9) 9 9) 10 9) 11 9))) a (Ob 11 [.ref q1, .ref q2, .ref q3])) := by
  refine Ct.ofn 0 rfl (Nat.le_of_ble_eq_true rfl) (by simp [Value.category]) ?_
  generalize hpost : (fun (r : Option Value) (h2 : AH) => r = none ∧ ∃ q1 q2 q3, k q1 = none ∧ (hu k q1 (Ai 12 (fun _ => 0))) q2 = none ∧ (hu (hu k q1 (Ai 12 (fun _ => 0))) q2 (Ai 12 (fun _ => 0))) q3 = none ∧ (hu (hu (hu k q1 (Ai 12 (fun _ => 0))) q2 (Ai 12 (fun _ => 0))) q3 (Ai 12 (upd (upd (upd (upd (upd (upd (upd (upd (upd (upd (upd (upd (fun _ => 0) 0 9) 1 9) 2 9) 3 9) 4 9) 5 9) 6 9) 7 9) 8 9) 9 9) 10 9) 11 9))) a = none ∧ h2 = hu (hu (hu (hu k q1 (Ai 12 (fun _ => 0))) q2 (Ai 12 (fun _ => 0))) q3 (Ai 12 (upd (upd (upd (upd (upd (upd (upd (upd (upd (upd (upd (upd (fun _ => 0) 0 9) 1 9) 2 9) 3 9) 4 9) 5 9) 6 9) 7 9) 8 9) 9 9) 10 9) 11 9))) a (Ob 11 [.ref q1, .ref q2, .ref q3])) = post
  show J Y_X10_init (d + 4) G 3 36 0 [some (.ref a)] [] (hu k a (Ob 11 [.null, .null, .null])) post
  refine J.aload_n 1 dX10_init_0 rfl rfl ?_
  refine co_X10_3 rfl 4 dX10_init_1 rfl (Nat.le_of_ble_eq_true rfl) ?_
  refine J.aload_n 5 dX10_init_4 rfl rfl ?_
  refine J.bipush 12 7 dX10_init_5 rfl (by decide) ?_
  refine J.newi (N := 12) 9 dX10_init_7 rfl wm_80 (by decide) (by decide) (by decide) rfl rfl (fun q1 hq1 => ?_)
  obtain ⟨nq1, fq1, eq1⟩ := hu_push (e := (Ai 12 (fun _ => 0))) hq1
  rw [eq1]
  have ha_q1 := hu_fr (e := (Ai 12 (fun _ => 0))) (Ne.symm nq1) ha
  refine pf_X10_9 rfl rfl 12 dX10_init_9 rfl hu_s (Nat.le_of_ble_eq_true rfl) ?_
  rw [hu_hu]
  refine J.aload_n 13 dX10_init_12 rfl rfl ?_
  refine J.bipush 12 15 dX10_init_13 rfl (by decide) ?_
  refine J.newi (N := 12) 17 dX10_init_15 rfl wm_80 (by decide) (by decide) (by decide) rfl rfl (fun q2 hq2 => ?_)
  obtain ⟨nq2, fq2, eq2⟩ := hu_push (e := (Ai 12 (fun _ => 0))) hq2
  rw [eq2]
  have ha_q2 := hu_fr (e := (Ai 12 (fun _ => 0))) (Ne.symm nq2) ha_q1
  refine pf_X10_15 rfl rfl 20 dX10_init_17 rfl hu_s (Nat.le_of_ble_eq_true rfl) ?_
  rw [hu_hu]
  refine J.aload_n 21 dX10_init_20 rfl rfl ?_
  refine J.bipush 12 23 dX10_init_21 rfl (by decide) ?_
  refine J.newi (N := 12) 25 dX10_init_23 rfl wm_80 (by decide) (by decide) (by decide) rfl rfl (fun q3 hq3 => ?_)
  obtain ⟨nq3, fq3, eq3⟩ := hu_push (e := (Ai 12 (fun _ => 0))) hq3
  rw [eq3]
  have ha_q3 := hu_fr (e := (Ai 12 (fun _ => 0))) (Ne.symm nq3) ha_q2
  refine J.dup 26 dX10_init_25 rfl rfl ?_
  refine J.iconst 0 27 dX10_init_26 rfl (by decide) ?_
  refine J.bipush 9 29 dX10_init_27 rfl (by decide) ?_
  refine J.iast2 0 (by decide) 30 dX10_init_29 rfl (hu_inn nq3) (by unfold vp_in; decide) ?_
  rw [hu_in nq3]
  replace ha_q3 := hu_fr (e := (Ai 12 (upd (fun _ => 0) 0 9))) (Ne.symm nq3) ha_q2
  refine J.dup 31 dX10_init_30 rfl rfl ?_
  refine J.iconst 1 32 dX10_init_31 rfl (by decide) ?_
  refine J.bipush 9 34 dX10_init_32 rfl (by decide) ?_
  refine J.iast2 1 (by decide) 35 dX10_init_34 rfl (hu_inn nq3) (by unfold vp_in; decide) ?_
  rw [hu_in nq3]
  replace ha_q3 := hu_fr (e := (Ai 12 (upd (upd (fun _ => 0) 0 9) 1 9))) (Ne.symm nq3) ha_q2
  refine J.dup 36 dX10_init_35 rfl rfl ?_
  refine J.iconst 2 37 dX10_init_36 rfl (by decide) ?_
  refine J.bipush 9 39 dX10_init_37 rfl (by decide) ?_
  refine J.iast2 2 (by decide) 40 dX10_init_39 rfl (hu_inn nq3) (by unfold vp_in; decide) ?_
  rw [hu_in nq3]
  replace ha_q3 := hu_fr (e := (Ai 12 (upd (upd (upd (fun _ => 0) 0 9) 1 9) 2 9))) (Ne.symm nq3) ha_q2
  refine J.dup 41 dX10_init_40 rfl rfl ?_
  refine J.iconst 3 42 dX10_init_41 rfl (by decide) ?_
  refine J.bipush 9 44 dX10_init_42 rfl (by decide) ?_
  refine J.iast2 3 (by decide) 45 dX10_init_44 rfl (hu_inn nq3) (by unfold vp_in; decide) ?_
  rw [hu_in nq3]
  replace ha_q3 := hu_fr (e := (Ai 12 (upd (upd (upd (upd (fun _ => 0) 0 9) 1 9) 2 9) 3 9))) (Ne.symm nq3) ha_q2
  refine J.dup 46 dX10_init_45 rfl rfl ?_
  refine J.iconst 4 47 dX10_init_46 rfl (by decide) ?_
  refine J.bipush 9 49 dX10_init_47 rfl (by decide) ?_
  refine J.iast2 4 (by decide) 50 dX10_init_49 rfl (hu_inn nq3) (by unfold vp_in; decide) ?_
  rw [hu_in nq3]
  replace ha_q3 := hu_fr (e := (Ai 12 (upd (upd (upd (upd (upd (fun _ => 0) 0 9) 1 9) 2 9) 3 9) 4 9))) (Ne.symm nq3) ha_q2
  refine J.dup 51 dX10_init_50 rfl rfl ?_
  refine J.iconst 5 52 dX10_init_51 rfl (by decide) ?_
  refine J.bipush 9 54 dX10_init_52 rfl (by decide) ?_
  refine J.iast2 5 (by decide) 55 dX10_init_54 rfl (hu_inn nq3) (by unfold vp_in; decide) ?_
  rw [hu_in nq3]
  replace ha_q3 := hu_fr (e := (Ai 12 (upd (upd (upd (upd (upd (upd (fun _ => 0) 0 9) 1 9) 2 9) 3 9) 4 9) 5 9))) (Ne.symm nq3) ha_q2
  refine J.dup 56 dX10_init_55 rfl rfl ?_
  refine J.bipush 6 58 dX10_init_56 rfl (by decide) ?_
  refine J.bipush 9 60 dX10_init_58 rfl (by decide) ?_
  refine J.iast2 6 (by decide) 61 dX10_init_60 rfl (hu_inn nq3) (by unfold vp_in; decide) ?_
  rw [hu_in nq3]
  replace ha_q3 := hu_fr (e := (Ai 12 (upd (upd (upd (upd (upd (upd (upd (fun _ => 0) 0 9) 1 9) 2 9) 3 9) 4 9) 5 9) 6 9))) (Ne.symm nq3) ha_q2
  refine J.dup 62 dX10_init_61 rfl rfl ?_
  refine J.bipush 7 64 dX10_init_62 rfl (by decide) ?_
  refine J.bipush 9 66 dX10_init_64 rfl (by decide) ?_
  refine J.iast2 7 (by decide) 67 dX10_init_66 rfl (hu_inn nq3) (by unfold vp_in; decide) ?_
  rw [hu_in nq3]
  replace ha_q3 := hu_fr (e := (Ai 12 (upd (upd (upd (upd (upd (upd (upd (upd (fun _ => 0) 0 9) 1 9) 2 9) 3 9) 4 9) 5 9) 6 9) 7 9))) (Ne.symm nq3) ha_q2
  refine J.dup 68 dX10_init_67 rfl rfl ?_
  refine J.bipush 8 70 dX10_init_68 rfl (by decide) ?_
  refine J.bipush 9 72 dX10_init_70 rfl (by decide) ?_
  refine J.iast2 8 (by decide) 73 dX10_init_72 rfl (hu_inn nq3) (by unfold vp_in; decide) ?_
  rw [hu_in nq3]
  replace ha_q3 := hu_fr (e := (Ai 12 (upd (upd (upd (upd (upd (upd (upd (upd (upd (fun _ => 0) 0 9) 1 9) 2 9) 3 9) 4 9) 5 9) 6 9) 7 9) 8 9))) (Ne.symm nq3) ha_q2
  refine J.dup 74 dX10_init_73 rfl rfl ?_
  refine J.bipush 9 76 dX10_init_74 rfl (by decide) ?_
  refine J.bipush 9 78 dX10_init_76 rfl (by decide) ?_
  refine J.iast2 9 (by decide) 79 dX10_init_78 rfl (hu_inn nq3) (by unfold vp_in; decide) ?_
  rw [hu_in nq3]
  replace ha_q3 := hu_fr (e := (Ai 12 (upd (upd (upd (upd (upd (upd (upd (upd (upd (upd (fun _ => 0) 0 9) 1 9) 2 9) 3 9) 4 9) 5 9) 6 9) 7 9) 8 9) 9 9))) (Ne.symm nq3) ha_q2
  refine J.dup 80 dX10_init_79 rfl rfl ?_
  refine J.bipush 10 82 dX10_init_80 rfl (by decide) ?_
  refine J.bipush 9 84 dX10_init_82 rfl (by decide) ?_
  refine J.iast2 10 (by decide) 85 dX10_init_84 rfl (hu_inn nq3) (by unfold vp_in; decide) ?_
  rw [hu_in nq3]
  replace ha_q3 := hu_fr (e := (Ai 12 (upd (upd (upd (upd (upd (upd (upd (upd (upd (upd (upd (fun _ => 0) 0 9) 1 9) 2 9) 3 9) 4 9) 5 9) 6 9) 7 9) 8 9) 9 9) 10 9))) (Ne.symm nq3) ha_q2
  refine J.dup 86 dX10_init_85 rfl rfl ?_
  refine J.bipush 11 88 dX10_init_86 rfl (by decide) ?_
  refine J.bipush 9 90 dX10_init_88 rfl (by decide) ?_
  refine J.iast2 11 (by decide) 91 dX10_init_90 rfl (hu_inn nq3) (by unfold vp_in; decide) ?_
  rw [hu_in nq3]
  replace ha_q3 := hu_fr (e := (Ai 12 (upd (upd (upd (upd (upd (upd (upd (upd (upd (upd (upd (upd (fun _ => 0) 0 9) 1 9) 2 9) 3 9) 4 9) 5 9) 6 9) 7 9) 8 9) 9 9) 10 9) 11 9))) (Ne.symm nq3) ha_q2
  refine pf_X10_18 rfl rfl 94 dX10_init_91 rfl hu_s (Nat.le_of_ble_eq_true rfl) ?_
  rw [hu_hu]
  exact J.vret dX10_init_94 rfl (by rw [← hpost]; exact ⟨rfl, q1, q2, q3, fq1, fq2, fq3, ha_q3, rfl⟩)
theorem c_tapInit {d : Nat} {G : Nat → Nat} {k : AH} {a : Nat} (ha : k a = none) : Ct Y_X9_init (d + 4) G 1 60 [.ref a] (hu k a (Ob 10 [.null, .int 0])) (fun r h2 => r = none ∧ ∃ q1, k q1 = none ∧ (hu k q1 (Ai 60 (fun _ => 0))) a = none ∧ h2 = hu (hu k q1 (Ai 60 (fun _ => 0))) a (Ob 10 [.ref q1, .int 0])) := by
  refine Ct.ofn 0 rfl (Nat.le_of_ble_eq_true rfl) (by simp [Value.category]) ?_
  generalize hpost : (fun (r : Option Value) (h2 : AH) => r = none ∧ ∃ q1, k q1 = none ∧ (hu k q1 (Ai 60 (fun _ => 0))) a = none ∧ h2 = hu (hu k q1 (Ai 60 (fun _ => 0))) a (Ob 10 [.ref q1, .int 0])) = post
  show J Y_X9_init (d + 4) G 1 60 0 [some (.ref a)] [] (hu k a (Ob 10 [.null, .int 0])) post
  refine J.aload_n 1 dX9_init_0 rfl rfl ?_
  refine co_X9_3 rfl 4 dX9_init_1 rfl (Nat.le_of_ble_eq_true rfl) ?_
  refine J.aload_n 5 dX9_init_4 rfl rfl ?_
  refine J.bipush 60 7 dX9_init_5 rfl (by decide) ?_
  refine J.newi (N := 60) 9 dX9_init_7 rfl wm_80 (by decide) (by decide) (by decide) rfl rfl (fun q1 hq1 => ?_)
  obtain ⟨nq1, fq1, eq1⟩ := hu_push (e := (Ai 60 (fun _ => 0))) hq1
  rw [eq1]
  have ha_q1 := hu_fr (e := (Ai 60 (fun _ => 0))) (Ne.symm nq1) ha
  refine pf_X9_9 rfl rfl 12 dX9_init_9 rfl hu_s (Nat.le_of_ble_eq_true rfl) ?_
  rw [hu_hu]
  exact J.vret dX9_init_12 rfl (by rw [← hpost]; exact ⟨rfl, q1, fq1, ha_q1, rfl⟩)
theorem c_bookInit {d : Nat} {G : Nat → Nat} {k : AH} {a : Nat} (ha : k a = none) : Ct Y_X8_init (d + 4) G 3 34 [.ref a] (hu k a (Ob 9 [.null, .null, .null, .int 0])) (fun r h2 => r = none ∧ ∃ q1 q2 q3, k q1 = none ∧ (hu k q1 (Ob 0 [.int 0, .ref (G 0), .int 0])) q2 = none ∧ (hu (hu k q1 (Ob 0 [.int 0, .ref (G 0), .int 0])) q2 (Ai 11 (fun _ => 0))) q3 = none ∧ (hu (hu (hu k q1 (Ob 0 [.int 0, .ref (G 0), .int 0])) q2 (Ai 11 (fun _ => 0))) q3 (Ai 20 (fun _ => 0))) a = none ∧ h2 = hu (hu (hu (hu k q1 (Ob 0 [.int 0, .ref (G 0), .int 0])) q2 (Ai 11 (fun _ => 0))) q3 (Ai 20 (fun _ => 0))) a (Ob 9 [.ref q1, .ref q2, .ref q3, .int 0])) := by
  refine Ct.ofn 0 rfl (Nat.le_of_ble_eq_true rfl) (by simp [Value.category]) ?_
  generalize hpost : (fun (r : Option Value) (h2 : AH) => r = none ∧ ∃ q1 q2 q3, k q1 = none ∧ (hu k q1 (Ob 0 [.int 0, .ref (G 0), .int 0])) q2 = none ∧ (hu (hu k q1 (Ob 0 [.int 0, .ref (G 0), .int 0])) q2 (Ai 11 (fun _ => 0))) q3 = none ∧ (hu (hu (hu k q1 (Ob 0 [.int 0, .ref (G 0), .int 0])) q2 (Ai 11 (fun _ => 0))) q3 (Ai 20 (fun _ => 0))) a = none ∧ h2 = hu (hu (hu (hu k q1 (Ob 0 [.int 0, .ref (G 0), .int 0])) q2 (Ai 11 (fun _ => 0))) q3 (Ai 20 (fun _ => 0))) a (Ob 9 [.ref q1, .ref q2, .ref q3, .int 0])) = post
  show J Y_X8_init (d + 4) G 3 34 0 [some (.ref a)] [] (hu k a (Ob 9 [.null, .null, .null, .int 0])) post
  refine J.aload_n 1 dX8_init_0 rfl rfl ?_
  refine co_X8_3 rfl 4 dX8_init_1 rfl (Nat.le_of_ble_eq_true rfl) ?_
  refine J.aload_n 5 dX8_init_4 rfl rfl ?_
  refine nw_X8_9 rfl 8 dX8_init_5 rfl rfl rfl (fun q1 hq1 => ?_)
  obtain ⟨nq1, fq1, eq1⟩ := hu_push (e := (Ob 0 [.int 0, .null, .int 0])) hq1
  rw [eq1]
  have ha_q1 := hu_fr (e := (Ob 0 [.int 0, .null, .int 0])) (Ne.symm nq1) ha
  refine J.dup 9 dX8_init_8 rfl rfl ?_
  refine cn_X8_11 rfl 12 (jl_init (d := d) (hu_inn nq1)) dX8_init_9 rfl rfl rfl (Nat.le_of_ble_eq_true rfl) (Nat.zero_le _) (Nat.zero_le _) (fun r h2 hp => ?_)
  obtain ⟨rfl, rfl⟩ := hp
  rw [hu_in nq1]
  replace ha_q1 := hu_fr (e := (Ob 0 [.int 0, .ref (G 0), .int 0])) (Ne.symm nq1) ha
  refine pf_X8_12 rfl rfl 15 dX8_init_12 rfl hu_s (Nat.le_of_ble_eq_true rfl) ?_
  rw [hu_hu]
  refine J.aload_n 16 dX8_init_15 rfl rfl ?_
  refine J.bipush 11 18 dX8_init_16 rfl (by decide) ?_
  refine J.newi (N := 11) 20 dX8_init_18 rfl wm_80 (by decide) (by decide) (by decide) rfl rfl (fun q2 hq2 => ?_)
  obtain ⟨nq2, fq2, eq2⟩ := hu_push (e := (Ai 11 (fun _ => 0))) hq2
  rw [eq2]
  have ha_q2 := hu_fr (e := (Ai 11 (fun _ => 0))) (Ne.symm nq2) ha_q1
  refine pf_X8_18 rfl rfl 23 dX8_init_20 rfl hu_s (Nat.le_of_ble_eq_true rfl) ?_
  rw [hu_hu]
  refine J.aload_n 24 dX8_init_23 rfl rfl ?_
  refine J.bipush 20 26 dX8_init_24 rfl (by decide) ?_
  refine J.newi (N := 20) 28 dX8_init_26 rfl wm_80 (by decide) (by decide) (by decide) rfl rfl (fun q3 hq3 => ?_)
  obtain ⟨nq3, fq3, eq3⟩ := hu_push (e := (Ai 20 (fun _ => 0))) hq3
  rw [eq3]
  have ha_q3 := hu_fr (e := (Ai 20 (fun _ => 0))) (Ne.symm nq3) ha_q2
  refine pf_X8_22 rfl rfl 31 dX8_init_28 rfl hu_s (Nat.le_of_ble_eq_true rfl) ?_
  rw [hu_hu]
  exact J.vret dX8_init_31 rfl (by rw [← hpost]; exact ⟨rfl, q1, q2, q3, fq1, fq2, fq3, ha_q3, rfl⟩)
theorem c_packInit {d : Nat} {G : Nat → Nat} {k : AH} {a : Nat} (ha : k a = none) : Ct Y_X4_init (d + 4) G 3 21 [.ref a] (hu k a (Ob 5 [.null, .null, .null, .int 0, .int 0])) (fun r h2 => r = none ∧ ∃ q1 q2 q3, k q1 = none ∧ (hu k q1 (Ob 0 [.int 0, .ref (G 0), .int 0])) q2 = none ∧ (hu (hu k q1 (Ob 0 [.int 0, .ref (G 0), .int 0])) q2 (Ai 9 (fun _ => 0))) q3 = none ∧ (hu (hu (hu k q1 (Ob 0 [.int 0, .ref (G 0), .int 0])) q2 (Ai 9 (fun _ => 0))) q3 (Ai 9 (fun _ => 0))) a = none ∧ h2 = hu (hu (hu (hu k q1 (Ob 0 [.int 0, .ref (G 0), .int 0])) q2 (Ai 9 (fun _ => 0))) q3 (Ai 9 (fun _ => 0))) a (Ob 5 [.ref q1, .ref q2, .ref q3, .int 0, .int 0])) := by
  refine Ct.ofn 0 rfl (Nat.le_of_ble_eq_true rfl) (by simp [Value.category]) ?_
  generalize hpost : (fun (r : Option Value) (h2 : AH) => r = none ∧ ∃ q1 q2 q3, k q1 = none ∧ (hu k q1 (Ob 0 [.int 0, .ref (G 0), .int 0])) q2 = none ∧ (hu (hu k q1 (Ob 0 [.int 0, .ref (G 0), .int 0])) q2 (Ai 9 (fun _ => 0))) q3 = none ∧ (hu (hu (hu k q1 (Ob 0 [.int 0, .ref (G 0), .int 0])) q2 (Ai 9 (fun _ => 0))) q3 (Ai 9 (fun _ => 0))) a = none ∧ h2 = hu (hu (hu (hu k q1 (Ob 0 [.int 0, .ref (G 0), .int 0])) q2 (Ai 9 (fun _ => 0))) q3 (Ai 9 (fun _ => 0))) a (Ob 5 [.ref q1, .ref q2, .ref q3, .int 0, .int 0])) = post
  show J Y_X4_init (d + 4) G 3 21 0 [some (.ref a)] [] (hu k a (Ob 5 [.null, .null, .null, .int 0, .int 0])) post
  refine J.aload_n 1 dX4_init_0 rfl rfl ?_
  refine co_X4_3 rfl 4 dX4_init_1 rfl (Nat.le_of_ble_eq_true rfl) ?_
  refine J.aload_n 5 dX4_init_4 rfl rfl ?_
  refine nw_X4_9 rfl 8 dX4_init_5 rfl rfl rfl (fun q1 hq1 => ?_)
  obtain ⟨nq1, fq1, eq1⟩ := hu_push (e := (Ob 0 [.int 0, .null, .int 0])) hq1
  rw [eq1]
  have ha_q1 := hu_fr (e := (Ob 0 [.int 0, .null, .int 0])) (Ne.symm nq1) ha
  refine J.dup 9 dX4_init_8 rfl rfl ?_
  refine cn_X4_11 rfl 12 (jl_init (d := d) (hu_inn nq1)) dX4_init_9 rfl rfl rfl (Nat.le_of_ble_eq_true rfl) (Nat.zero_le _) (Nat.zero_le _) (fun r h2 hp => ?_)
  obtain ⟨rfl, rfl⟩ := hp
  rw [hu_in nq1]
  replace ha_q1 := hu_fr (e := (Ob 0 [.int 0, .ref (G 0), .int 0])) (Ne.symm nq1) ha
  refine pf_X4_12 rfl rfl 15 dX4_init_12 rfl hu_s (Nat.le_of_ble_eq_true rfl) ?_
  rw [hu_hu]
  refine J.aload_n 16 dX4_init_15 rfl rfl ?_
  refine J.bipush 9 18 dX4_init_16 rfl (by decide) ?_
  refine J.newi (N := 9) 20 dX4_init_18 rfl wm_80 (by decide) (by decide) (by decide) rfl rfl (fun q2 hq2 => ?_)
  obtain ⟨nq2, fq2, eq2⟩ := hu_push (e := (Ai 9 (fun _ => 0))) hq2
  rw [eq2]
  have ha_q2 := hu_fr (e := (Ai 9 (fun _ => 0))) (Ne.symm nq2) ha_q1
  refine pf_X4_18 rfl rfl 23 dX4_init_20 rfl hu_s (Nat.le_of_ble_eq_true rfl) ?_
  rw [hu_hu]
  refine J.aload_n 24 dX4_init_23 rfl rfl ?_
  refine J.bipush 9 26 dX4_init_24 rfl (by decide) ?_
  refine J.newi (N := 9) 28 dX4_init_26 rfl wm_80 (by decide) (by decide) (by decide) rfl rfl (fun q3 hq3 => ?_)
  obtain ⟨nq3, fq3, eq3⟩ := hu_push (e := (Ai 9 (fun _ => 0))) hq3
  rw [eq3]
  have ha_q3 := hu_fr (e := (Ai 9 (fun _ => 0))) (Ne.symm nq3) ha_q2
  refine pf_X4_22 rfl rfl 31 dX4_init_28 rfl hu_s (Nat.le_of_ble_eq_true rfl) ?_
  rw [hu_hu]
  exact J.vret dX4_init_31 rfl (by rw [← hpost]; exact ⟨rfl, q1, q2, q3, fq1, fq2, fq3, ha_q3, rfl⟩)
theorem c_seaInit {d : Nat} {G : Nat → Nat} {k : AH} {a : Nat} (ha : k a = none) : Ct Y_X3_init (d + 4) G 4 47 [.ref a] (hu k a (Ob 4 [.null, .null, .null, .null, .int 0, .int 0, .int 0, .int 0])) (fun r h2 => r = none ∧ ∃ q1 q2 q3 q4, k q1 = none ∧ (hu k q1 (Aq "HutLift$Place" 5 (fun _ => none))) q2 = none ∧ (hu (hu k q1 (Aq "HutLift$Place" 5 (fun _ => none))) q2 (Ai 5 (fun _ => 0))) q3 = none ∧ (hu (hu (hu k q1 (Aq "HutLift$Place" 5 (fun _ => none))) q2 (Ai 5 (fun _ => 0))) q3 (Ai 5 (fun _ => 0))) q4 = none ∧ (hu (hu (hu (hu k q1 (Aq "HutLift$Place" 5 (fun _ => none))) q2 (Ai 5 (fun _ => 0))) q3 (Ai 5 (fun _ => 0))) q4 (Ai 32 (fun _ => 0))) a = none ∧ h2 = hu (hu (hu (hu (hu k q1 (Aq "HutLift$Place" 5 (fun _ => none))) q2 (Ai 5 (fun _ => 0))) q3 (Ai 5 (fun _ => 0))) q4 (Ai 32 (fun _ => 0))) a (Ob 4 [.ref q1, .ref q2, .ref q3, .ref q4, .int 0, .int 0, .int 0, .int 0])) := by
  refine Ct.ofn 0 rfl (Nat.le_of_ble_eq_true rfl) (by simp [Value.category]) ?_
  generalize hpost : (fun (r : Option Value) (h2 : AH) => r = none ∧ ∃ q1 q2 q3 q4, k q1 = none ∧ (hu k q1 (Aq "HutLift$Place" 5 (fun _ => none))) q2 = none ∧ (hu (hu k q1 (Aq "HutLift$Place" 5 (fun _ => none))) q2 (Ai 5 (fun _ => 0))) q3 = none ∧ (hu (hu (hu k q1 (Aq "HutLift$Place" 5 (fun _ => none))) q2 (Ai 5 (fun _ => 0))) q3 (Ai 5 (fun _ => 0))) q4 = none ∧ (hu (hu (hu (hu k q1 (Aq "HutLift$Place" 5 (fun _ => none))) q2 (Ai 5 (fun _ => 0))) q3 (Ai 5 (fun _ => 0))) q4 (Ai 32 (fun _ => 0))) a = none ∧ h2 = hu (hu (hu (hu (hu k q1 (Aq "HutLift$Place" 5 (fun _ => none))) q2 (Ai 5 (fun _ => 0))) q3 (Ai 5 (fun _ => 0))) q4 (Ai 32 (fun _ => 0))) a (Ob 4 [.ref q1, .ref q2, .ref q3, .ref q4, .int 0, .int 0, .int 0, .int 0])) = post
  show J Y_X3_init (d + 4) G 4 47 0 [some (.ref a)] [] (hu k a (Ob 4 [.null, .null, .null, .null, .int 0, .int 0, .int 0, .int 0])) post
  refine J.aload_n 1 dX3_init_0 rfl rfl ?_
  refine co_X3_3 rfl 4 dX3_init_1 rfl (Nat.le_of_ble_eq_true rfl) ?_
  refine J.aload_n 5 dX3_init_4 rfl rfl ?_
  refine J.iconst 5 6 dX3_init_5 rfl (by decide) ?_
  refine J.newq (N := 5) (C := "HutLift$Place") 9 dX3_init_6 rfl wm_148 (fun A s hG => hG.2.2.2.2.2.1) (by decide) (by decide) (by decide) rfl rfl (fun q1 hq1 => ?_)
  obtain ⟨nq1, fq1, eq1⟩ := hu_push (e := (Aq "HutLift$Place" 5 (fun _ => none))) hq1
  rw [eq1]
  have ha_q1 := hu_fr (e := (Aq "HutLift$Place" 5 (fun _ => none))) (Ne.symm nq1) ha
  refine pf_X3_11 rfl rfl 12 dX3_init_9 rfl hu_s (Nat.le_of_ble_eq_true rfl) ?_
  rw [hu_hu]
  refine J.aload_n 13 dX3_init_12 rfl rfl ?_
  refine J.iconst 5 14 dX3_init_13 rfl (by decide) ?_
  refine J.newi (N := 5) 16 dX3_init_14 rfl wm_80 (by decide) (by decide) (by decide) rfl rfl (fun q2 hq2 => ?_)
  obtain ⟨nq2, fq2, eq2⟩ := hu_push (e := (Ai 5 (fun _ => 0))) hq2
  rw [eq2]
  have ha_q2 := hu_fr (e := (Ai 5 (fun _ => 0))) (Ne.symm nq2) ha_q1
  refine pf_X3_17 rfl rfl 19 dX3_init_16 rfl hu_s (Nat.le_of_ble_eq_true rfl) ?_
  rw [hu_hu]
  refine J.aload_n 20 dX3_init_19 rfl rfl ?_
  refine J.iconst 5 21 dX3_init_20 rfl (by decide) ?_
  refine J.newi (N := 5) 23 dX3_init_21 rfl wm_80 (by decide) (by decide) (by decide) rfl rfl (fun q3 hq3 => ?_)
  obtain ⟨nq3, fq3, eq3⟩ := hu_push (e := (Ai 5 (fun _ => 0))) hq3
  rw [eq3]
  have ha_q3 := hu_fr (e := (Ai 5 (fun _ => 0))) (Ne.symm nq3) ha_q2
  refine pf_X3_21 rfl rfl 26 dX3_init_23 rfl hu_s (Nat.le_of_ble_eq_true rfl) ?_
  rw [hu_hu]
  refine J.aload_n 27 dX3_init_26 rfl rfl ?_
  refine J.bipush 32 29 dX3_init_27 rfl (by decide) ?_
  refine J.newi (N := 32) 31 dX3_init_29 rfl wm_80 (by decide) (by decide) (by decide) rfl rfl (fun q4 hq4 => ?_)
  obtain ⟨nq4, fq4, eq4⟩ := hu_push (e := (Ai 32 (fun _ => 0))) hq4
  rw [eq4]
  have ha_q4 := hu_fr (e := (Ai 32 (fun _ => 0))) (Ne.symm nq4) ha_q3
  refine pf_X3_24 rfl rfl 34 dX3_init_31 rfl hu_s (Nat.le_of_ble_eq_true rfl) ?_
  rw [hu_hu]
  exact J.vret dX3_init_34 rfl (by rw [← hpost]; exact ⟨rfl, q1, q2, q3, q4, fq1, fq2, fq3, fq4, ha_q4, rfl⟩)
