theorem ib_n {p : Prop} [Decidable p] : ¬ ib p = 0 ↔ p := by unfold ib; by_cases h : p <;> simp [h]
theorem k_isMachine {S : MS} {m : Int32} {d : Nat} : CM Y_X12_isMachine d [.int m] S (fun r S2 => r = some (.int (ib (0 ≤ m ∧ m < S.1 11))) ∧ S2 = S) := by
  refine CM.of 0 rfl (fun _ => Nat.le_of_ble_eq_true rfl) (by simp [Value.category]) ?_
  intro G m0 ad h0 h post hM hF fin
  show J Y_X12_isMachine d G 0 0 0 [some (.ref m0), some (.int m)] [] h post
  refine J.iload_n 1 dX12_isMachine_0 rfl rfl ?_
  refine J.if_lt 16 4 dX12_isMachine_1 (by decide) rfl (fun c1 => ?_) (fun c1 => ?_)
  · skip
    refine J.iconst 0 17 dX12_isMachine_16 rfl (by decide) ?_
    exact J.zret dX12_isMachine_17 rfl (Or.inl rfl) (fin _ _ _ ⟨by simp [ib, c1, Int32.not_le.mpr c1], rfl⟩ hM hF)
  · skip
    refine J.iload_n 5 dX12_isMachine_4 rfl rfl ?_
    refine J.aload_n 6 dX12_isMachine_5 rfl rfl ?_
    refine mg_157 hM (x := S.1 11) rfl rfl 9 dX12_isMachine_6 rfl ?_
    refine J.icmp_ge 16 12 dX12_isMachine_9 (by decide) rfl (fun c2 => ?_) (fun c2 => ?_)
    · skip
      refine J.iconst 0 17 dX12_isMachine_16 rfl (by decide) ?_
      exact J.zret dX12_isMachine_17 rfl (Or.inl rfl) (fin _ _ _ ⟨by simp [ib, c1, Int32.not_lt.mp c1, c2, Int32.not_lt.mpr c2], rfl⟩ hM hF)
    · skip
      refine J.iconst 1 13 dX12_isMachine_12 rfl (by decide) ?_
      refine J.goto 17 dX12_isMachine_13 (by decide) ?_
      exact J.zret dX12_isMachine_17 rfl (Or.inr rfl) (fin _ _ _ ⟨by simp [ib, c1, Int32.not_lt.mp c1, c2, Int32.not_le.mp c2], rfl⟩ hM hF)
theorem k_isPilot {S : MS} {p : Int32} {d : Nat} : CM Y_X12_isPilot d [.int p] S (fun r S2 => r = some (.int (ib (0 ≤ p ∧ p < S.1 16))) ∧ S2 = S) := by
  refine CM.of 0 rfl (fun _ => Nat.le_of_ble_eq_true rfl) (by simp [Value.category]) ?_
  intro G m0 ad h0 h post hM hF fin
  show J Y_X12_isPilot d G 0 0 0 [some (.ref m0), some (.int p)] [] h post
  refine J.iload_n 1 dX12_isPilot_0 rfl rfl ?_
  refine J.if_lt 16 4 dX12_isPilot_1 (by decide) rfl (fun c1 => ?_) (fun c1 => ?_)
  · skip
    refine J.iconst 0 17 dX12_isPilot_16 rfl (by decide) ?_
    exact J.zret dX12_isPilot_17 rfl (Or.inl rfl) (fin _ _ _ ⟨by simp [ib, c1, Int32.not_le.mpr c1], rfl⟩ hM hF)
  · skip
    refine J.iload_n 5 dX12_isPilot_4 rfl rfl ?_
    refine J.aload_n 6 dX12_isPilot_5 rfl rfl ?_
    refine mg_160 hM (x := S.1 16) rfl rfl 9 dX12_isPilot_6 rfl ?_
    refine J.icmp_ge 16 12 dX12_isPilot_9 (by decide) rfl (fun c2 => ?_) (fun c2 => ?_)
    · skip
      refine J.iconst 0 17 dX12_isPilot_16 rfl (by decide) ?_
      exact J.zret dX12_isPilot_17 rfl (Or.inl rfl) (fin _ _ _ ⟨by simp [ib, c1, Int32.not_lt.mp c1, c2, Int32.not_lt.mpr c2], rfl⟩ hM hF)
    · skip
      refine J.iconst 1 13 dX12_isPilot_12 rfl (by decide) ?_
      refine J.goto 17 dX12_isPilot_13 (by decide) ?_
      exact J.zret dX12_isPilot_17 rfl (Or.inr rfl) (fin _ _ _ ⟨by simp [ib, c1, Int32.not_lt.mp c1, c2, Int32.not_le.mp c2], rfl⟩ hM hF)
theorem k_isHut {S : MS} {p : Int32} {d : Nat} : CM Y_X12_isHut d [.int p] S (fun r S2 => r = some (.int (ib (0 < p ∧ p < S.1 3))) ∧ S2 = S) := by
  refine CM.of 0 rfl (fun _ => Nat.le_of_ble_eq_true rfl) (by simp [Value.category]) ?_
  intro G m0 ad h0 h post hM hF fin
  show J Y_X12_isHut d G 0 0 0 [some (.ref m0), some (.int p)] [] h post
  refine J.iload_n 1 dX12_isHut_0 rfl rfl ?_
  refine J.if_le 16 4 dX12_isHut_1 (by decide) rfl (fun c1 => ?_) (fun c1 => ?_)
  · skip
    refine J.iconst 0 17 dX12_isHut_16 rfl (by decide) ?_
    exact J.zret dX12_isHut_17 rfl (Or.inl rfl) (fin _ _ _ ⟨by simp [ib, c1, Int32.not_lt.mpr c1], rfl⟩ hM hF)
  · skip
    refine J.iload_n 5 dX12_isHut_4 rfl rfl ?_
    refine J.aload_n 6 dX12_isHut_5 rfl rfl ?_
    refine mg_16 hM (x := S.1 3) rfl rfl 9 dX12_isHut_6 rfl ?_
    refine J.icmp_ge 16 12 dX12_isHut_9 (by decide) rfl (fun c2 => ?_) (fun c2 => ?_)
    · skip
      refine J.iconst 0 17 dX12_isHut_16 rfl (by decide) ?_
      exact J.zret dX12_isHut_17 rfl (Or.inl rfl) (fin _ _ _ ⟨by simp [ib, c1, Int32.not_le.mp c1, c2, Int32.not_lt.mpr c2], rfl⟩ hM hF)
    · skip
      refine J.iconst 1 13 dX12_isHut_12 rfl (by decide) ?_
      refine J.goto 17 dX12_isHut_13 (by decide) ?_
      exact J.zret dX12_isHut_17 rfl (Or.inr rfl) (fin _ _ _ ⟨by simp [ib, c1, Int32.not_le.mp c1, c2, Int32.not_le.mp c2], rfl⟩ hM hF)
theorem k_isLoad {S : MS} {l : Int32} {d : Nat} : CM Y_X12_isLoad d [.int l] S (fun r S2 => r = some (.int (ib (0 ≤ l ∧ l < S.1 28))) ∧ S2 = S) := by
  refine CM.of 0 rfl (fun _ => Nat.le_of_ble_eq_true rfl) (by simp [Value.category]) ?_
  intro G m0 ad h0 h post hM hF fin
  show J Y_X12_isLoad d G 0 0 0 [some (.ref m0), some (.int l)] [] h post
  refine J.iload_n 1 dX12_isLoad_0 rfl rfl ?_
  refine J.if_lt 16 4 dX12_isLoad_1 (by decide) rfl (fun c1 => ?_) (fun c1 => ?_)
  · skip
    refine J.iconst 0 17 dX12_isLoad_16 rfl (by decide) ?_
    exact J.zret dX12_isLoad_17 rfl (Or.inl rfl) (fin _ _ _ ⟨by simp [ib, c1, Int32.not_le.mpr c1], rfl⟩ hM hF)
  · skip
    refine J.iload_n 5 dX12_isLoad_4 rfl rfl ?_
    refine J.aload_n 6 dX12_isLoad_5 rfl rfl ?_
    refine mg_163 hM (x := S.1 28) rfl rfl 9 dX12_isLoad_6 rfl ?_
    refine J.icmp_ge 16 12 dX12_isLoad_9 (by decide) rfl (fun c2 => ?_) (fun c2 => ?_)
    · skip
      refine J.iconst 0 17 dX12_isLoad_16 rfl (by decide) ?_
      exact J.zret dX12_isLoad_17 rfl (Or.inl rfl) (fin _ _ _ ⟨by simp [ib, c1, Int32.not_lt.mp c1, c2, Int32.not_lt.mpr c2], rfl⟩ hM hF)
    · skip
      refine J.iconst 1 13 dX12_isLoad_12 rfl (by decide) ?_
      refine J.goto 17 dX12_isLoad_13 (by decide) ?_
      exact J.zret dX12_isLoad_17 rfl (Or.inr rfl) (fin _ _ _ ⟨by simp [ib, c1, Int32.not_lt.mp c1, c2, Int32.not_le.mp c2], rfl⟩ hM hF)
def r_place (S : MS) (x w : Int32) : Int32 := if ¬ (0 ≤ x ∧ x ≤ 9) ∨ ¬ (1 ≤ w ∧ w ≤ 60) then -1 else if S.1 3 = 12 then -2 else ((S.1 3) + 1) - 1
def s_place (S : MS) (x w : Int32) : MS := if (¬ (0 ≤ x ∧ x ≤ 9) ∨ ¬ (1 ≤ w ∧ w ≤ 60)) ∨ (S.1 3 = 12) then S else (vf_upd S.1 3 ((S.1 3) + 1), u2 (u2 S.2 1 ((S.1 3).toNatClampNeg) x) 2 ((S.1 3).toNatClampNeg) w)
theorem k_place {S : MS} {x : Int32} {w : Int32} {d : Nat} (hP : ¬ S.1 3 = 12 → vp_in (S.1 3) 12) : CM Y_X12_place (d + 1) [.int x, .int w] S (fun r S2 => r = some (.int (r_place S x w)) ∧ S2 = s_place S x w) := by
  refine CM.of 0 rfl (fun _ => Nat.le_of_ble_eq_true rfl) (by simp [Value.category]) ?_
  intro G m0 ad h0 h post hM hF fin
  show J Y_X12_place (d + 1) G 0 0 0 [some (.ref m0), some (.int x), some (.int w)] [] h post
  refine J.iload_n 1 dX12_place_0 rfl rfl ?_
  refine J.iconst 0 2 dX12_place_1 rfl (by decide) ?_
  refine J.bipush 9 4 dX12_place_2 rfl (by decide) ?_
  refine mc_153 (k_within (v := x) (a := 0) (b := 9)) rfl 7 dX12_place_4 rfl rfl rfl (by decide) ?_
  refine J.if_eq 20 10 dX12_place_7 (by decide) rfl (fun c1 => ?_) (fun c1 => ?_)
  · skip
    refine J.iconst (-1) 21 dX12_place_20 rfl (by decide) ?_
    exact J.iret dX12_place_21 rfl (fin _ _ _ ⟨by simp [r_place, s_place, ib_0.mp c1], by simp [r_place, s_place, ib_0.mp c1]⟩ hM hF)
  · skip
    refine J.iload_n 11 dX12_place_10 rfl rfl ?_
    refine J.iconst 1 12 dX12_place_11 rfl (by decide) ?_
    refine J.bipush 60 14 dX12_place_12 rfl (by decide) ?_
    refine mc_153 (k_within (v := w) (a := 1) (b := 60)) rfl 17 dX12_place_14 rfl rfl rfl (by decide) ?_
    refine J.if_ne 22 20 dX12_place_17 (by decide) rfl (fun c2 => ?_) (fun c2 => ?_)
    · skip
      refine J.aload_n 23 dX12_place_22 rfl rfl ?_
      refine mg_16 hM (x := S.1 3) rfl rfl 26 dX12_place_23 rfl ?_
      refine J.bipush 12 28 dX12_place_26 rfl (by decide) ?_
      refine J.icmp_ne 34 31 dX12_place_28 (by decide) rfl (fun c3 => ?_) (fun c3 => ?_)
      · skip
        refine J.aload_n 35 dX12_place_34 rfl rfl ?_
        refine mg_9 hM rfl 38 dX12_place_35 rfl ?_
        refine J.aload_n 39 dX12_place_38 rfl rfl ?_
        refine mg_16 hM (x := S.1 3) rfl rfl 42 dX12_place_39 rfl ?_
        refine J.iload_n 43 dX12_place_42 rfl rfl ?_
        refine ml_is hM hF ((S.1 3).toNatClampNeg) rfl rfl rfl (by first | assumption | exact hP (by assumption)) 44 dX12_place_43 rfl (fun h hM hF => ?_)
        refine J.aload_n 45 dX12_place_44 rfl rfl ?_
        refine mg_13 hM rfl 48 dX12_place_45 rfl ?_
        refine J.aload_n 49 dX12_place_48 rfl rfl ?_
        refine mg_16 hM (x := S.1 3) rfl rfl 52 dX12_place_49 rfl ?_
        refine J.iload_n 53 dX12_place_52 rfl rfl ?_
        refine ml_is hM hF ((S.1 3).toNatClampNeg) rfl rfl rfl (by first | assumption | exact hP (by assumption)) 54 dX12_place_53 rfl (fun h hM hF => ?_)
        refine J.aload_n 55 dX12_place_54 rfl rfl ?_
        refine J.dup 56 dX12_place_55 rfl rfl ?_
        refine mg_16 hM (x := S.1 3) rfl rfl 59 dX12_place_56 rfl ?_
        refine J.iconst 1 60 dX12_place_59 rfl (by decide) ?_
        refine J.iadd 61 dX12_place_60 rfl ?_
        refine mp_16 hM hF rfl 64 dX12_place_61 rfl (fun h hM hF => ?_)
        refine J.aload_n 65 dX12_place_64 rfl rfl ?_
        refine mg_16 hM (x := (S.1 3) + 1) rfl rfl 68 dX12_place_65 rfl ?_
        refine J.iconst 1 69 dX12_place_68 rfl (by decide) ?_
        refine J.isub 70 dX12_place_69 rfl ?_
        exact J.iret dX12_place_70 rfl (fin _ _ _ ⟨by simp [r_place, s_place, ib_n.mp c1, ib_n.mp c2, c3], by simp [r_place, s_place, ib_n.mp c1, ib_n.mp c2, c3]⟩ hM hF)
      · skip
        refine J.bipush (-2) 33 dX12_place_31 rfl (by decide) ?_
        exact J.iret dX12_place_33 rfl (fin _ _ _ ⟨by simp [r_place, s_place, ib_n.mp c1, ib_n.mp c2, c3], by simp [r_place, s_place, ib_n.mp c1, ib_n.mp c2, c3]⟩ hM hF)
    · skip
      refine J.iconst (-1) 21 dX12_place_20 rfl (by decide) ?_
      exact J.iret dX12_place_21 rfl (fin _ _ _ ⟨by simp [r_place, s_place, ib_n.mp c1, ib_0.mp c2], by simp [r_place, s_place, ib_n.mp c1, ib_0.mp c2]⟩ hM hF)
def r_machine (S : MS) (x t : Int32) : Int32 := if ¬ (1 ≤ x ∧ x ≤ 200) ∨ ¬ (1 ≤ t ∧ t ≤ 2000) then -1 else if S.1 11 = 4 then -2 else ((S.1 11) + 1) - 1
def s_machine (S : MS) (x t : Int32) : MS := if (¬ (1 ≤ x ∧ x ≤ 200) ∨ ¬ (1 ≤ t ∧ t ≤ 2000)) ∨ (S.1 11 = 4) then S else (vf_upd S.1 11 ((S.1 11) + 1), u2 (u2 (u2 S.2 7 ((S.1 11).toNatClampNeg) x) 8 ((S.1 11).toNatClampNeg) t) 9 ((S.1 11).toNatClampNeg) t)
theorem k_machine {S : MS} {x : Int32} {t : Int32} {d : Nat} (hP : ¬ S.1 11 = 4 → vp_in (S.1 11) 4) : CM Y_X12_machine (d + 1) [.int x, .int t] S (fun r S2 => r = some (.int (r_machine S x t)) ∧ S2 = s_machine S x t) := by
  refine CM.of 0 rfl (fun _ => Nat.le_of_ble_eq_true rfl) (by simp [Value.category]) ?_
  intro G m0 ad h0 h post hM hF fin
  show J Y_X12_machine (d + 1) G 0 0 0 [some (.ref m0), some (.int x), some (.int t)] [] h post
  refine J.iload_n 1 dX12_machine_0 rfl rfl ?_
  refine J.iconst 1 2 dX12_machine_1 rfl (by decide) ?_
  refine J.sipush 200 5 dX12_machine_2 rfl (by decide) ?_
  refine mc_153 (k_within (v := x) (a := 1) (b := 200)) rfl 8 dX12_machine_5 rfl rfl rfl (by decide) ?_
  refine J.if_eq 22 11 dX12_machine_8 (by decide) rfl (fun c1 => ?_) (fun c1 => ?_)
  · skip
    refine J.iconst (-1) 23 dX12_machine_22 rfl (by decide) ?_
    exact J.iret dX12_machine_23 rfl (fin _ _ _ ⟨by simp [r_machine, s_machine, ib_0.mp c1], by simp [r_machine, s_machine, ib_0.mp c1]⟩ hM hF)
  · skip
    refine J.iload_n 12 dX12_machine_11 rfl rfl ?_
    refine J.iconst 1 13 dX12_machine_12 rfl (by decide) ?_
    refine J.sipush 2000 16 dX12_machine_13 rfl (by decide) ?_
    refine mc_153 (k_within (v := t) (a := 1) (b := 2000)) rfl 19 dX12_machine_16 rfl rfl rfl (by decide) ?_
    refine J.if_ne 24 22 dX12_machine_19 (by decide) rfl (fun c2 => ?_) (fun c2 => ?_)
    · skip
      refine J.aload_n 25 dX12_machine_24 rfl rfl ?_
      refine mg_157 hM (x := S.1 11) rfl rfl 28 dX12_machine_25 rfl ?_
      refine J.iconst 4 29 dX12_machine_28 rfl (by decide) ?_
      refine J.icmp_ne 35 32 dX12_machine_29 (by decide) rfl (fun c3 => ?_) (fun c3 => ?_)
      · skip
        refine J.aload_n 36 dX12_machine_35 rfl rfl ?_
        refine mg_29 hM rfl 39 dX12_machine_36 rfl ?_
        refine J.aload_n 40 dX12_machine_39 rfl rfl ?_
        refine mg_157 hM (x := S.1 11) rfl rfl 43 dX12_machine_40 rfl ?_
        refine J.iload_n 44 dX12_machine_43 rfl rfl ?_
        refine ml_is hM hF ((S.1 11).toNatClampNeg) rfl rfl rfl (by first | assumption | exact hP (by assumption)) 45 dX12_machine_44 rfl (fun h hM hF => ?_)
        refine J.aload_n 46 dX12_machine_45 rfl rfl ?_
        refine mg_32 hM rfl 49 dX12_machine_46 rfl ?_
        refine J.aload_n 50 dX12_machine_49 rfl rfl ?_
        refine mg_157 hM (x := S.1 11) rfl rfl 53 dX12_machine_50 rfl ?_
        refine J.iload_n 54 dX12_machine_53 rfl rfl ?_
        refine ml_is hM hF ((S.1 11).toNatClampNeg) rfl rfl rfl (by first | assumption | exact hP (by assumption)) 55 dX12_machine_54 rfl (fun h hM hF => ?_)
        refine J.aload_n 56 dX12_machine_55 rfl rfl ?_
        refine mg_35 hM rfl 59 dX12_machine_56 rfl ?_
        refine J.aload_n 60 dX12_machine_59 rfl rfl ?_
        refine mg_157 hM (x := S.1 11) rfl rfl 63 dX12_machine_60 rfl ?_
        refine J.iload_n 64 dX12_machine_63 rfl rfl ?_
        refine ml_is hM hF ((S.1 11).toNatClampNeg) rfl rfl rfl (by first | assumption | exact hP (by assumption)) 65 dX12_machine_64 rfl (fun h hM hF => ?_)
        refine J.aload_n 66 dX12_machine_65 rfl rfl ?_
        refine J.dup 67 dX12_machine_66 rfl rfl ?_
        refine mg_157 hM (x := S.1 11) rfl rfl 70 dX12_machine_67 rfl ?_
        refine J.iconst 1 71 dX12_machine_70 rfl (by decide) ?_
        refine J.iadd 72 dX12_machine_71 rfl ?_
        refine mp_157 hM hF rfl 75 dX12_machine_72 rfl (fun h hM hF => ?_)
        refine J.aload_n 76 dX12_machine_75 rfl rfl ?_
        refine mg_157 hM (x := (S.1 11) + 1) rfl rfl 79 dX12_machine_76 rfl ?_
        refine J.iconst 1 80 dX12_machine_79 rfl (by decide) ?_
        refine J.isub 81 dX12_machine_80 rfl ?_
        exact J.iret dX12_machine_81 rfl (fin _ _ _ ⟨by simp [r_machine, s_machine, ib_n.mp c1, ib_n.mp c2, c3], by simp [r_machine, s_machine, ib_n.mp c1, ib_n.mp c2, c3]⟩ hM hF)
      · skip
        refine J.bipush (-2) 34 dX12_machine_32 rfl (by decide) ?_
        exact J.iret dX12_machine_34 rfl (fin _ _ _ ⟨by simp [r_machine, s_machine, ib_n.mp c1, ib_n.mp c2, c3], by simp [r_machine, s_machine, ib_n.mp c1, ib_n.mp c2, c3]⟩ hM hF)
    · skip
      refine J.iconst (-1) 23 dX12_machine_22 rfl (by decide) ?_
      exact J.iret dX12_machine_23 rfl (fin _ _ _ ⟨by simp [r_machine, s_machine, ib_n.mp c1, ib_0.mp c2], by simp [r_machine, s_machine, ib_n.mp c1, ib_0.mp c2]⟩ hM hF)
def r_pilot (S : MS) (x t : Int32) : Int32 := if ¬ (0 ≤ x ∧ x ≤ 720) ∨ ¬ (0 ≤ t ∧ t ≤ 120) then -1 else if S.1 16 = 6 then -2 else ((S.1 16) + 1) - 1
def s_pilot (S : MS) (x t : Int32) : MS := if (¬ (0 ≤ x ∧ x ≤ 720) ∨ ¬ (0 ≤ t ∧ t ≤ 120)) ∨ (S.1 16 = 6) then S else (vf_upd S.1 16 ((S.1 16) + 1), u2 (u2 S.2 12 ((S.1 16).toNatClampNeg) x) 13 ((S.1 16).toNatClampNeg) t)
theorem k_pilot {S : MS} {x : Int32} {t : Int32} {d : Nat} (hP : ¬ S.1 16 = 6 → vp_in (S.1 16) 6) : CM Y_X12_pilot (d + 1) [.int x, .int t] S (fun r S2 => r = some (.int (r_pilot S x t)) ∧ S2 = s_pilot S x t) := by
  refine CM.of 0 rfl (fun _ => Nat.le_of_ble_eq_true rfl) (by simp [Value.category]) ?_
  intro G m0 ad h0 h post hM hF fin
  show J Y_X12_pilot (d + 1) G 0 0 0 [some (.ref m0), some (.int x), some (.int t)] [] h post
  refine J.iload_n 1 dX12_pilot_0 rfl rfl ?_
  refine J.iconst 0 2 dX12_pilot_1 rfl (by decide) ?_
  refine J.sipush 720 5 dX12_pilot_2 rfl (by decide) ?_
  refine mc_153 (k_within (v := x) (a := 0) (b := 720)) rfl 8 dX12_pilot_5 rfl rfl rfl (by decide) ?_
  refine J.if_eq 21 11 dX12_pilot_8 (by decide) rfl (fun c1 => ?_) (fun c1 => ?_)
  · skip
    refine J.iconst (-1) 22 dX12_pilot_21 rfl (by decide) ?_
    exact J.iret dX12_pilot_22 rfl (fin _ _ _ ⟨by simp [r_pilot, s_pilot, ib_0.mp c1], by simp [r_pilot, s_pilot, ib_0.mp c1]⟩ hM hF)
  · skip
    refine J.iload_n 12 dX12_pilot_11 rfl rfl ?_
    refine J.iconst 0 13 dX12_pilot_12 rfl (by decide) ?_
    refine J.bipush 120 15 dX12_pilot_13 rfl (by decide) ?_
    refine mc_153 (k_within (v := t) (a := 0) (b := 120)) rfl 18 dX12_pilot_15 rfl rfl rfl (by decide) ?_
    refine J.if_ne 23 21 dX12_pilot_18 (by decide) rfl (fun c2 => ?_) (fun c2 => ?_)
    · skip
      refine J.aload_n 24 dX12_pilot_23 rfl rfl ?_
      refine mg_160 hM (x := S.1 16) rfl rfl 27 dX12_pilot_24 rfl ?_
      refine J.bipush 6 29 dX12_pilot_27 rfl (by decide) ?_
      refine J.icmp_ne 35 32 dX12_pilot_29 (by decide) rfl (fun c3 => ?_) (fun c3 => ?_)
      · skip
        refine J.aload_n 36 dX12_pilot_35 rfl rfl ?_
        refine mg_41 hM rfl 39 dX12_pilot_36 rfl ?_
        refine J.aload_n 40 dX12_pilot_39 rfl rfl ?_
        refine mg_160 hM (x := S.1 16) rfl rfl 43 dX12_pilot_40 rfl ?_
        refine J.iload_n 44 dX12_pilot_43 rfl rfl ?_
        refine ml_is hM hF ((S.1 16).toNatClampNeg) rfl rfl rfl (by first | assumption | exact hP (by assumption)) 45 dX12_pilot_44 rfl (fun h hM hF => ?_)
        refine J.aload_n 46 dX12_pilot_45 rfl rfl ?_
        refine mg_44 hM rfl 49 dX12_pilot_46 rfl ?_
        refine J.aload_n 50 dX12_pilot_49 rfl rfl ?_
        refine mg_160 hM (x := S.1 16) rfl rfl 53 dX12_pilot_50 rfl ?_
        refine J.iload_n 54 dX12_pilot_53 rfl rfl ?_
        refine ml_is hM hF ((S.1 16).toNatClampNeg) rfl rfl rfl (by first | assumption | exact hP (by assumption)) 55 dX12_pilot_54 rfl (fun h hM hF => ?_)
        refine J.aload_n 56 dX12_pilot_55 rfl rfl ?_
        refine J.dup 57 dX12_pilot_56 rfl rfl ?_
        refine mg_160 hM (x := S.1 16) rfl rfl 60 dX12_pilot_57 rfl ?_
        refine J.iconst 1 61 dX12_pilot_60 rfl (by decide) ?_
        refine J.iadd 62 dX12_pilot_61 rfl ?_
        refine mp_160 hM hF rfl 65 dX12_pilot_62 rfl (fun h hM hF => ?_)
        refine J.aload_n 66 dX12_pilot_65 rfl rfl ?_
        refine mg_160 hM (x := (S.1 16) + 1) rfl rfl 69 dX12_pilot_66 rfl ?_
        refine J.iconst 1 70 dX12_pilot_69 rfl (by decide) ?_
        refine J.isub 71 dX12_pilot_70 rfl ?_
        exact J.iret dX12_pilot_71 rfl (fin _ _ _ ⟨by simp [r_pilot, s_pilot, ib_n.mp c1, ib_n.mp c2, c3], by simp [r_pilot, s_pilot, ib_n.mp c1, ib_n.mp c2, c3]⟩ hM hF)
      · skip
        refine J.bipush (-2) 34 dX12_pilot_32 rfl (by decide) ?_
        exact J.iret dX12_pilot_34 rfl (fin _ _ _ ⟨by simp [r_pilot, s_pilot, ib_n.mp c1, ib_n.mp c2, c3], by simp [r_pilot, s_pilot, ib_n.mp c1, ib_n.mp c2, c3]⟩ hM hF)
    · skip
      refine J.iconst (-1) 22 dX12_pilot_21 rfl (by decide) ?_
      exact J.iret dX12_pilot_22 rfl (fin _ _ _ ⟨by simp [r_pilot, s_pilot, ib_n.mp c1, ib_0.mp c2], by simp [r_pilot, s_pilot, ib_n.mp c1, ib_0.mp c2]⟩ hM hF)
def r_load (S : MS) (x w t u : Int32) : Int32 := if x < 0 ∨ ¬ (0 ≤ x / 10000 ∧ x / 10000 ≤ 4) ∨ ¬ (0 < x / 100 - x / 100 / 100 * 100 ∧ x / 100 - x / 100 / 100 * 100 < S.1 3) ∨ ¬ (1 ≤ x - x / 100 * 100 ∧ x - x / 100 * 100 ≤ 9) ∨ ¬ (1 ≤ w ∧ w ≤ 99) ∨ ¬ (0 ≤ t ∧ t ≤ 720) ∨ ¬ (0 ≤ u ∧ u ≤ 720) then -1 else if S.1 28 = 80 then -2 else ((S.1 28) + 1) - 1
def s_load (S : MS) (x w t u : Int32) : MS := if (x < 0 ∨ ¬ (0 ≤ x / 10000 ∧ x / 10000 ≤ 4) ∨ ¬ (0 < x / 100 - x / 100 / 100 * 100 ∧ x / 100 - x / 100 / 100 * 100 < S.1 3) ∨ ¬ (1 ≤ x - x / 100 * 100 ∧ x - x / 100 * 100 ≤ 9) ∨ ¬ (1 ≤ w ∧ w ≤ 99) ∨ ¬ (0 ≤ t ∧ t ≤ 720) ∨ ¬ (0 ≤ u ∧ u ≤ 720)) ∨ (S.1 28 = 80) then S else (vf_upd S.1 28 ((S.1 28) + 1), u2 (u2 (u2 (u2 (u2 (u2 (u2 (u2 (u2 S.2 20 ((S.1 28).toNatClampNeg) (x / 10000)) 17 ((S.1 28).toNatClampNeg) ((x / 100) - (x / 100) / 100 * 100)) 19 ((S.1 28).toNatClampNeg) (x - x / 100 * 100)) 18 ((S.1 28).toNatClampNeg) w) 21 ((S.1 28).toNatClampNeg) t) 22 ((S.1 28).toNatClampNeg) u) 24 ((S.1 28).toNatClampNeg) (-1)) 25 ((S.1 28).toNatClampNeg) (-1)) 26 ((S.1 28).toNatClampNeg) (-1))
theorem k_load {S : MS} {x : Int32} {w : Int32} {t : Int32} {u : Int32} {d : Nat} (hP : ¬ S.1 28 = 80 → vp_in (S.1 28) 80) : CM Y_X12_load (d + 1) [.int x, .int w, .int t, .int u] S (fun r S2 => r = some (.int (r_load S x w t u)) ∧ S2 = s_load S x w t u) := by
  refine CM.of 0 rfl (fun _ => Nat.le_of_ble_eq_true rfl) (by simp [Value.category]) ?_
  intro G m0 ad h0 h post hM hF fin
  show J Y_X12_load (d + 1) G 0 0 0 [some (.ref m0), some (.int x), some (.int w), some (.int t), some (.int u)] [] h post
  refine J.iload_n 1 dX12_load_0 rfl rfl ?_
  refine J.if_lt 77 4 dX12_load_1 (by decide) rfl (fun c1 => ?_) (fun c1 => ?_)
  · skip
    refine J.iconst (-1) 78 dX12_load_77 rfl (by decide) ?_
    exact J.iret dX12_load_78 rfl (fin _ _ _ ⟨by simp [r_load, s_load, c1, Int32.not_le.mpr c1], by simp [r_load, s_load, c1, Int32.not_le.mpr c1]⟩ hM hF)
  · skip
    refine J.iload_n 5 dX12_load_4 rfl rfl ?_
    refine J.sipush 10000 8 dX12_load_5 rfl (by decide) ?_
    refine J.idiv 9 dX12_load_8 rfl (by decide) ?_
    refine J.iconst 0 10 dX12_load_9 rfl (by decide) ?_
    refine J.iconst 4 11 dX12_load_10 rfl (by decide) ?_
    refine mc_153 (k_within (v := x / 10000) (a := 0) (b := 4)) rfl 14 dX12_load_11 rfl rfl rfl (by decide) ?_
    refine J.if_eq 77 17 dX12_load_14 (by decide) rfl (fun c2 => ?_) (fun c2 => ?_)
    · skip
      refine J.iconst (-1) 78 dX12_load_77 rfl (by decide) ?_
      exact J.iret dX12_load_78 rfl (fin _ _ _ ⟨by simp [r_load, s_load, c1, Int32.not_lt.mp c1, ib_0.mp c2], by simp [r_load, s_load, c1, Int32.not_lt.mp c1, ib_0.mp c2]⟩ hM hF)
    · skip
      refine J.aload_n 18 dX12_load_17 rfl rfl ?_
      refine J.iload_n 19 dX12_load_18 rfl rfl ?_
      refine J.bipush 100 21 dX12_load_19 rfl (by decide) ?_
      refine J.idiv 22 dX12_load_21 rfl (by decide) ?_
      refine J.bipush 100 24 dX12_load_22 rfl (by decide) ?_
      refine J.irem 25 dX12_load_24 rfl (by decide) ?_
      refine mc_166 hM hF (k_isHut (S := S) (p := (x / 100) - (x / 100) / 100 * 100)) rfl 28 dX12_load_25 rfl rfl rfl (by decide) (fun r S2 hp h hM hF => ?_)
      obtain ⟨rfl, hp⟩ := hp
      replace hp := hp.symm
      subst hp
      refine J.if_eq 77 31 dX12_load_28 (by decide) rfl (fun c3 => ?_) (fun c3 => ?_)
      · skip
        refine J.iconst (-1) 78 dX12_load_77 rfl (by decide) ?_
        exact J.iret dX12_load_78 rfl (fin _ _ _ ⟨by simp [r_load, s_load, c1, Int32.not_lt.mp c1, ib_n.mp c2, ib_0.mp c3], by simp [r_load, s_load, c1, Int32.not_lt.mp c1, ib_n.mp c2, ib_0.mp c3]⟩ hM hF)
      · skip
        refine J.iload_n 32 dX12_load_31 rfl rfl ?_
        refine J.bipush 100 34 dX12_load_32 rfl (by decide) ?_
        refine J.irem 35 dX12_load_34 rfl (by decide) ?_
        refine J.iconst 1 36 dX12_load_35 rfl (by decide) ?_
        refine J.bipush 9 38 dX12_load_36 rfl (by decide) ?_
        refine mc_153 (k_within (v := x - x / 100 * 100) (a := 1) (b := 9)) rfl 41 dX12_load_38 rfl rfl rfl (by decide) ?_
        refine J.if_eq 77 44 dX12_load_41 (by decide) rfl (fun c4 => ?_) (fun c4 => ?_)
        · skip
          refine J.iconst (-1) 78 dX12_load_77 rfl (by decide) ?_
          exact J.iret dX12_load_78 rfl (fin _ _ _ ⟨by simp [r_load, s_load, c1, Int32.not_lt.mp c1, ib_n.mp c2, ib_n.mp c3, ib_0.mp c4], by simp [r_load, s_load, c1, Int32.not_lt.mp c1, ib_n.mp c2, ib_n.mp c3, ib_0.mp c4]⟩ hM hF)
        · skip
          refine J.iload_n 45 dX12_load_44 rfl rfl ?_
          refine J.iconst 1 46 dX12_load_45 rfl (by decide) ?_
          refine J.bipush 99 48 dX12_load_46 rfl (by decide) ?_
          refine mc_153 (k_within (v := w) (a := 1) (b := 99)) rfl 51 dX12_load_48 rfl rfl rfl (by decide) ?_
          refine J.if_eq 77 54 dX12_load_51 (by decide) rfl (fun c5 => ?_) (fun c5 => ?_)
          · skip
            refine J.iconst (-1) 78 dX12_load_77 rfl (by decide) ?_
            exact J.iret dX12_load_78 rfl (fin _ _ _ ⟨by simp [r_load, s_load, c1, Int32.not_lt.mp c1, ib_n.mp c2, ib_n.mp c3, ib_n.mp c4, ib_0.mp c5], by simp [r_load, s_load, c1, Int32.not_lt.mp c1, ib_n.mp c2, ib_n.mp c3, ib_n.mp c4, ib_0.mp c5]⟩ hM hF)
          · skip
            refine J.iload_n 55 dX12_load_54 rfl rfl ?_
            refine J.iconst 0 56 dX12_load_55 rfl (by decide) ?_
            refine J.sipush 720 59 dX12_load_56 rfl (by decide) ?_
            refine mc_153 (k_within (v := t) (a := 0) (b := 720)) rfl 62 dX12_load_59 rfl rfl rfl (by decide) ?_
            refine J.if_eq 77 65 dX12_load_62 (by decide) rfl (fun c6 => ?_) (fun c6 => ?_)
            · skip
              refine J.iconst (-1) 78 dX12_load_77 rfl (by decide) ?_
              exact J.iret dX12_load_78 rfl (fin _ _ _ ⟨by simp [r_load, s_load, c1, Int32.not_lt.mp c1, ib_n.mp c2, ib_n.mp c3, ib_n.mp c4, ib_n.mp c5, ib_0.mp c6], by simp [r_load, s_load, c1, Int32.not_lt.mp c1, ib_n.mp c2, ib_n.mp c3, ib_n.mp c4, ib_n.mp c5, ib_0.mp c6]⟩ hM hF)
            · skip
              refine J.iload 67 dX12_load_65 rfl rfl ?_
              refine J.iconst 0 68 dX12_load_67 rfl (by decide) ?_
              refine J.sipush 720 71 dX12_load_68 rfl (by decide) ?_
              refine mc_153 (k_within (v := u) (a := 0) (b := 720)) rfl 74 dX12_load_71 rfl rfl rfl (by decide) ?_
              refine J.if_ne 79 77 dX12_load_74 (by decide) rfl (fun c7 => ?_) (fun c7 => ?_)
              · skip
                refine J.aload_n 80 dX12_load_79 rfl rfl ?_
                refine mg_163 hM (x := S.1 28) rfl rfl 83 dX12_load_80 rfl ?_
                refine J.bipush 80 85 dX12_load_83 rfl (by decide) ?_
                refine J.icmp_ne 91 88 dX12_load_85 (by decide) rfl (fun c8 => ?_) (fun c8 => ?_)
                · skip
                  refine J.aload_n 92 dX12_load_91 rfl rfl ?_
                  refine mg_62 hM rfl 95 dX12_load_92 rfl ?_
                  refine J.aload_n 96 dX12_load_95 rfl rfl ?_
                  refine mg_163 hM (x := S.1 28) rfl rfl 99 dX12_load_96 rfl ?_
                  refine J.iload_n 100 dX12_load_99 rfl rfl ?_
                  refine J.sipush 10000 103 dX12_load_100 rfl (by decide) ?_
                  refine J.idiv 104 dX12_load_103 rfl (by decide) ?_
                  refine ml_is hM hF ((S.1 28).toNatClampNeg) rfl rfl rfl (by first | assumption | exact hP (by assumption)) 105 dX12_load_104 rfl (fun h hM hF => ?_)
                  refine J.aload_n 106 dX12_load_105 rfl rfl ?_
                  refine mg_53 hM rfl 109 dX12_load_106 rfl ?_
                  refine J.aload_n 110 dX12_load_109 rfl rfl ?_
                  refine mg_163 hM (x := S.1 28) rfl rfl 113 dX12_load_110 rfl ?_
                  refine J.iload_n 114 dX12_load_113 rfl rfl ?_
                  refine J.bipush 100 116 dX12_load_114 rfl (by decide) ?_
                  refine J.idiv 117 dX12_load_116 rfl (by decide) ?_
                  refine J.bipush 100 119 dX12_load_117 rfl (by decide) ?_
                  refine J.irem 120 dX12_load_119 rfl (by decide) ?_
                  refine ml_is hM hF ((S.1 28).toNatClampNeg) rfl rfl rfl (by first | assumption | exact hP (by assumption)) 121 dX12_load_120 rfl (fun h hM hF => ?_)
                  refine J.aload_n 122 dX12_load_121 rfl rfl ?_
                  refine mg_59 hM rfl 125 dX12_load_122 rfl ?_
                  refine J.aload_n 126 dX12_load_125 rfl rfl ?_
                  refine mg_163 hM (x := S.1 28) rfl rfl 129 dX12_load_126 rfl ?_
                  refine J.iload_n 130 dX12_load_129 rfl rfl ?_
                  refine J.bipush 100 132 dX12_load_130 rfl (by decide) ?_
                  refine J.irem 133 dX12_load_132 rfl (by decide) ?_
                  refine ml_is hM hF ((S.1 28).toNatClampNeg) rfl rfl rfl (by first | assumption | exact hP (by assumption)) 134 dX12_load_133 rfl (fun h hM hF => ?_)
                  refine J.aload_n 135 dX12_load_134 rfl rfl ?_
                  refine mg_56 hM rfl 138 dX12_load_135 rfl ?_
                  refine J.aload_n 139 dX12_load_138 rfl rfl ?_
                  refine mg_163 hM (x := S.1 28) rfl rfl 142 dX12_load_139 rfl ?_
                  refine J.iload_n 143 dX12_load_142 rfl rfl ?_
                  refine ml_is hM hF ((S.1 28).toNatClampNeg) rfl rfl rfl (by first | assumption | exact hP (by assumption)) 144 dX12_load_143 rfl (fun h hM hF => ?_)
                  refine J.aload_n 145 dX12_load_144 rfl rfl ?_
                  refine mg_65 hM rfl 148 dX12_load_145 rfl ?_
                  refine J.aload_n 149 dX12_load_148 rfl rfl ?_
                  refine mg_163 hM (x := S.1 28) rfl rfl 152 dX12_load_149 rfl ?_
                  refine J.iload_n 153 dX12_load_152 rfl rfl ?_
                  refine ml_is hM hF ((S.1 28).toNatClampNeg) rfl rfl rfl (by first | assumption | exact hP (by assumption)) 154 dX12_load_153 rfl (fun h hM hF => ?_)
                  refine J.aload_n 155 dX12_load_154 rfl rfl ?_
                  refine mg_68 hM rfl 158 dX12_load_155 rfl ?_
                  refine J.aload_n 159 dX12_load_158 rfl rfl ?_
                  refine mg_163 hM (x := S.1 28) rfl rfl 162 dX12_load_159 rfl ?_
                  refine J.iload 164 dX12_load_162 rfl rfl ?_
                  refine ml_is hM hF ((S.1 28).toNatClampNeg) rfl rfl rfl (by first | assumption | exact hP (by assumption)) 165 dX12_load_164 rfl (fun h hM hF => ?_)
                  refine J.aload_n 166 dX12_load_165 rfl rfl ?_
                  refine mg_74 hM rfl 169 dX12_load_166 rfl ?_
                  refine J.aload_n 170 dX12_load_169 rfl rfl ?_
                  refine mg_163 hM (x := S.1 28) rfl rfl 173 dX12_load_170 rfl ?_
                  refine J.iconst (-1) 174 dX12_load_173 rfl (by decide) ?_
                  refine ml_is hM hF ((S.1 28).toNatClampNeg) rfl rfl rfl (by first | assumption | exact hP (by assumption)) 175 dX12_load_174 rfl (fun h hM hF => ?_)
                  refine J.aload_n 176 dX12_load_175 rfl rfl ?_
                  refine mg_77 hM rfl 179 dX12_load_176 rfl ?_
                  refine J.aload_n 180 dX12_load_179 rfl rfl ?_
                  refine mg_163 hM (x := S.1 28) rfl rfl 183 dX12_load_180 rfl ?_
                  refine J.iconst (-1) 184 dX12_load_183 rfl (by decide) ?_
                  refine ml_is hM hF ((S.1 28).toNatClampNeg) rfl rfl rfl (by first | assumption | exact hP (by assumption)) 185 dX12_load_184 rfl (fun h hM hF => ?_)
                  refine J.aload_n 186 dX12_load_185 rfl rfl ?_
                  refine mg_80 hM rfl 189 dX12_load_186 rfl ?_
                  refine J.aload_n 190 dX12_load_189 rfl rfl ?_
                  refine mg_163 hM (x := S.1 28) rfl rfl 193 dX12_load_190 rfl ?_
                  refine J.iconst (-1) 194 dX12_load_193 rfl (by decide) ?_
                  refine ml_is hM hF ((S.1 28).toNatClampNeg) rfl rfl rfl (by first | assumption | exact hP (by assumption)) 195 dX12_load_194 rfl (fun h hM hF => ?_)
                  refine J.aload_n 196 dX12_load_195 rfl rfl ?_
                  refine J.dup 197 dX12_load_196 rfl rfl ?_
                  refine mg_163 hM (x := S.1 28) rfl rfl 200 dX12_load_197 rfl ?_
                  refine J.iconst 1 201 dX12_load_200 rfl (by decide) ?_
                  refine J.iadd 202 dX12_load_201 rfl ?_
                  refine mp_163 hM hF rfl 205 dX12_load_202 rfl (fun h hM hF => ?_)
                  refine J.aload_n 206 dX12_load_205 rfl rfl ?_
                  refine mg_163 hM (x := (S.1 28) + 1) rfl rfl 209 dX12_load_206 rfl ?_
                  refine J.iconst 1 210 dX12_load_209 rfl (by decide) ?_
                  refine J.isub 211 dX12_load_210 rfl ?_
                  exact J.iret dX12_load_211 rfl (fin _ _ _ ⟨by simp [r_load, s_load, c1, Int32.not_lt.mp c1, ib_n.mp c2, ib_n.mp c3, ib_n.mp c4, ib_n.mp c5, ib_n.mp c6, ib_n.mp c7, c8], by simp [r_load, s_load, c1, Int32.not_lt.mp c1, ib_n.mp c2, ib_n.mp c3, ib_n.mp c4, ib_n.mp c5, ib_n.mp c6, ib_n.mp c7, c8]⟩ hM hF)
                · skip
                  refine J.bipush (-2) 90 dX12_load_88 rfl (by decide) ?_
                  exact J.iret dX12_load_90 rfl (fin _ _ _ ⟨by simp [r_load, s_load, c1, Int32.not_lt.mp c1, ib_n.mp c2, ib_n.mp c3, ib_n.mp c4, ib_n.mp c5, ib_n.mp c6, ib_n.mp c7, c8], by simp [r_load, s_load, c1, Int32.not_lt.mp c1, ib_n.mp c2, ib_n.mp c3, ib_n.mp c4, ib_n.mp c5, ib_n.mp c6, ib_n.mp c7, c8]⟩ hM hF)
              · skip
                refine J.iconst (-1) 78 dX12_load_77 rfl (by decide) ?_
                exact J.iret dX12_load_78 rfl (fin _ _ _ ⟨by simp [r_load, s_load, c1, Int32.not_lt.mp c1, ib_n.mp c2, ib_n.mp c3, ib_n.mp c4, ib_n.mp c5, ib_n.mp c6, ib_0.mp c7], by simp [r_load, s_load, c1, Int32.not_lt.mp c1, ib_n.mp c2, ib_n.mp c3, ib_n.mp c4, ib_n.mp c5, ib_n.mp c6, ib_0.mp c7]⟩ hM hF)
def r_list (S : MS) (x : Int32) : Int32 := if ¬ (0 < x ∧ x < S.1 3) then -1 else if S.1 51 = 5 then -2 else (S.1 51) + 1
def s_list (S : MS) (x : Int32) : MS := if (¬ (0 < x ∧ x < S.1 3)) ∨ (S.1 51 = 5) then S else (vf_upd S.1 51 ((S.1 51) + 1), u2 S.2 50 ((S.1 51).toNatClampNeg) x)
theorem k_list {S : MS} {x : Int32} {d : Nat} (hP : ¬ S.1 51 = 5 → vp_in (S.1 51) 5) : CM Y_X12_list (d + 1) [.int x] S (fun r S2 => r = some (.int (r_list S x)) ∧ S2 = s_list S x) := by
  refine CM.of 0 rfl (fun _ => Nat.le_of_ble_eq_true rfl) (by simp [Value.category]) ?_
  intro G m0 ad h0 h post hM hF fin
  show J Y_X12_list (d + 1) G 0 0 0 [some (.ref m0), some (.int x)] [] h post
  refine J.aload_n 1 dX12_list_0 rfl rfl ?_
  refine J.iload_n 2 dX12_list_1 rfl rfl ?_
  refine mc_166 hM hF (k_isHut (S := S) (p := x)) rfl 5 dX12_list_2 rfl rfl rfl (by decide) (fun r S2 hp h hM hF => ?_)
  obtain ⟨rfl, hp⟩ := hp
  replace hp := hp.symm
  subst hp
  refine J.if_ne 10 8 dX12_list_5 (by decide) rfl (fun c1 => ?_) (fun c1 => ?_)
  · skip
    refine J.aload_n 11 dX12_list_10 rfl rfl ?_
    refine mg_274 hM (x := S.1 51) rfl rfl 14 dX12_list_11 rfl ?_
    refine J.iconst 5 15 dX12_list_14 rfl (by decide) ?_
    refine J.icmp_ne 21 18 dX12_list_15 (by decide) rfl (fun c2 => ?_) (fun c2 => ?_)
    · skip
      refine J.aload_n 22 dX12_list_21 rfl rfl ?_
      refine mg_129 hM rfl 25 dX12_list_22 rfl ?_
      refine J.aload_n 26 dX12_list_25 rfl rfl ?_
      refine mg_274 hM (x := S.1 51) rfl rfl 29 dX12_list_26 rfl ?_
      refine J.iload_n 30 dX12_list_29 rfl rfl ?_
      refine ml_is hM hF ((S.1 51).toNatClampNeg) rfl rfl rfl (by first | assumption | exact hP (by assumption)) 31 dX12_list_30 rfl (fun h hM hF => ?_)
      refine J.aload_n 32 dX12_list_31 rfl rfl ?_
      refine J.dup 33 dX12_list_32 rfl rfl ?_
      refine mg_274 hM (x := S.1 51) rfl rfl 36 dX12_list_33 rfl ?_
      refine J.iconst 1 37 dX12_list_36 rfl (by decide) ?_
      refine J.iadd 38 dX12_list_37 rfl ?_
      refine mp_274 hM hF rfl 41 dX12_list_38 rfl (fun h hM hF => ?_)
      refine J.aload_n 42 dX12_list_41 rfl rfl ?_
      refine mg_274 hM (x := (S.1 51) + 1) rfl rfl 45 dX12_list_42 rfl ?_
      exact J.iret dX12_list_45 rfl (fin _ _ _ ⟨by simp [r_list, s_list, ib_n.mp c1, c2], by simp [r_list, s_list, ib_n.mp c1, c2]⟩ hM hF)
    · skip
      refine J.bipush (-2) 20 dX12_list_18 rfl (by decide) ?_
      exact J.iret dX12_list_20 rfl (fin _ _ _ ⟨by simp [r_list, s_list, ib_n.mp c1, c2], by simp [r_list, s_list, ib_n.mp c1, c2]⟩ hM hF)
  · skip
    refine J.iconst (-1) 9 dX12_list_8 rfl (by decide) ?_
    exact J.iret dX12_list_9 rfl (fin _ _ _ ⟨by simp [r_list, s_list, ib_0.mp c1], by simp [r_list, s_list, ib_0.mp c1]⟩ hM hF)
def r_drop (S : MS) : Int32 := if S.1 33 = 0 then -3 else (S.1 33) - 1
def s_drop (S : MS) : MS := if (S.1 33 = 0) then S else (vf_upd S.1 33 ((S.1 33) - 1), S.2)
theorem k_drop {S : MS} {d : Nat} : CM Y_X12_drop d [] S (fun r S2 => r = some (.int (r_drop S )) ∧ S2 = s_drop S ) := by
  refine CM.of 0 rfl (fun _ => Nat.le_of_ble_eq_true rfl) (by simp [Value.category]) ?_
  intro G m0 ad h0 h post hM hF fin
  show J Y_X12_drop d G 0 0 0 [some (.ref m0)] [] h post
  refine J.aload_n 1 dX12_drop_0 rfl rfl ?_
  refine mg_182 hM (x := S.1 33) rfl rfl 4 dX12_drop_1 rfl ?_
  refine J.if_ne 10 7 dX12_drop_4 (by decide) rfl (fun c1 => ?_) (fun c1 => ?_)
  · skip
    refine J.aload_n 11 dX12_drop_10 rfl rfl ?_
    refine J.dup 12 dX12_drop_11 rfl rfl ?_
    refine mg_182 hM (x := S.1 33) rfl rfl 15 dX12_drop_12 rfl ?_
    refine J.iconst 1 16 dX12_drop_15 rfl (by decide) ?_
    refine J.isub 17 dX12_drop_16 rfl ?_
    refine mp_182 hM hF rfl 20 dX12_drop_17 rfl (fun h hM hF => ?_)
    refine J.aload_n 21 dX12_drop_20 rfl rfl ?_
    refine mg_182 hM (x := (S.1 33) - 1) rfl rfl 24 dX12_drop_21 rfl ?_
    exact J.iret dX12_drop_24 rfl (fin _ _ _ ⟨by simp [r_drop, s_drop, c1], by simp [r_drop, s_drop, c1]⟩ hM hF)
  · skip
    refine J.bipush (-3) 9 dX12_drop_7 rfl (by decide) ?_
    exact J.iret dX12_drop_9 rfl (fin _ _ _ ⟨by simp [r_drop, s_drop, c1], by simp [r_drop, s_drop, c1]⟩ hM hF)
def r_fuel (S : MS) (m : Int32) : Int32 := if ¬ (0 ≤ m ∧ m < S.1 11) then -1 else if S.1 0 < S.2 10 m.toNatClampNeg then -3 else (S.2 8 m.toNatClampNeg) - (S.2 9 m.toNatClampNeg)
def s_fuel (S : MS) (m : Int32) : MS := if (¬ (0 ≤ m ∧ m < S.1 11)) ∨ (S.1 0 < S.2 10 m.toNatClampNeg) then S else (S.1, u2 S.2 9 m.toNatClampNeg (S.2 8 m.toNatClampNeg))
theorem k_fuel {S : MS} {m : Int32} {d : Nat} (hP : (0 ≤ m ∧ m < S.1 11) → vp_in m 4) : CM Y_X12_fuel (d + 1) [.int m] S (fun r S2 => r = some (.int (r_fuel S m)) ∧ S2 = s_fuel S m) := by
  refine CM.of 1 rfl (fun _ => Nat.le_of_ble_eq_true rfl) (by simp [Value.category]) ?_
  intro G m0 ad h0 h post hM hF fin
  show J Y_X12_fuel (d + 1) G 0 0 0 [some (.ref m0), some (.int m), none] [] h post
  refine J.aload_n 1 dX12_fuel_0 rfl rfl ?_
  refine J.iload_n 2 dX12_fuel_1 rfl rfl ?_
  refine mc_215 hM hF (k_isMachine (S := S) (m := m)) rfl 5 dX12_fuel_2 rfl rfl rfl (by decide) (fun r S2 hp h hM hF => ?_)
  obtain ⟨rfl, hp⟩ := hp
  replace hp := hp.symm
  subst hp
  refine J.if_ne 10 8 dX12_fuel_5 (by decide) rfl (fun c1 => ?_) (fun c1 => ?_)
  · skip
    refine J.aload_n 11 dX12_fuel_10 rfl rfl ?_
    refine mg_38 hM rfl 14 dX12_fuel_11 rfl ?_
    refine J.iload_n 15 dX12_fuel_14 rfl rfl ?_
    refine ml_ia hM m.toNatClampNeg rfl rfl rfl rfl (by first | assumption | exact hP (ib_n.mp (by assumption))) 16 dX12_fuel_15 rfl ?_
    refine J.aload_n 17 dX12_fuel_16 rfl rfl ?_
    refine mg_221 hM (x := S.1 0) rfl rfl 20 dX12_fuel_17 rfl ?_
    refine J.icmp_le 26 23 dX12_fuel_20 (by decide) rfl (fun c2 => ?_) (fun c2 => ?_)
    · skip
      refine J.aload_n 27 dX12_fuel_26 rfl rfl ?_
      refine mg_32 hM rfl 30 dX12_fuel_27 rfl ?_
      refine J.iload_n 31 dX12_fuel_30 rfl rfl ?_
      refine ml_ia hM m.toNatClampNeg rfl rfl rfl rfl (by first | assumption | exact hP (ib_n.mp (by assumption))) 32 dX12_fuel_31 rfl ?_
      refine J.aload_n 33 dX12_fuel_32 rfl rfl ?_
      refine mg_35 hM rfl 36 dX12_fuel_33 rfl ?_
      refine J.iload_n 37 dX12_fuel_36 rfl rfl ?_
      refine ml_ia hM m.toNatClampNeg rfl rfl rfl rfl (by first | assumption | exact hP (ib_n.mp (by assumption))) 38 dX12_fuel_37 rfl ?_
      refine J.isub 39 dX12_fuel_38 rfl ?_
      refine J.ist_2 40 dX12_fuel_39 rfl (by decide) ?_
      refine J.aload_n 41 dX12_fuel_40 rfl rfl ?_
      refine mg_35 hM rfl 44 dX12_fuel_41 rfl ?_
      refine J.iload_n 45 dX12_fuel_44 rfl rfl ?_
      refine J.aload_n 46 dX12_fuel_45 rfl rfl ?_
      refine mg_32 hM rfl 49 dX12_fuel_46 rfl ?_
      refine J.iload_n 50 dX12_fuel_49 rfl rfl ?_
      refine ml_ia hM m.toNatClampNeg rfl rfl rfl rfl (by first | assumption | exact hP (ib_n.mp (by assumption))) 51 dX12_fuel_50 rfl ?_
      refine ml_is hM hF m.toNatClampNeg rfl rfl rfl (by first | assumption | exact hP (ib_n.mp (by assumption))) 52 dX12_fuel_51 rfl (fun h hM hF => ?_)
      refine J.iload_n 53 dX12_fuel_52 rfl rfl ?_
      exact J.iret dX12_fuel_53 rfl (fin _ _ _ ⟨by simp [r_fuel, s_fuel, ib_n.mp c1, c2, Int32.not_lt.mpr c2], by simp [r_fuel, s_fuel, ib_n.mp c1, c2, Int32.not_lt.mpr c2]⟩ hM hF)
    · skip
      refine J.bipush (-3) 25 dX12_fuel_23 rfl (by decide) ?_
      exact J.iret dX12_fuel_25 rfl (fin _ _ _ ⟨by simp [r_fuel, s_fuel, ib_n.mp c1, c2, Int32.not_le.mp c2], by simp [r_fuel, s_fuel, ib_n.mp c1, c2, Int32.not_le.mp c2]⟩ hM hF)
  · skip
    refine J.iconst (-1) 9 dX12_fuel_8 rfl (by decide) ?_
    exact J.iret dX12_fuel_9 rfl (fin _ _ _ ⟨by simp [r_fuel, s_fuel, ib_0.mp c1], by simp [r_fuel, s_fuel, ib_0.mp c1]⟩ hM hF)
