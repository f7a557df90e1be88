theorem c_isDig {c : Int32} {d : Nat} : CF Y_X9_isDigit d [.int c] (ib (48 ≤ c ∧ c ≤ 57)) := by
  refine CF.of 0 rfl (Nat.le_of_ble_eq_true rfl) (by simp [Value.category]) ?_
  intro G h post fin
  show J Y_X9_isDigit d G 0 0 0 [some (.int c)] [] h post
  refine J.iload_n 1 dX9_isDigit_0 rfl rfl ?_
  refine J.bipush 48 3 dX9_isDigit_1 rfl (by decide) ?_
  refine J.icmp_lt 16 6 dX9_isDigit_3 (by decide) rfl (fun c1 => ?_) (fun c1 => ?_)
  · skip
    refine J.iconst 0 17 dX9_isDigit_16 rfl (by decide) ?_
    exact J.zret dX9_isDigit_17 rfl (Or.inl rfl) (fin _ (by simp [ib, c1, Int32.not_le.mpr c1]))
  · skip
    refine J.iload_n 7 dX9_isDigit_6 rfl rfl ?_
    refine J.bipush 57 9 dX9_isDigit_7 rfl (by decide) ?_
    refine J.icmp_gt 16 12 dX9_isDigit_9 (by decide) rfl (fun c2 => ?_) (fun c2 => ?_)
    · skip
      refine J.iconst 0 17 dX9_isDigit_16 rfl (by decide) ?_
      exact J.zret dX9_isDigit_17 rfl (Or.inl rfl) (fin _ (by simp [ib, c1, Int32.not_lt.mp c1, c2, Int32.not_le.mpr c2]))
    · skip
      refine J.iconst 1 13 dX9_isDigit_12 rfl (by decide) ?_
      refine J.goto 17 dX9_isDigit_13 (by decide) ?_
      exact J.zret dX9_isDigit_17 rfl (Or.inr rfl) (fin _ (by simp [ib, c1, Int32.not_lt.mp c1, c2, Int32.not_lt.mp c2]))
def i2cI (b : Int32) : Int32 := (b.toUInt32 % 65536).toInt32
def tbN (b : Int32) : Int32 := if b = 33 then 1 else if b = 38 then 2 else if b = 42 then 2 else if b = 43 then 2 else if b = 45 then 2 else if b = 60 then 2 else if b = 61 then 2 else if b = 62 then 2 else if b = 124 then 2 else if 48 ≤ b ∧ b ≤ 57 then 0 else if nmX (i2cI b) < 0 then -1 else 0
def stN (b : Int32) : Int32 := if 48 ≤ b ∧ b ≤ 57 then b - 48 else if nmX (i2cI b) < 0 then 2000 + b else 1000 + nmX (i2cI b)
theorem c_takenBy {d : Nat} {G : Nat → Nat} {h : AH} {b : Int32} : Ct Y_X9_takenBy (d + 4) G 0 0 [.int b] h (fun r h2 => r = some (.int (tbN b)) ∧ h2 = h) := by
  refine Ct.ofn 0 rfl (Nat.le_of_ble_eq_true rfl) (by simp [Value.category]) ?_
  show J Y_X9_takenBy (d + 4) G 0 0 0 [some (.int b)] [] h _
  refine J.iload_n 1 dX9_takenBy_0 rfl rfl ?_
  by_cases e33 : b = 33
  · subst e33
    refine J.look (off := 85) 86 dX9_takenBy_1 (by decide) (by decide) (by decide) ?_
    refine J.iconst 1 87 dX9_takenBy_86 rfl (by decide) ?_
    exact J.iret dX9_takenBy_87 rfl ⟨rfl, rfl⟩
  by_cases e38 : b = 38
  · subst e38
    refine J.look (off := 83) 84 dX9_takenBy_1 (by decide) (by decide) (by decide) ?_
    refine J.iconst 2 85 dX9_takenBy_84 rfl (by decide) ?_
    exact J.iret dX9_takenBy_85 rfl ⟨rfl, rfl⟩
  by_cases e42 : b = 42
  · subst e42
    refine J.look (off := 83) 84 dX9_takenBy_1 (by decide) (by decide) (by decide) ?_
    refine J.iconst 2 85 dX9_takenBy_84 rfl (by decide) ?_
    exact J.iret dX9_takenBy_85 rfl ⟨rfl, rfl⟩
  by_cases e43 : b = 43
  · subst e43
    refine J.look (off := 83) 84 dX9_takenBy_1 (by decide) (by decide) (by decide) ?_
    refine J.iconst 2 85 dX9_takenBy_84 rfl (by decide) ?_
    exact J.iret dX9_takenBy_85 rfl ⟨rfl, rfl⟩
  by_cases e45 : b = 45
  · subst e45
    refine J.look (off := 83) 84 dX9_takenBy_1 (by decide) (by decide) (by decide) ?_
    refine J.iconst 2 85 dX9_takenBy_84 rfl (by decide) ?_
    exact J.iret dX9_takenBy_85 rfl ⟨rfl, rfl⟩
  by_cases e60 : b = 60
  · subst e60
    refine J.look (off := 83) 84 dX9_takenBy_1 (by decide) (by decide) (by decide) ?_
    refine J.iconst 2 85 dX9_takenBy_84 rfl (by decide) ?_
    exact J.iret dX9_takenBy_85 rfl ⟨rfl, rfl⟩
  by_cases e61 : b = 61
  · subst e61
    refine J.look (off := 83) 84 dX9_takenBy_1 (by decide) (by decide) (by decide) ?_
    refine J.iconst 2 85 dX9_takenBy_84 rfl (by decide) ?_
    exact J.iret dX9_takenBy_85 rfl ⟨rfl, rfl⟩
  by_cases e62 : b = 62
  · subst e62
    refine J.look (off := 83) 84 dX9_takenBy_1 (by decide) (by decide) (by decide) ?_
    refine J.iconst 2 85 dX9_takenBy_84 rfl (by decide) ?_
    exact J.iret dX9_takenBy_85 rfl ⟨rfl, rfl⟩
  by_cases e124 : b = 124
  · subst e124
    refine J.look (off := 83) 84 dX9_takenBy_1 (by decide) (by decide) (by decide) ?_
    refine J.iconst 2 85 dX9_takenBy_84 rfl (by decide) ?_
    exact J.iret dX9_takenBy_85 rfl ⟨rfl, rfl⟩
  have et : tbN b = if 48 ≤ b ∧ b ≤ 57 then 0 else if nmX (i2cI b) < 0 then -1 else 0 := by rw [tbN, if_neg e33, if_neg e38, if_neg e42, if_neg e43, if_neg e45, if_neg e60, if_neg e61, if_neg e62, if_neg e124]
  rw [et]
  refine J.look (off := 87) 88 dX9_takenBy_1 (by decide) ?_ (by decide) ?_
  · show Op.lookupswitch.offset [(33, 85), (38, 83), (42, 83), (43, 83), (45, 83), (60, 83), (61, 83), (62, 83), (124, 83)] 87 b.toInt = 87
    rw [lv_osw e33 (by decide), lv_osw e38 (by decide), lv_osw e42 (by decide), lv_osw e43 (by decide), lv_osw e45 (by decide), lv_osw e60 (by decide), lv_osw e61 (by decide), lv_osw e62 (by decide), lv_osw e124 (by decide)]
    rfl
  refine J.iload_n 89 dX9_takenBy_88 rfl rfl ?_
  refine cs_X9_19 rfl 92 (c_isDig (c := b) _ _) dX9_takenBy_89 rfl rfl rfl (Nat.le_of_ble_eq_true rfl) (Nat.zero_le _) (Nat.zero_le _) (fun r h2 hp => ?_)
  obtain ⟨rfl, rfl⟩ := hp
  refine J.if_ne 105 95 dX9_takenBy_92 (by decide) rfl (fun c1 => ?_) (fun c1 => ?_)
  · refine J.iconst 0 106 dX9_takenBy_105 rfl (by decide) ?_
    refine J.goto 110 dX9_takenBy_106 (by decide) ?_
    exact J.iret dX9_takenBy_110 rfl ⟨by rw [if_pos (ib_n.mp c1)], rfl⟩
  · rw [if_neg (ib_0.mp c1)]
    refine J.ldcT rfl 97 dX9_takenBy_95 rfl ?_
    refine J.iload_n 98 dX9_takenBy_97 rfl rfl ?_
    refine J.i2c 99 dX9_takenBy_98 rfl ?_
    refine J.callT (n := 1) (av := [.int (i2cI b)]) (rest := []) 102 (c_idx1 (d := d) (c := i2cI b)) dX9_takenBy_99 rfl wm_477 wm_478 wm_479 wm_19 wm_480 (by unfold jdesc; decide +kernel) (by decide) rfl rfl (Nat.le_of_ble_eq_true rfl) (Nat.zero_le _) (Nat.zero_le _) (fun r h2 hp => ?_)
    obtain ⟨rfl, rfl⟩ := hp
    refine J.if_lt 109 105 dX9_takenBy_102 (by decide) rfl (fun c2 => ?_) (fun c2 => ?_)
    · refine J.iconst (-1) 110 dX9_takenBy_109 rfl (by decide) ?_
      exact J.iret dX9_takenBy_110 rfl ⟨by rw [if_pos c2], rfl⟩
    · refine J.iconst 0 106 dX9_takenBy_105 rfl (by decide) ?_
      refine J.goto 110 dX9_takenBy_106 (by decide) ?_
      exact J.iret dX9_takenBy_110 rfl ⟨by rw [if_neg c2], rfl⟩
theorem c_stepOf {d : Nat} {G : Nat → Nat} {h : AH} {b : Int32} : Ct Y_X9_stepOf (d + 4) G 0 0 [.int b] h (fun r h2 => r = some (.int (stN b)) ∧ h2 = h) := by
  refine Ct.ofn 1 rfl (Nat.le_of_ble_eq_true rfl) (by simp [Value.category]) ?_
  show J Y_X9_stepOf (d + 4) G 0 0 0 [some (.int b), none] [] h _
  refine J.iload_n 1 dX9_stepOf_0 rfl rfl ?_
  refine cs_X9_19 rfl 4 (c_isDig (c := b) _ _) dX9_stepOf_1 rfl rfl rfl (Nat.le_of_ble_eq_true rfl) (Nat.zero_le _) (Nat.zero_le _) (fun r h2 hp => ?_)
  obtain ⟨rfl, rfl⟩ := hp
  refine J.if_eq 12 7 dX9_stepOf_4 (by decide) rfl (fun c1 => ?_) (fun c1 => ?_)
  · rw [stN, if_neg (ib_0.mp c1)]
    refine J.ldcT rfl 14 dX9_stepOf_12 rfl ?_
    refine J.iload_n 15 dX9_stepOf_14 rfl rfl ?_
    refine J.i2c 16 dX9_stepOf_15 rfl ?_
    refine J.callT (n := 1) (av := [.int (i2cI b)]) (rest := []) 19 (c_idx1 (d := d) (c := i2cI b)) dX9_stepOf_16 rfl wm_477 wm_478 wm_479 wm_19 wm_480 (by unfold jdesc; decide +kernel) (by decide) rfl rfl (Nat.le_of_ble_eq_true rfl) (Nat.zero_le _) (Nat.zero_le _) (fun r h2 hp => ?_)
    obtain ⟨rfl, rfl⟩ := hp
    refine J.ist_1 20 dX9_stepOf_19 rfl (by decide) ?_
    refine J.iload_n 21 dX9_stepOf_20 rfl rfl ?_
    refine J.if_lt 32 24 dX9_stepOf_21 (by decide) rfl (fun c2 => ?_) (fun c2 => ?_)
    · refine J.sipush 2000 35 dX9_stepOf_32 rfl (by decide) ?_
      refine J.iload_n 36 dX9_stepOf_35 rfl rfl ?_
      refine J.iadd 37 dX9_stepOf_36 rfl ?_
      exact J.iret dX9_stepOf_37 rfl ⟨by rw [if_pos c2], rfl⟩
    · refine J.sipush 1000 27 dX9_stepOf_24 rfl (by decide) ?_
      refine J.iload_n 28 dX9_stepOf_27 rfl rfl ?_
      refine J.iadd 29 dX9_stepOf_28 rfl ?_
      refine J.goto 37 dX9_stepOf_29 (by decide) ?_
      exact J.iret dX9_stepOf_37 rfl ⟨by rw [if_neg c2], rfl⟩
  · refine J.iload_n 8 dX9_stepOf_7 rfl rfl ?_
    refine J.bipush 48 10 dX9_stepOf_8 rfl (by decide) ?_
    refine J.isub 11 dX9_stepOf_10 rfl ?_
    exact J.iret dX9_stepOf_11 rfl ⟨by rw [stN, if_pos (ib_n.mp c1)], rfl⟩
