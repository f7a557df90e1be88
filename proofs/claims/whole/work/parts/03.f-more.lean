def m_both (c a b : Int32) : Int32 := if c = 43 then a + b else if c = 45 then a - b else if c = 42 then a * b else if c = 60 then ib (a < b) else if c = 61 then ib (a = b) else if c = 62 then ib (b < a) else if c = 38 then ib (¬ a = 0 ∧ ¬ b = 0) else ib (¬ a = 0 ∨ ¬ b = 0)
theorem k_both {c a b : Int32} {d : Nat} : CF Y_X12_both d [.int c, .int a, .int b] (m_both c a b) := by
  refine CF.of 0 rfl (Nat.le_of_ble_eq_true rfl) (by simp [Value.category]) ?_
  intro G h post fin
  show J Y_X12_both d G 0 0 0 [some (.int c), some (.int a), some (.int b)] [] h post
  refine J.iload_n 1 dX12_both_0 rfl rfl ?_
  by_cases c1 : (c).toInt < 38 ∨ 62 < (c).toInt
  · refine J.tsOut 175 dX12_both_1 c1 (by decide) ?_
    refine J.iload_n 176 dX12_both_175 rfl rfl ?_
    refine J.if_ne 183 179 dX12_both_176 (by decide) rfl (fun c2 => ?_) (fun c2 => ?_)
    · skip
      refine J.iconst 1 184 dX12_both_183 rfl (by decide) ?_
      refine J.goto 188 dX12_both_184 (by decide) ?_
      exact J.iret dX12_both_188 rfl (fin _ (by simp (decide := true) [m_both, ib, sw_out c1 38 (by decide) (by decide), sw_out c1 42 (by decide) (by decide), sw_out c1 43 (by decide) (by decide), sw_out c1 45 (by decide) (by decide), sw_out c1 60 (by decide) (by decide), sw_out c1 61 (by decide) (by decide), sw_out c1 62 (by decide) (by decide), c2]))
    · skip
      refine J.iload_n 180 dX12_both_179 rfl rfl ?_
      refine J.if_eq 187 183 dX12_both_180 (by decide) rfl (fun c3 => ?_) (fun c3 => ?_)
      · skip
        refine J.iconst 0 188 dX12_both_187 rfl (by decide) ?_
        exact J.iret dX12_both_188 rfl (fin _ (by simp (decide := true) [m_both, ib, sw_out c1 38 (by decide) (by decide), sw_out c1 42 (by decide) (by decide), sw_out c1 43 (by decide) (by decide), sw_out c1 45 (by decide) (by decide), sw_out c1 60 (by decide) (by decide), sw_out c1 61 (by decide) (by decide), sw_out c1 62 (by decide) (by decide), c2, c3]))
      · skip
        refine J.iconst 1 184 dX12_both_183 rfl (by decide) ?_
        refine J.goto 188 dX12_both_184 (by decide) ?_
        exact J.iret dX12_both_188 rfl (fin _ (by simp (decide := true) [m_both, ib, sw_out c1 38 (by decide) (by decide), sw_out c1 42 (by decide) (by decide), sw_out c1 43 (by decide) (by decide), sw_out c1 45 (by decide) (by decide), sw_out c1 60 (by decide) (by decide), sw_out c1 61 (by decide) (by decide), sw_out c1 62 (by decide) (by decide), c2, c3]))
  · have q1 : (c).toInt = 38 ∨ (c).toInt = 39 ∨ (c).toInt = 40 ∨ (c).toInt = 41 ∨ (c).toInt = 42 ∨ (c).toInt = 43 ∨ (c).toInt = 44 ∨ (c).toInt = 45 ∨ (c).toInt = 46 ∨ (c).toInt = 47 ∨ (c).toInt = 48 ∨ (c).toInt = 49 ∨ (c).toInt = 50 ∨ (c).toInt = 51 ∨ (c).toInt = 52 ∨ (c).toInt = 53 ∨ (c).toInt = 54 ∨ (c).toInt = 55 ∨ (c).toInt = 56 ∨ (c).toInt = 57 ∨ (c).toInt = 58 ∨ (c).toInt = 59 ∨ (c).toInt = 60 ∨ (c).toInt = 61 ∨ (c).toInt = 62 := by omega
    rcases q1 with q1 | q1 | q1 | q1 | q1 | q1 | q1 | q1 | q1 | q1 | q1 | q1 | q1 | q1 | q1 | q1 | q1 | q1 | q1 | q1 | q1 | q1 | q1 | q1 | q1
    · have z1 : c = 38 := Int32.toInt_inj.mp (q1.trans (by decide))
      refine J.tsIn (k := 38) 161 dX12_both_1 q1 (by decide) (by decide) rfl (by decide) ?_
      refine J.iload_n 162 dX12_both_161 rfl rfl ?_
      refine J.if_eq 173 165 dX12_both_162 (by decide) rfl (fun c4 => ?_) (fun c4 => ?_)
      · skip
        refine J.iconst 0 174 dX12_both_173 rfl (by decide) ?_
        exact J.iret dX12_both_174 rfl (fin _ (by simp (decide := true) [m_both, ib, z1, c4]))
      · skip
        refine J.iload_n 166 dX12_both_165 rfl rfl ?_
        refine J.if_eq 173 169 dX12_both_166 (by decide) rfl (fun c5 => ?_) (fun c5 => ?_)
        · skip
          refine J.iconst 0 174 dX12_both_173 rfl (by decide) ?_
          exact J.iret dX12_both_174 rfl (fin _ (by simp (decide := true) [m_both, ib, z1, c4, c5]))
        · skip
          refine J.iconst 1 170 dX12_both_169 rfl (by decide) ?_
          refine J.goto 174 dX12_both_170 (by decide) ?_
          exact J.iret dX12_both_174 rfl (fin _ (by simp (decide := true) [m_both, ib, z1, c4, c5]))
    · have z1 : c = 39 := Int32.toInt_inj.mp (q1.trans (by decide))
      refine J.tsIn (k := 39) 175 dX12_both_1 q1 (by decide) (by decide) rfl (by decide) ?_
      refine J.iload_n 176 dX12_both_175 rfl rfl ?_
      refine J.if_ne 183 179 dX12_both_176 (by decide) rfl (fun c6 => ?_) (fun c6 => ?_)
      · skip
        refine J.iconst 1 184 dX12_both_183 rfl (by decide) ?_
        refine J.goto 188 dX12_both_184 (by decide) ?_
        exact J.iret dX12_both_188 rfl (fin _ (by simp (decide := true) [m_both, ib, z1, c6]))
      · skip
        refine J.iload_n 180 dX12_both_179 rfl rfl ?_
        refine J.if_eq 187 183 dX12_both_180 (by decide) rfl (fun c7 => ?_) (fun c7 => ?_)
        · skip
          refine J.iconst 0 188 dX12_both_187 rfl (by decide) ?_
          exact J.iret dX12_both_188 rfl (fin _ (by simp (decide := true) [m_both, ib, z1, c6, c7]))
        · skip
          refine J.iconst 1 184 dX12_both_183 rfl (by decide) ?_
          refine J.goto 188 dX12_both_184 (by decide) ?_
          exact J.iret dX12_both_188 rfl (fin _ (by simp (decide := true) [m_both, ib, z1, c6, c7]))
    · have z1 : c = 40 := Int32.toInt_inj.mp (q1.trans (by decide))
      refine J.tsIn (k := 40) 175 dX12_both_1 q1 (by decide) (by decide) rfl (by decide) ?_
      refine J.iload_n 176 dX12_both_175 rfl rfl ?_
      refine J.if_ne 183 179 dX12_both_176 (by decide) rfl (fun c8 => ?_) (fun c8 => ?_)
      · skip
        refine J.iconst 1 184 dX12_both_183 rfl (by decide) ?_
        refine J.goto 188 dX12_both_184 (by decide) ?_
        exact J.iret dX12_both_188 rfl (fin _ (by simp (decide := true) [m_both, ib, z1, c8]))
      · skip
        refine J.iload_n 180 dX12_both_179 rfl rfl ?_
        refine J.if_eq 187 183 dX12_both_180 (by decide) rfl (fun c9 => ?_) (fun c9 => ?_)
        · skip
          refine J.iconst 0 188 dX12_both_187 rfl (by decide) ?_
          exact J.iret dX12_both_188 rfl (fin _ (by simp (decide := true) [m_both, ib, z1, c8, c9]))
        · skip
          refine J.iconst 1 184 dX12_both_183 rfl (by decide) ?_
          refine J.goto 188 dX12_both_184 (by decide) ?_
          exact J.iret dX12_both_188 rfl (fin _ (by simp (decide := true) [m_both, ib, z1, c8, c9]))
    · have z1 : c = 41 := Int32.toInt_inj.mp (q1.trans (by decide))
      refine J.tsIn (k := 41) 175 dX12_both_1 q1 (by decide) (by decide) rfl (by decide) ?_
      refine J.iload_n 176 dX12_both_175 rfl rfl ?_
      refine J.if_ne 183 179 dX12_both_176 (by decide) rfl (fun c10 => ?_) (fun c10 => ?_)
      · skip
        refine J.iconst 1 184 dX12_both_183 rfl (by decide) ?_
        refine J.goto 188 dX12_both_184 (by decide) ?_
        exact J.iret dX12_both_188 rfl (fin _ (by simp (decide := true) [m_both, ib, z1, c10]))
      · skip
        refine J.iload_n 180 dX12_both_179 rfl rfl ?_
        refine J.if_eq 187 183 dX12_both_180 (by decide) rfl (fun c11 => ?_) (fun c11 => ?_)
        · skip
          refine J.iconst 0 188 dX12_both_187 rfl (by decide) ?_
          exact J.iret dX12_both_188 rfl (fin _ (by simp (decide := true) [m_both, ib, z1, c10, c11]))
        · skip
          refine J.iconst 1 184 dX12_both_183 rfl (by decide) ?_
          refine J.goto 188 dX12_both_184 (by decide) ?_
          exact J.iret dX12_both_188 rfl (fin _ (by simp (decide := true) [m_both, ib, z1, c10, c11]))
    · have z1 : c = 42 := Int32.toInt_inj.mp (q1.trans (by decide))
      refine J.tsIn (k := 42) 124 dX12_both_1 q1 (by decide) (by decide) rfl (by decide) ?_
      refine J.iload_n 125 dX12_both_124 rfl rfl ?_
      refine J.iload_n 126 dX12_both_125 rfl rfl ?_
      refine J.imul 127 dX12_both_126 rfl ?_
      exact J.iret dX12_both_127 rfl (fin _ (by simp (decide := true) [m_both, ib, z1]))
    · have z1 : c = 43 := Int32.toInt_inj.mp (q1.trans (by decide))
      refine J.tsIn (k := 43) 116 dX12_both_1 q1 (by decide) (by decide) rfl (by decide) ?_
      refine J.iload_n 117 dX12_both_116 rfl rfl ?_
      refine J.iload_n 118 dX12_both_117 rfl rfl ?_
      refine J.iadd 119 dX12_both_118 rfl ?_
      exact J.iret dX12_both_119 rfl (fin _ (by simp (decide := true) [m_both, ib, z1]))
    · have z1 : c = 44 := Int32.toInt_inj.mp (q1.trans (by decide))
      refine J.tsIn (k := 44) 175 dX12_both_1 q1 (by decide) (by decide) rfl (by decide) ?_
      refine J.iload_n 176 dX12_both_175 rfl rfl ?_
      refine J.if_ne 183 179 dX12_both_176 (by decide) rfl (fun c12 => ?_) (fun c12 => ?_)
      · skip
        refine J.iconst 1 184 dX12_both_183 rfl (by decide) ?_
        refine J.goto 188 dX12_both_184 (by decide) ?_
        exact J.iret dX12_both_188 rfl (fin _ (by simp (decide := true) [m_both, ib, z1, c12]))
      · skip
        refine J.iload_n 180 dX12_both_179 rfl rfl ?_
        refine J.if_eq 187 183 dX12_both_180 (by decide) rfl (fun c13 => ?_) (fun c13 => ?_)
        · skip
          refine J.iconst 0 188 dX12_both_187 rfl (by decide) ?_
          exact J.iret dX12_both_188 rfl (fin _ (by simp (decide := true) [m_both, ib, z1, c12, c13]))
        · skip
          refine J.iconst 1 184 dX12_both_183 rfl (by decide) ?_
          refine J.goto 188 dX12_both_184 (by decide) ?_
          exact J.iret dX12_both_188 rfl (fin _ (by simp (decide := true) [m_both, ib, z1, c12, c13]))
    · have z1 : c = 45 := Int32.toInt_inj.mp (q1.trans (by decide))
      refine J.tsIn (k := 45) 120 dX12_both_1 q1 (by decide) (by decide) rfl (by decide) ?_
      refine J.iload_n 121 dX12_both_120 rfl rfl ?_
      refine J.iload_n 122 dX12_both_121 rfl rfl ?_
      refine J.isub 123 dX12_both_122 rfl ?_
      exact J.iret dX12_both_123 rfl (fin _ (by simp (decide := true) [m_both, ib, z1]))
    · have z1 : c = 46 := Int32.toInt_inj.mp (q1.trans (by decide))
      refine J.tsIn (k := 46) 175 dX12_both_1 q1 (by decide) (by decide) rfl (by decide) ?_
      refine J.iload_n 176 dX12_both_175 rfl rfl ?_
      refine J.if_ne 183 179 dX12_both_176 (by decide) rfl (fun c14 => ?_) (fun c14 => ?_)
      · skip
        refine J.iconst 1 184 dX12_both_183 rfl (by decide) ?_
        refine J.goto 188 dX12_both_184 (by decide) ?_
        exact J.iret dX12_both_188 rfl (fin _ (by simp (decide := true) [m_both, ib, z1, c14]))
      · skip
        refine J.iload_n 180 dX12_both_179 rfl rfl ?_
        refine J.if_eq 187 183 dX12_both_180 (by decide) rfl (fun c15 => ?_) (fun c15 => ?_)
        · skip
          refine J.iconst 0 188 dX12_both_187 rfl (by decide) ?_
          exact J.iret dX12_both_188 rfl (fin _ (by simp (decide := true) [m_both, ib, z1, c14, c15]))
        · skip
          refine J.iconst 1 184 dX12_both_183 rfl (by decide) ?_
          refine J.goto 188 dX12_both_184 (by decide) ?_
          exact J.iret dX12_both_188 rfl (fin _ (by simp (decide := true) [m_both, ib, z1, c14, c15]))
    · have z1 : c = 47 := Int32.toInt_inj.mp (q1.trans (by decide))
      refine J.tsIn (k := 47) 175 dX12_both_1 q1 (by decide) (by decide) rfl (by decide) ?_
      refine J.iload_n 176 dX12_both_175 rfl rfl ?_
      refine J.if_ne 183 179 dX12_both_176 (by decide) rfl (fun c16 => ?_) (fun c16 => ?_)
      · skip
        refine J.iconst 1 184 dX12_both_183 rfl (by decide) ?_
        refine J.goto 188 dX12_both_184 (by decide) ?_
        exact J.iret dX12_both_188 rfl (fin _ (by simp (decide := true) [m_both, ib, z1, c16]))
      · skip
        refine J.iload_n 180 dX12_both_179 rfl rfl ?_
        refine J.if_eq 187 183 dX12_both_180 (by decide) rfl (fun c17 => ?_) (fun c17 => ?_)
        · skip
          refine J.iconst 0 188 dX12_both_187 rfl (by decide) ?_
          exact J.iret dX12_both_188 rfl (fin _ (by simp (decide := true) [m_both, ib, z1, c16, c17]))
        · skip
          refine J.iconst 1 184 dX12_both_183 rfl (by decide) ?_
          refine J.goto 188 dX12_both_184 (by decide) ?_
          exact J.iret dX12_both_188 rfl (fin _ (by simp (decide := true) [m_both, ib, z1, c16, c17]))
    · have z1 : c = 48 := Int32.toInt_inj.mp (q1.trans (by decide))
      refine J.tsIn (k := 48) 175 dX12_both_1 q1 (by decide) (by decide) rfl (by decide) ?_
      refine J.iload_n 176 dX12_both_175 rfl rfl ?_
      refine J.if_ne 183 179 dX12_both_176 (by decide) rfl (fun c18 => ?_) (fun c18 => ?_)
      · skip
        refine J.iconst 1 184 dX12_both_183 rfl (by decide) ?_
        refine J.goto 188 dX12_both_184 (by decide) ?_
        exact J.iret dX12_both_188 rfl (fin _ (by simp (decide := true) [m_both, ib, z1, c18]))
      · skip
        refine J.iload_n 180 dX12_both_179 rfl rfl ?_
        refine J.if_eq 187 183 dX12_both_180 (by decide) rfl (fun c19 => ?_) (fun c19 => ?_)
        · skip
          refine J.iconst 0 188 dX12_both_187 rfl (by decide) ?_
          exact J.iret dX12_both_188 rfl (fin _ (by simp (decide := true) [m_both, ib, z1, c18, c19]))
        · skip
          refine J.iconst 1 184 dX12_both_183 rfl (by decide) ?_
          refine J.goto 188 dX12_both_184 (by decide) ?_
          exact J.iret dX12_both_188 rfl (fin _ (by simp (decide := true) [m_both, ib, z1, c18, c19]))
    · have z1 : c = 49 := Int32.toInt_inj.mp (q1.trans (by decide))
      refine J.tsIn (k := 49) 175 dX12_both_1 q1 (by decide) (by decide) rfl (by decide) ?_
      refine J.iload_n 176 dX12_both_175 rfl rfl ?_
      refine J.if_ne 183 179 dX12_both_176 (by decide) rfl (fun c20 => ?_) (fun c20 => ?_)
      · skip
        refine J.iconst 1 184 dX12_both_183 rfl (by decide) ?_
        refine J.goto 188 dX12_both_184 (by decide) ?_
        exact J.iret dX12_both_188 rfl (fin _ (by simp (decide := true) [m_both, ib, z1, c20]))
      · skip
        refine J.iload_n 180 dX12_both_179 rfl rfl ?_
        refine J.if_eq 187 183 dX12_both_180 (by decide) rfl (fun c21 => ?_) (fun c21 => ?_)
        · skip
          refine J.iconst 0 188 dX12_both_187 rfl (by decide) ?_
          exact J.iret dX12_both_188 rfl (fin _ (by simp (decide := true) [m_both, ib, z1, c20, c21]))
        · skip
          refine J.iconst 1 184 dX12_both_183 rfl (by decide) ?_
          refine J.goto 188 dX12_both_184 (by decide) ?_
          exact J.iret dX12_both_188 rfl (fin _ (by simp (decide := true) [m_both, ib, z1, c20, c21]))
    · have z1 : c = 50 := Int32.toInt_inj.mp (q1.trans (by decide))
      refine J.tsIn (k := 50) 175 dX12_both_1 q1 (by decide) (by decide) rfl (by decide) ?_
      refine J.iload_n 176 dX12_both_175 rfl rfl ?_
      refine J.if_ne 183 179 dX12_both_176 (by decide) rfl (fun c22 => ?_) (fun c22 => ?_)
      · skip
        refine J.iconst 1 184 dX12_both_183 rfl (by decide) ?_
        refine J.goto 188 dX12_both_184 (by decide) ?_
        exact J.iret dX12_both_188 rfl (fin _ (by simp (decide := true) [m_both, ib, z1, c22]))
      · skip
        refine J.iload_n 180 dX12_both_179 rfl rfl ?_
        refine J.if_eq 187 183 dX12_both_180 (by decide) rfl (fun c23 => ?_) (fun c23 => ?_)
        · skip
          refine J.iconst 0 188 dX12_both_187 rfl (by decide) ?_
          exact J.iret dX12_both_188 rfl (fin _ (by simp (decide := true) [m_both, ib, z1, c22, c23]))
        · skip
          refine J.iconst 1 184 dX12_both_183 rfl (by decide) ?_
          refine J.goto 188 dX12_both_184 (by decide) ?_
          exact J.iret dX12_both_188 rfl (fin _ (by simp (decide := true) [m_both, ib, z1, c22, c23]))
    · have z1 : c = 51 := Int32.toInt_inj.mp (q1.trans (by decide))
      refine J.tsIn (k := 51) 175 dX12_both_1 q1 (by decide) (by decide) rfl (by decide) ?_
      refine J.iload_n 176 dX12_both_175 rfl rfl ?_
      refine J.if_ne 183 179 dX12_both_176 (by decide) rfl (fun c24 => ?_) (fun c24 => ?_)
      · skip
        refine J.iconst 1 184 dX12_both_183 rfl (by decide) ?_
        refine J.goto 188 dX12_both_184 (by decide) ?_
        exact J.iret dX12_both_188 rfl (fin _ (by simp (decide := true) [m_both, ib, z1, c24]))
      · skip
        refine J.iload_n 180 dX12_both_179 rfl rfl ?_
        refine J.if_eq 187 183 dX12_both_180 (by decide) rfl (fun c25 => ?_) (fun c25 => ?_)
        · skip
          refine J.iconst 0 188 dX12_both_187 rfl (by decide) ?_
          exact J.iret dX12_both_188 rfl (fin _ (by simp (decide := true) [m_both, ib, z1, c24, c25]))
        · skip
          refine J.iconst 1 184 dX12_both_183 rfl (by decide) ?_
          refine J.goto 188 dX12_both_184 (by decide) ?_
          exact J.iret dX12_both_188 rfl (fin _ (by simp (decide := true) [m_both, ib, z1, c24, c25]))
    · have z1 : c = 52 := Int32.toInt_inj.mp (q1.trans (by decide))
      refine J.tsIn (k := 52) 175 dX12_both_1 q1 (by decide) (by decide) rfl (by decide) ?_
      refine J.iload_n 176 dX12_both_175 rfl rfl ?_
      refine J.if_ne 183 179 dX12_both_176 (by decide) rfl (fun c26 => ?_) (fun c26 => ?_)
      · skip
        refine J.iconst 1 184 dX12_both_183 rfl (by decide) ?_
        refine J.goto 188 dX12_both_184 (by decide) ?_
        exact J.iret dX12_both_188 rfl (fin _ (by simp (decide := true) [m_both, ib, z1, c26]))
      · skip
        refine J.iload_n 180 dX12_both_179 rfl rfl ?_
        refine J.if_eq 187 183 dX12_both_180 (by decide) rfl (fun c27 => ?_) (fun c27 => ?_)
        · skip
          refine J.iconst 0 188 dX12_both_187 rfl (by decide) ?_
          exact J.iret dX12_both_188 rfl (fin _ (by simp (decide := true) [m_both, ib, z1, c26, c27]))
        · skip
          refine J.iconst 1 184 dX12_both_183 rfl (by decide) ?_
          refine J.goto 188 dX12_both_184 (by decide) ?_
          exact J.iret dX12_both_188 rfl (fin _ (by simp (decide := true) [m_both, ib, z1, c26, c27]))
    · have z1 : c = 53 := Int32.toInt_inj.mp (q1.trans (by decide))
      refine J.tsIn (k := 53) 175 dX12_both_1 q1 (by decide) (by decide) rfl (by decide) ?_
      refine J.iload_n 176 dX12_both_175 rfl rfl ?_
      refine J.if_ne 183 179 dX12_both_176 (by decide) rfl (fun c28 => ?_) (fun c28 => ?_)
      · skip
        refine J.iconst 1 184 dX12_both_183 rfl (by decide) ?_
        refine J.goto 188 dX12_both_184 (by decide) ?_
        exact J.iret dX12_both_188 rfl (fin _ (by simp (decide := true) [m_both, ib, z1, c28]))
      · skip
        refine J.iload_n 180 dX12_both_179 rfl rfl ?_
        refine J.if_eq 187 183 dX12_both_180 (by decide) rfl (fun c29 => ?_) (fun c29 => ?_)
        · skip
          refine J.iconst 0 188 dX12_both_187 rfl (by decide) ?_
          exact J.iret dX12_both_188 rfl (fin _ (by simp (decide := true) [m_both, ib, z1, c28, c29]))
        · skip
          refine J.iconst 1 184 dX12_both_183 rfl (by decide) ?_
          refine J.goto 188 dX12_both_184 (by decide) ?_
          exact J.iret dX12_both_188 rfl (fin _ (by simp (decide := true) [m_both, ib, z1, c28, c29]))
    · have z1 : c = 54 := Int32.toInt_inj.mp (q1.trans (by decide))
      refine J.tsIn (k := 54) 175 dX12_both_1 q1 (by decide) (by decide) rfl (by decide) ?_
      refine J.iload_n 176 dX12_both_175 rfl rfl ?_
      refine J.if_ne 183 179 dX12_both_176 (by decide) rfl (fun c30 => ?_) (fun c30 => ?_)
      · skip
        refine J.iconst 1 184 dX12_both_183 rfl (by decide) ?_
        refine J.goto 188 dX12_both_184 (by decide) ?_
        exact J.iret dX12_both_188 rfl (fin _ (by simp (decide := true) [m_both, ib, z1, c30]))
      · skip
        refine J.iload_n 180 dX12_both_179 rfl rfl ?_
        refine J.if_eq 187 183 dX12_both_180 (by decide) rfl (fun c31 => ?_) (fun c31 => ?_)
        · skip
          refine J.iconst 0 188 dX12_both_187 rfl (by decide) ?_
          exact J.iret dX12_both_188 rfl (fin _ (by simp (decide := true) [m_both, ib, z1, c30, c31]))
        · skip
          refine J.iconst 1 184 dX12_both_183 rfl (by decide) ?_
          refine J.goto 188 dX12_both_184 (by decide) ?_
          exact J.iret dX12_both_188 rfl (fin _ (by simp (decide := true) [m_both, ib, z1, c30, c31]))
    · have z1 : c = 55 := Int32.toInt_inj.mp (q1.trans (by decide))
      refine J.tsIn (k := 55) 175 dX12_both_1 q1 (by decide) (by decide) rfl (by decide) ?_
      refine J.iload_n 176 dX12_both_175 rfl rfl ?_
      refine J.if_ne 183 179 dX12_both_176 (by decide) rfl (fun c32 => ?_) (fun c32 => ?_)
      · skip
        refine J.iconst 1 184 dX12_both_183 rfl (by decide) ?_
        refine J.goto 188 dX12_both_184 (by decide) ?_
        exact J.iret dX12_both_188 rfl (fin _ (by simp (decide := true) [m_both, ib, z1, c32]))
      · skip
        refine J.iload_n 180 dX12_both_179 rfl rfl ?_
        refine J.if_eq 187 183 dX12_both_180 (by decide) rfl (fun c33 => ?_) (fun c33 => ?_)
        · skip
          refine J.iconst 0 188 dX12_both_187 rfl (by decide) ?_
          exact J.iret dX12_both_188 rfl (fin _ (by simp (decide := true) [m_both, ib, z1, c32, c33]))
        · skip
          refine J.iconst 1 184 dX12_both_183 rfl (by decide) ?_
          refine J.goto 188 dX12_both_184 (by decide) ?_
          exact J.iret dX12_both_188 rfl (fin _ (by simp (decide := true) [m_both, ib, z1, c32, c33]))
    · have z1 : c = 56 := Int32.toInt_inj.mp (q1.trans (by decide))
      refine J.tsIn (k := 56) 175 dX12_both_1 q1 (by decide) (by decide) rfl (by decide) ?_
      refine J.iload_n 176 dX12_both_175 rfl rfl ?_
      refine J.if_ne 183 179 dX12_both_176 (by decide) rfl (fun c34 => ?_) (fun c34 => ?_)
      · skip
        refine J.iconst 1 184 dX12_both_183 rfl (by decide) ?_
        refine J.goto 188 dX12_both_184 (by decide) ?_
        exact J.iret dX12_both_188 rfl (fin _ (by simp (decide := true) [m_both, ib, z1, c34]))
      · skip
        refine J.iload_n 180 dX12_both_179 rfl rfl ?_
        refine J.if_eq 187 183 dX12_both_180 (by decide) rfl (fun c35 => ?_) (fun c35 => ?_)
        · skip
          refine J.iconst 0 188 dX12_both_187 rfl (by decide) ?_
          exact J.iret dX12_both_188 rfl (fin _ (by simp (decide := true) [m_both, ib, z1, c34, c35]))
        · skip
          refine J.iconst 1 184 dX12_both_183 rfl (by decide) ?_
          refine J.goto 188 dX12_both_184 (by decide) ?_
          exact J.iret dX12_both_188 rfl (fin _ (by simp (decide := true) [m_both, ib, z1, c34, c35]))
    · have z1 : c = 57 := Int32.toInt_inj.mp (q1.trans (by decide))
      refine J.tsIn (k := 57) 175 dX12_both_1 q1 (by decide) (by decide) rfl (by decide) ?_
      refine J.iload_n 176 dX12_both_175 rfl rfl ?_
      refine J.if_ne 183 179 dX12_both_176 (by decide) rfl (fun c36 => ?_) (fun c36 => ?_)
      · skip
        refine J.iconst 1 184 dX12_both_183 rfl (by decide) ?_
        refine J.goto 188 dX12_both_184 (by decide) ?_
        exact J.iret dX12_both_188 rfl (fin _ (by simp (decide := true) [m_both, ib, z1, c36]))
      · skip
        refine J.iload_n 180 dX12_both_179 rfl rfl ?_
        refine J.if_eq 187 183 dX12_both_180 (by decide) rfl (fun c37 => ?_) (fun c37 => ?_)
        · skip
          refine J.iconst 0 188 dX12_both_187 rfl (by decide) ?_
          exact J.iret dX12_both_188 rfl (fin _ (by simp (decide := true) [m_both, ib, z1, c36, c37]))
        · skip
          refine J.iconst 1 184 dX12_both_183 rfl (by decide) ?_
          refine J.goto 188 dX12_both_184 (by decide) ?_
          exact J.iret dX12_both_188 rfl (fin _ (by simp (decide := true) [m_both, ib, z1, c36, c37]))
    · have z1 : c = 58 := Int32.toInt_inj.mp (q1.trans (by decide))
      refine J.tsIn (k := 58) 175 dX12_both_1 q1 (by decide) (by decide) rfl (by decide) ?_
      refine J.iload_n 176 dX12_both_175 rfl rfl ?_
      refine J.if_ne 183 179 dX12_both_176 (by decide) rfl (fun c38 => ?_) (fun c38 => ?_)
      · skip
        refine J.iconst 1 184 dX12_both_183 rfl (by decide) ?_
        refine J.goto 188 dX12_both_184 (by decide) ?_
        exact J.iret dX12_both_188 rfl (fin _ (by simp (decide := true) [m_both, ib, z1, c38]))
      · skip
        refine J.iload_n 180 dX12_both_179 rfl rfl ?_
        refine J.if_eq 187 183 dX12_both_180 (by decide) rfl (fun c39 => ?_) (fun c39 => ?_)
        · skip
          refine J.iconst 0 188 dX12_both_187 rfl (by decide) ?_
          exact J.iret dX12_both_188 rfl (fin _ (by simp (decide := true) [m_both, ib, z1, c38, c39]))
        · skip
          refine J.iconst 1 184 dX12_both_183 rfl (by decide) ?_
          refine J.goto 188 dX12_both_184 (by decide) ?_
          exact J.iret dX12_both_188 rfl (fin _ (by simp (decide := true) [m_both, ib, z1, c38, c39]))
    · have z1 : c = 59 := Int32.toInt_inj.mp (q1.trans (by decide))
      refine J.tsIn (k := 59) 175 dX12_both_1 q1 (by decide) (by decide) rfl (by decide) ?_
      refine J.iload_n 176 dX12_both_175 rfl rfl ?_
      refine J.if_ne 183 179 dX12_both_176 (by decide) rfl (fun c40 => ?_) (fun c40 => ?_)
      · skip
        refine J.iconst 1 184 dX12_both_183 rfl (by decide) ?_
        refine J.goto 188 dX12_both_184 (by decide) ?_
        exact J.iret dX12_both_188 rfl (fin _ (by simp (decide := true) [m_both, ib, z1, c40]))
      · skip
        refine J.iload_n 180 dX12_both_179 rfl rfl ?_
        refine J.if_eq 187 183 dX12_both_180 (by decide) rfl (fun c41 => ?_) (fun c41 => ?_)
        · skip
          refine J.iconst 0 188 dX12_both_187 rfl (by decide) ?_
          exact J.iret dX12_both_188 rfl (fin _ (by simp (decide := true) [m_both, ib, z1, c40, c41]))
        · skip
          refine J.iconst 1 184 dX12_both_183 rfl (by decide) ?_
          refine J.goto 188 dX12_both_184 (by decide) ?_
          exact J.iret dX12_both_188 rfl (fin _ (by simp (decide := true) [m_both, ib, z1, c40, c41]))
    · have z1 : c = 60 := Int32.toInt_inj.mp (q1.trans (by decide))
      refine J.tsIn (k := 60) 128 dX12_both_1 q1 (by decide) (by decide) rfl (by decide) ?_
      refine J.iload_n 129 dX12_both_128 rfl rfl ?_
      refine J.iload_n 130 dX12_both_129 rfl rfl ?_
      refine J.icmp_ge 137 133 dX12_both_130 (by decide) rfl (fun c42 => ?_) (fun c42 => ?_)
      · skip
        refine J.iconst 0 138 dX12_both_137 rfl (by decide) ?_
        exact J.iret dX12_both_138 rfl (fin _ (by simp (decide := true) [m_both, ib, z1, c42, Int32.not_lt.mpr c42]))
      · skip
        refine J.iconst 1 134 dX12_both_133 rfl (by decide) ?_
        refine J.goto 138 dX12_both_134 (by decide) ?_
        exact J.iret dX12_both_138 rfl (fin _ (by simp (decide := true) [m_both, ib, z1, c42, Int32.not_le.mp c42]))
    · have z1 : c = 61 := Int32.toInt_inj.mp (q1.trans (by decide))
      refine J.tsIn (k := 61) 139 dX12_both_1 q1 (by decide) (by decide) rfl (by decide) ?_
      refine J.iload_n 140 dX12_both_139 rfl rfl ?_
      refine J.iload_n 141 dX12_both_140 rfl rfl ?_
      refine J.icmp_ne 148 144 dX12_both_141 (by decide) rfl (fun c43 => ?_) (fun c43 => ?_)
      · skip
        refine J.iconst 0 149 dX12_both_148 rfl (by decide) ?_
        exact J.iret dX12_both_149 rfl (fin _ (by simp (decide := true) [m_both, ib, z1, c43]))
      · skip
        refine J.iconst 1 145 dX12_both_144 rfl (by decide) ?_
        refine J.goto 149 dX12_both_145 (by decide) ?_
        exact J.iret dX12_both_149 rfl (fin _ (by simp (decide := true) [m_both, ib, z1, c43]))
    · have z1 : c = 62 := Int32.toInt_inj.mp (q1.trans (by decide))
      refine J.tsIn (k := 62) 150 dX12_both_1 q1 (by decide) (by decide) rfl (by decide) ?_
      refine J.iload_n 151 dX12_both_150 rfl rfl ?_
      refine J.iload_n 152 dX12_both_151 rfl rfl ?_
      refine J.icmp_le 159 155 dX12_both_152 (by decide) rfl (fun c44 => ?_) (fun c44 => ?_)
      · skip
        refine J.iconst 0 160 dX12_both_159 rfl (by decide) ?_
        exact J.iret dX12_both_160 rfl (fin _ (by simp (decide := true) [m_both, ib, z1, c44, Int32.not_lt.mpr c44]))
      · skip
        refine J.iconst 1 156 dX12_both_155 rfl (by decide) ?_
        refine J.goto 160 dX12_both_156 (by decide) ?_
        exact J.iret dX12_both_160 rfl (fin _ (by simp (decide := true) [m_both, ib, z1, c44, Int32.not_le.mp c44]))
