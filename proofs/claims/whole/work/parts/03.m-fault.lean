def fdig (S : MS) (k : Nat) (x2 : Int32) : Int32 := if (ib (48 ≤ (S.2 29 k) ∧ (S.2 29 k) ≤ 57)) = 0 then 0 else (x2 + 1)
def flay (S : MS) (k : Nat) (x2 : Int32) : Int32 := if (fdig S k x2) = 1 then 1 else (if (ib ((S.2 29 k) = 119 ∨ (S.2 29 k) = 116 ∨ (S.2 29 k) = 115 ∨ (S.2 29 k) = 104 ∨ (S.2 29 k) = 109 ∨ (S.2 29 k) = 112 ∨ (S.2 29 k) = 101 ∨ (S.2 29 k) = 107 ∨ (S.2 29 k) = 108 ∨ (S.2 29 k) = 110 ∨ (S.2 29 k) = 102)) = 0 then 0 else 1)
def fkn (S : MS) (k : Nat) : Int32 := if (ib (48 ≤ (S.2 29 k) ∧ (S.2 29 k) ≤ 57)) = 0 then (if (ib ((S.2 29 k) = 119 ∨ (S.2 29 k) = 116 ∨ (S.2 29 k) = 115 ∨ (S.2 29 k) = 104 ∨ (S.2 29 k) = 109 ∨ (S.2 29 k) = 112 ∨ (S.2 29 k) = 101 ∨ (S.2 29 k) = 107 ∨ (S.2 29 k) = 108 ∨ (S.2 29 k) = 110 ∨ (S.2 29 k) = 102)) = 0 then (if (ib ((S.2 29 k) = 43 ∨ (S.2 29 k) = 45 ∨ (S.2 29 k) = 42 ∨ (S.2 29 k) = 60 ∨ (S.2 29 k) = 61 ∨ (S.2 29 k) = 62 ∨ (S.2 29 k) = 38 ∨ (S.2 29 k) = 124)) = 0 then (if (S.2 29 k) = 33 then 1 else (if (S.2 29 k) = 32 then 1 else 0)) else 1) else 1) else 1
def flie (S : MS) (k : Nat) (x1 x2 : Int32) : Int32 := x1 + (if (flay S k x2) = 0 then (if (ib ((S.2 29 k) = 43 ∨ (S.2 29 k) = 45 ∨ (S.2 29 k) = 42 ∨ (S.2 29 k) = 60 ∨ (S.2 29 k) = 61 ∨ (S.2 29 k) = 62 ∨ (S.2 29 k) = 38 ∨ (S.2 29 k) = 124)) = 0 then 0 else (-1)) else 1)
def r_fltF (S : MS) : Nat → Nat → Int32 → Int32 → Int32
  | 0, k, x1, _ => if x1 = 1 then -1 else nI k
  | j + 1, k, x1, x2 => if fkn S k = 0 ∨ fdig S k x2 = 4 ∨ (¬ flay S k x2 = 0 ∧ x1 = 20) ∨ (¬ (ib ((S.2 29 k) = 43 ∨ (S.2 29 k) = 45 ∨ (S.2 29 k) = 42 ∨ (S.2 29 k) = 60 ∨ (S.2 29 k) = 61 ∨ (S.2 29 k) = 62 ∨ (S.2 29 k) = 38 ∨ (S.2 29 k) = 124)) = 0 ∧ x1 < 2) ∨ ((S.2 29 k) = 33 ∧ x1 < 1) then nI k else r_fltF S j (k + 1) (flie S k x1 x2) (fdig S k x2)
def r_fault (S : MS) (q : Nat) : Int32 := r_fltF S q 0 0 0
theorem k_fault {S : MS} {d : Nat} {q : Nat} (hN : S.1 30 = nI q) (hq : q ≤ 60) : CM Y_X12_fault (d + 1) [] S (fun r S2 => r = some (.int (r_fault S q)) ∧ S2 = S) := by
  refine CM.of 6 rfl (fun _ => Nat.le_of_ble_eq_true rfl) (by simp [Value.category]) ?_
  intro G m0 ad h0 h post hM hF fin
  show J Y_X12_fault (d + 1) G 0 0 0 [some (.ref m0), none, none, none, none, none, none] [] h post
  refine J.iconst 0 1 dX12_fault_0 rfl (by decide) ?_
  refine J.ist_1 2 dX12_fault_1 rfl (by decide) ?_
  refine J.iconst 0 3 dX12_fault_2 rfl (by decide) ?_
  refine J.ist_2 4 dX12_fault_3 rfl (by decide) ?_
  refine J.iconst 0 5 dX12_fault_4 rfl (by decide) ?_
  refine J.ist_3 6 dX12_fault_5 rfl (by decide) ?_
  have loop6 : ∀ (j k : Nat) (x1 x2 x3 : Int32), k ≤ q → q + 1 ≤ k + j → x3 = nI k → r_fltF S (q - k) k x1 x2 = r_fault S q → ∀ h, MR m0 ad S h → MF m0 ad h0 h → J Y_X12_fault (d + 1) G 0 0 6 [some (.ref m0), some (.int x1), some (.int x2), some (.int x3), none, none, none] [] h post := by
    intro j
    induction j with
    | zero => intro k _ _ _ g1 g2; exact absurd g2 (by omega)
    | succ j ih =>
      intro k x1 x2 x3 g1 g2 e3 hI h hM hF
      have q3 : x3.toNatClampNeg = k := by rw [e3]; exact nI_clamp (by omega)
      refine J.iload_n 7 dX12_fault_6 rfl rfl ?_
      refine J.aload_n 8 dX12_fault_7 rfl rfl ?_
      refine mg_170 hM (x := S.1 30) rfl rfl 11 dX12_fault_8 rfl ?_
      refine J.icmp_ge 182 14 dX12_fault_11 (by decide) rfl (fun c1 => ?_) (fun c1 => ?_)
      · skip
        have hk : k = q := Nat.le_antisymm g1 ((nI_leI (by omega) (by omega)).mp (by rw [← hN, ← e3]; exact c1))
        refine J.iload_n 183 dX12_fault_182 rfl rfl ?_
        refine J.iconst 1 184 dX12_fault_183 rfl (by decide) ?_
        refine J.icmp_ne 191 187 dX12_fault_184 (by decide) rfl (fun c2 => ?_) (fun c2 => ?_)
        · skip
          refine J.aload_n 192 dX12_fault_191 rfl rfl ?_
          refine mg_170 hM (x := S.1 30) rfl rfl 195 dX12_fault_192 rfl ?_
          exact J.iret dX12_fault_195 rfl (fin _ _ _ ⟨by rw [← hI, hk, Nat.sub_self, r_fltF]; simp [hN, ib, c1, Int32.not_lt.mpr c1, c2], rfl⟩ hM hF)
        · skip
          refine J.iconst (-1) 188 dX12_fault_187 rfl (by decide) ?_
          refine J.goto 195 dX12_fault_188 (by decide) ?_
          exact J.iret dX12_fault_195 rfl (fin _ _ _ ⟨by rw [← hI, hk, Nat.sub_self, r_fltF]; simp [hN, ib, c1, Int32.not_lt.mpr c1, c2], rfl⟩ hM hF)
      · skip
        have hk : k < q := Nat.lt_of_not_le (fun z => c1 (by rw [hN, e3]; exact nI_le z (by omega)))
        have hin : vp_in x3 60 := by rw [e3]; exact vp_in_nI (by omega) (by decide)
        refine J.aload_n 15 dX12_fault_14 rfl rfl ?_
        refine mg_86 hM rfl 18 dX12_fault_15 rfl ?_
        refine J.iload_n 19 dX12_fault_18 rfl rfl ?_
        refine ml_ia hM k q3 (x := S.2 29 k) rfl rfl rfl (by assumption) 20 dX12_fault_19 rfl ?_
        refine J.ist_4 22 dX12_fault_20 rfl (by decide) ?_
        refine J.iload 24 dX12_fault_22 rfl rfl ?_
        refine mc_173 (k_isDigit (c := S.2 29 k)) rfl 27 dX12_fault_24 rfl rfl rfl (Nat.le_of_ble_eq_true rfl) ?_
        have K1 : ∀ (v1_0 : Int32), v1_0 = (if (ib (48 ≤ (S.2 29 k) ∧ (S.2 29 k) ≤ 57)) = 0 then 0 else (x2 + 1)) → ∀ h, MR m0 ad S h → MF m0 ad h0 h → J Y_X12_fault (d + 1) G 0 0 37 [some (.ref m0), some (.int x1), some (.int x2), some (.int x3), some (.int (S.2 29 k)), none, none] [.int v1_0] h post := by
          intro v1_0 ev1_0 h hM hF
          refine J.ist_2 38 dX12_fault_37 rfl (by decide) ?_
          refine J.iload_n 39 dX12_fault_38 rfl rfl ?_
          refine J.iconst 1 40 dX12_fault_39 rfl (by decide) ?_
          have K2 : ∀ (v2_0 : Int32), v2_0 = (if v1_0 = 1 then 1 else (if (ib ((S.2 29 k) = 119 ∨ (S.2 29 k) = 116 ∨ (S.2 29 k) = 115 ∨ (S.2 29 k) = 104 ∨ (S.2 29 k) = 109 ∨ (S.2 29 k) = 112 ∨ (S.2 29 k) = 101 ∨ (S.2 29 k) = 107 ∨ (S.2 29 k) = 108 ∨ (S.2 29 k) = 110 ∨ (S.2 29 k) = 102)) = 0 then 0 else 1)) → ∀ h, MR m0 ad S h → MF m0 ad h0 h → J Y_X12_fault (d + 1) G 0 0 56 [some (.ref m0), some (.int x1), some (.int v1_0), some (.int x3), some (.int (S.2 29 k)), none, none] [.int v2_0] h post := by
            intro v2_0 ev2_0 h hM hF
            refine J.ist_5 58 dX12_fault_56 rfl (by decide) ?_
            refine J.iload 60 dX12_fault_58 rfl rfl ?_
            refine mc_173 (k_isDigit (c := S.2 29 k)) rfl 63 dX12_fault_60 rfl rfl rfl (Nat.le_of_ble_eq_true rfl) ?_
            have K3 : ∀ (v3_0 : Int32), v3_0 = (if (ib (48 ≤ (S.2 29 k) ∧ (S.2 29 k) ≤ 57)) = 0 then (if (ib ((S.2 29 k) = 119 ∨ (S.2 29 k) = 116 ∨ (S.2 29 k) = 115 ∨ (S.2 29 k) = 104 ∨ (S.2 29 k) = 109 ∨ (S.2 29 k) = 112 ∨ (S.2 29 k) = 101 ∨ (S.2 29 k) = 107 ∨ (S.2 29 k) = 108 ∨ (S.2 29 k) = 110 ∨ (S.2 29 k) = 102)) = 0 then (if (ib ((S.2 29 k) = 43 ∨ (S.2 29 k) = 45 ∨ (S.2 29 k) = 42 ∨ (S.2 29 k) = 60 ∨ (S.2 29 k) = 61 ∨ (S.2 29 k) = 62 ∨ (S.2 29 k) = 38 ∨ (S.2 29 k) = 124)) = 0 then (if (S.2 29 k) = 33 then 1 else (if (S.2 29 k) = 32 then 1 else 0)) else 1) else 1) else 1) → ∀ h, MR m0 ad S h → MF m0 ad h0 h → J Y_X12_fault (d + 1) G 0 0 101 [some (.ref m0), some (.int x1), some (.int v1_0), some (.int x3), some (.int (S.2 29 k)), some (.int v2_0), none] [.int v3_0] h post := by
              intro v3_0 ev3_0 h hM hF
              refine J.ist_6 103 dX12_fault_101 rfl (by decide) ?_
              refine J.iload 105 dX12_fault_103 rfl rfl ?_
              refine J.if_eq 149 108 dX12_fault_105 (by decide) rfl (fun c3 => ?_) (fun c3 => ?_)
              · skip
                refine J.iload_n 150 dX12_fault_149 rfl rfl ?_
                have d1 : v1_0 = fdig S k x2 := ev1_0
                have d2 : v2_0 = flay S k x2 := by rw [ev2_0, ev1_0]; rfl
                have d3 : v3_0 = fkn S k := ev3_0
                exact J.iret dX12_fault_150 rfl (fin _ _ _ ⟨by rw [← hI, show q - k = (q - (k + 1)) + 1 from by omega, r_fltF, ← d1, ← d2, ← d3, if_pos (by simp [ib, c1, Int32.not_le.mp c1, c3]), e3], rfl⟩ hM hF)
              · skip
                refine J.iload_n 109 dX12_fault_108 rfl rfl ?_
                refine J.iconst 4 110 dX12_fault_109 rfl (by decide) ?_
                refine J.icmp_eq 149 113 dX12_fault_110 (by decide) rfl (fun c4 => ?_) (fun c4 => ?_)
                · skip
                  refine J.iload_n 150 dX12_fault_149 rfl rfl ?_
                  have d1 : v1_0 = fdig S k x2 := ev1_0
                  have d2 : v2_0 = flay S k x2 := by rw [ev2_0, ev1_0]; rfl
                  have d3 : v3_0 = fkn S k := ev3_0
                  exact J.iret dX12_fault_150 rfl (fin _ _ _ ⟨by rw [← hI, show q - k = (q - (k + 1)) + 1 from by omega, r_fltF, ← d1, ← d2, ← d3, if_pos (by simp [ib, c1, Int32.not_le.mp c1, c3, c4]), e3], rfl⟩ hM hF)
                · skip
                  refine J.iload 115 dX12_fault_113 rfl rfl ?_
                  refine J.if_eq 124 118 dX12_fault_115 (by decide) rfl (fun c5 => ?_) (fun c5 => ?_)
                  · skip
                    refine J.iload 126 dX12_fault_124 rfl rfl ?_
                    refine mc_179 (k_isTwo (c := S.2 29 k)) rfl 129 dX12_fault_126 rfl rfl rfl (Nat.le_of_ble_eq_true rfl) ?_
                    refine J.if_eq 137 132 dX12_fault_129 (by decide) rfl (fun c6 => ?_) (fun c6 => ?_)
                    · skip
                      refine J.iload 139 dX12_fault_137 rfl rfl ?_
                      refine J.bipush 33 141 dX12_fault_139 rfl (by decide) ?_
                      refine J.icmp_ne 151 144 dX12_fault_141 (by decide) rfl (fun c7 => ?_) (fun c7 => ?_)
                      · skip
                        refine J.iload_n 152 dX12_fault_151 rfl rfl ?_
                        refine J.iload 154 dX12_fault_152 rfl rfl ?_
                        have K4 : ∀ (v4_0 : Int32), v4_0 = (if v2_0 = 0 then (if (ib ((S.2 29 k) = 43 ∨ (S.2 29 k) = 45 ∨ (S.2 29 k) = 42 ∨ (S.2 29 k) = 60 ∨ (S.2 29 k) = 61 ∨ (S.2 29 k) = 62 ∨ (S.2 29 k) = 38 ∨ (S.2 29 k) = 124)) = 0 then 0 else (-1)) else 1) → ∀ h, MR m0 ad S h → MF m0 ad h0 h → J Y_X12_fault (d + 1) G 0 0 174 [some (.ref m0), some (.int x1), some (.int v1_0), some (.int x3), some (.int (S.2 29 k)), some (.int v2_0), some (.int v3_0)] [.int v4_0, .int x1] h post := by
                          intro v4_0 ev4_0 h hM hF
                          refine J.iadd 175 dX12_fault_174 rfl ?_
                          refine J.ist_1 176 dX12_fault_175 rfl (by decide) ?_
                          refine J.iinc_3 1 179 dX12_fault_176 rfl (by decide) (by decide) ?_
                          refine J.goto 6 dX12_fault_179 (by decide) ?_
                          refine J.fg_4 ?_
                          refine J.fg_5 ?_
                          refine J.fg_6 ?_
                          exact ih (k + 1) _ _ _ (by omega) (by omega) (by rw [e3]; exact nI_1 k) (by
        have d1 : v1_0 = fdig S k x2 := ev1_0
        have d2 : v2_0 = flay S k x2 := by rw [ev2_0, ev1_0]; rfl
        have d3 : v3_0 = fkn S k := ev3_0
        have d4 : x1 + v4_0 = flie S k x1 x2 := by rw [ev4_0, ev2_0, ev1_0]; rfl
        rw [← hI, show q - k = (q - (k + 1)) + 1 from by omega, r_fltF, ← d1, ← d2, ← d3, ← d4, if_neg (by simp [ib, c1, Int32.not_le.mp c1, c3, c4, c5, ib_0.mp c6, c7])]) _ hM hF
                        refine J.if_eq 161 157 dX12_fault_154 (by decide) rfl (fun c8 => ?_) (fun c8 => ?_)
                        · skip
                          refine J.iload 163 dX12_fault_161 rfl rfl ?_
                          refine mc_179 (k_isTwo (c := S.2 29 k)) rfl 166 dX12_fault_163 rfl rfl rfl (Nat.le_of_ble_eq_true rfl) ?_
                          refine J.if_eq 173 169 dX12_fault_166 (by decide) rfl (fun c9 => ?_) (fun c9 => ?_)
                          · skip
                            refine J.iconst 0 174 dX12_fault_173 rfl (by decide) ?_
                            exact K4 _ (by first | (simp only [if_neg c1, if_neg c3, if_neg c4, if_pos c5, if_pos c6, if_neg c7, if_pos c8, if_pos c9]; done) | (simp only [if_neg c1, if_neg c3, if_neg c4, if_pos c5, if_pos c6, if_neg c7, if_pos c8, if_pos c9]; rfl) | (simp [c1, Int32.not_le.mp c1, c3, c4, c5, c6, ib_0.mp c6, c7, c8, c9, ib_0.mp c9]; done) | contradiction) _ hM hF
                          · skip
                            refine J.iconst (-1) 170 dX12_fault_169 rfl (by decide) ?_
                            refine J.goto 174 dX12_fault_170 (by decide) ?_
                            exact K4 _ (by first | (simp only [if_neg c1, if_neg c3, if_neg c4, if_pos c5, if_pos c6, if_neg c7, if_pos c8, if_neg c9]; done) | (simp only [if_neg c1, if_neg c3, if_neg c4, if_pos c5, if_pos c6, if_neg c7, if_pos c8, if_neg c9]; rfl) | (simp [c1, Int32.not_le.mp c1, c3, c4, c5, c6, ib_0.mp c6, c7, c8, c9, ib_n.mp c9]; done) | contradiction) _ hM hF
                        · skip
                          refine J.iconst 1 158 dX12_fault_157 rfl (by decide) ?_
                          refine J.goto 174 dX12_fault_158 (by decide) ?_
                          exact K4 _ (by first | (simp only [if_neg c1, if_neg c3, if_neg c4, if_pos c5, if_pos c6, if_neg c7, if_neg c8]; done) | (simp only [if_neg c1, if_neg c3, if_neg c4, if_pos c5, if_pos c6, if_neg c7, if_neg c8]; rfl) | (simp [c1, Int32.not_le.mp c1, c3, c4, c5, c6, ib_0.mp c6, c7, c8]; done) | contradiction) _ hM hF
                      · skip
                        refine J.iload_n 145 dX12_fault_144 rfl rfl ?_
                        refine J.iconst 1 146 dX12_fault_145 rfl (by decide) ?_
                        refine J.icmp_ge 151 149 dX12_fault_146 (by decide) rfl (fun c10 => ?_) (fun c10 => ?_)
                        · skip
                          refine J.iload_n 152 dX12_fault_151 rfl rfl ?_
                          refine J.iload 154 dX12_fault_152 rfl rfl ?_
                          have K5 : ∀ (v5_0 : Int32), v5_0 = (if v2_0 = 0 then (if (ib ((S.2 29 k) = 43 ∨ (S.2 29 k) = 45 ∨ (S.2 29 k) = 42 ∨ (S.2 29 k) = 60 ∨ (S.2 29 k) = 61 ∨ (S.2 29 k) = 62 ∨ (S.2 29 k) = 38 ∨ (S.2 29 k) = 124)) = 0 then 0 else (-1)) else 1) → ∀ h, MR m0 ad S h → MF m0 ad h0 h → J Y_X12_fault (d + 1) G 0 0 174 [some (.ref m0), some (.int x1), some (.int v1_0), some (.int x3), some (.int (S.2 29 k)), some (.int v2_0), some (.int v3_0)] [.int v5_0, .int x1] h post := by
                            intro v5_0 ev5_0 h hM hF
                            refine J.iadd 175 dX12_fault_174 rfl ?_
                            refine J.ist_1 176 dX12_fault_175 rfl (by decide) ?_
                            refine J.iinc_3 1 179 dX12_fault_176 rfl (by decide) (by decide) ?_
                            refine J.goto 6 dX12_fault_179 (by decide) ?_
                            refine J.fg_4 ?_
                            refine J.fg_5 ?_
                            refine J.fg_6 ?_
                            exact ih (k + 1) _ _ _ (by omega) (by omega) (by rw [e3]; exact nI_1 k) (by
        have d1 : v1_0 = fdig S k x2 := ev1_0
        have d2 : v2_0 = flay S k x2 := by rw [ev2_0, ev1_0]; rfl
        have d3 : v3_0 = fkn S k := ev3_0
        have d4 : x1 + v5_0 = flie S k x1 x2 := by rw [ev5_0, ev2_0, ev1_0]; rfl
        rw [← hI, show q - k = (q - (k + 1)) + 1 from by omega, r_fltF, ← d1, ← d2, ← d3, ← d4, if_neg (by simp [ib, c1, Int32.not_le.mp c1, c3, c4, c5, ib_0.mp c6, c7, c10, Int32.not_lt.mpr c10])]) _ hM hF
                          refine J.if_eq 161 157 dX12_fault_154 (by decide) rfl (fun c11 => ?_) (fun c11 => ?_)
                          · skip
                            refine J.iload 163 dX12_fault_161 rfl rfl ?_
                            refine mc_179 (k_isTwo (c := S.2 29 k)) rfl 166 dX12_fault_163 rfl rfl rfl (Nat.le_of_ble_eq_true rfl) ?_
                            refine J.if_eq 173 169 dX12_fault_166 (by decide) rfl (fun c12 => ?_) (fun c12 => ?_)
                            · skip
                              refine J.iconst 0 174 dX12_fault_173 rfl (by decide) ?_
                              exact K5 _ (by first | (simp only [if_neg c1, if_neg c3, if_neg c4, if_pos c5, if_pos c6, if_pos c7, if_pos c10, if_pos c11, if_pos c12]; done) | (simp only [if_neg c1, if_neg c3, if_neg c4, if_pos c5, if_pos c6, if_pos c7, if_pos c10, if_pos c11, if_pos c12]; rfl) | (simp [c1, Int32.not_le.mp c1, c3, c4, c5, c6, ib_0.mp c6, c7, c10, Int32.not_lt.mpr c10, c11, c12, ib_0.mp c12]; done) | contradiction) _ hM hF
                            · skip
                              refine J.iconst (-1) 170 dX12_fault_169 rfl (by decide) ?_
                              refine J.goto 174 dX12_fault_170 (by decide) ?_
                              exact K5 _ (by first | (simp only [if_neg c1, if_neg c3, if_neg c4, if_pos c5, if_pos c6, if_pos c7, if_pos c10, if_pos c11, if_neg c12]; done) | (simp only [if_neg c1, if_neg c3, if_neg c4, if_pos c5, if_pos c6, if_pos c7, if_pos c10, if_pos c11, if_neg c12]; rfl) | (simp [c1, Int32.not_le.mp c1, c3, c4, c5, c6, ib_0.mp c6, c7, c10, Int32.not_lt.mpr c10, c11, c12, ib_n.mp c12]; done) | contradiction) _ hM hF
                          · skip
                            refine J.iconst 1 158 dX12_fault_157 rfl (by decide) ?_
                            refine J.goto 174 dX12_fault_158 (by decide) ?_
                            exact K5 _ (by first | (simp only [if_neg c1, if_neg c3, if_neg c4, if_pos c5, if_pos c6, if_pos c7, if_pos c10, if_neg c11]; done) | (simp only [if_neg c1, if_neg c3, if_neg c4, if_pos c5, if_pos c6, if_pos c7, if_pos c10, if_neg c11]; rfl) | (simp [c1, Int32.not_le.mp c1, c3, c4, c5, c6, ib_0.mp c6, c7, c10, Int32.not_lt.mpr c10, c11]; done) | contradiction) _ hM hF
                        · skip
                          refine J.iload_n 150 dX12_fault_149 rfl rfl ?_
                          have d1 : v1_0 = fdig S k x2 := ev1_0
                          have d2 : v2_0 = flay S k x2 := by rw [ev2_0, ev1_0]; rfl
                          have d3 : v3_0 = fkn S k := ev3_0
                          exact J.iret dX12_fault_150 rfl (fin _ _ _ ⟨by rw [← hI, show q - k = (q - (k + 1)) + 1 from by omega, r_fltF, ← d1, ← d2, ← d3, if_pos (by simp [ib, c1, Int32.not_le.mp c1, c3, c4, c5, ib_0.mp c6, c7, c10, Int32.not_le.mp c10]), e3], rfl⟩ hM hF)
                    · skip
                      refine J.iload_n 133 dX12_fault_132 rfl rfl ?_
                      refine J.iconst 2 134 dX12_fault_133 rfl (by decide) ?_
                      refine J.icmp_lt 149 137 dX12_fault_134 (by decide) rfl (fun c13 => ?_) (fun c13 => ?_)
                      · skip
                        refine J.iload_n 150 dX12_fault_149 rfl rfl ?_
                        have d1 : v1_0 = fdig S k x2 := ev1_0
                        have d2 : v2_0 = flay S k x2 := by rw [ev2_0, ev1_0]; rfl
                        have d3 : v3_0 = fkn S k := ev3_0
                        exact J.iret dX12_fault_150 rfl (fin _ _ _ ⟨by rw [← hI, show q - k = (q - (k + 1)) + 1 from by omega, r_fltF, ← d1, ← d2, ← d3, if_pos (by simp [ib, c1, Int32.not_le.mp c1, c3, c4, c5, ib_n.mp c6, c13, Int32.not_le.mpr c13]), e3], rfl⟩ hM hF)
                      · skip
                        refine J.iload 139 dX12_fault_137 rfl rfl ?_
                        refine J.bipush 33 141 dX12_fault_139 rfl (by decide) ?_
                        refine J.icmp_ne 151 144 dX12_fault_141 (by decide) rfl (fun c14 => ?_) (fun c14 => ?_)
                        · skip
                          refine J.iload_n 152 dX12_fault_151 rfl rfl ?_
                          refine J.iload 154 dX12_fault_152 rfl rfl ?_
                          have K6 : ∀ (v6_0 : Int32), v6_0 = (if v2_0 = 0 then (if (ib ((S.2 29 k) = 43 ∨ (S.2 29 k) = 45 ∨ (S.2 29 k) = 42 ∨ (S.2 29 k) = 60 ∨ (S.2 29 k) = 61 ∨ (S.2 29 k) = 62 ∨ (S.2 29 k) = 38 ∨ (S.2 29 k) = 124)) = 0 then 0 else (-1)) else 1) → ∀ h, MR m0 ad S h → MF m0 ad h0 h → J Y_X12_fault (d + 1) G 0 0 174 [some (.ref m0), some (.int x1), some (.int v1_0), some (.int x3), some (.int (S.2 29 k)), some (.int v2_0), some (.int v3_0)] [.int v6_0, .int x1] h post := by
                            intro v6_0 ev6_0 h hM hF
                            refine J.iadd 175 dX12_fault_174 rfl ?_
                            refine J.ist_1 176 dX12_fault_175 rfl (by decide) ?_
                            refine J.iinc_3 1 179 dX12_fault_176 rfl (by decide) (by decide) ?_
                            refine J.goto 6 dX12_fault_179 (by decide) ?_
                            refine J.fg_4 ?_
                            refine J.fg_5 ?_
                            refine J.fg_6 ?_
                            exact ih (k + 1) _ _ _ (by omega) (by omega) (by rw [e3]; exact nI_1 k) (by
        have d1 : v1_0 = fdig S k x2 := ev1_0
        have d2 : v2_0 = flay S k x2 := by rw [ev2_0, ev1_0]; rfl
        have d3 : v3_0 = fkn S k := ev3_0
        have d4 : x1 + v6_0 = flie S k x1 x2 := by rw [ev6_0, ev2_0, ev1_0]; rfl
        rw [← hI, show q - k = (q - (k + 1)) + 1 from by omega, r_fltF, ← d1, ← d2, ← d3, ← d4, if_neg (by simp [ib, c1, Int32.not_le.mp c1, c3, c4, c5, ib_n.mp c6, c13, Int32.not_lt.mp c13, c14])]) _ hM hF
                          refine J.if_eq 161 157 dX12_fault_154 (by decide) rfl (fun c15 => ?_) (fun c15 => ?_)
                          · skip
                            refine J.iload 163 dX12_fault_161 rfl rfl ?_
                            refine mc_179 (k_isTwo (c := S.2 29 k)) rfl 166 dX12_fault_163 rfl rfl rfl (Nat.le_of_ble_eq_true rfl) ?_
                            refine J.if_eq 173 169 dX12_fault_166 (by decide) rfl (fun c16 => ?_) (fun c16 => ?_)
                            · skip
                              refine J.iconst 0 174 dX12_fault_173 rfl (by decide) ?_
                              exact K6 _ (by first | (simp only [if_neg c1, if_neg c3, if_neg c4, if_pos c5, if_neg c6, if_neg c13, if_neg c14, if_pos c15, if_pos c16]; done) | (simp only [if_neg c1, if_neg c3, if_neg c4, if_pos c5, if_neg c6, if_neg c13, if_neg c14, if_pos c15, if_pos c16]; rfl) | (simp [c1, Int32.not_le.mp c1, c3, c4, c5, c6, ib_n.mp c6, c13, Int32.not_lt.mp c13, c14, c15, c16, ib_0.mp c16]; done) | contradiction) _ hM hF
                            · skip
                              refine J.iconst (-1) 170 dX12_fault_169 rfl (by decide) ?_
                              refine J.goto 174 dX12_fault_170 (by decide) ?_
                              exact K6 _ (by first | (simp only [if_neg c1, if_neg c3, if_neg c4, if_pos c5, if_neg c6, if_neg c13, if_neg c14, if_pos c15, if_neg c16]; done) | (simp only [if_neg c1, if_neg c3, if_neg c4, if_pos c5, if_neg c6, if_neg c13, if_neg c14, if_pos c15, if_neg c16]; rfl) | (simp [c1, Int32.not_le.mp c1, c3, c4, c5, c6, ib_n.mp c6, c13, Int32.not_lt.mp c13, c14, c15, c16, ib_n.mp c16]; done) | contradiction) _ hM hF
                          · skip
                            refine J.iconst 1 158 dX12_fault_157 rfl (by decide) ?_
                            refine J.goto 174 dX12_fault_158 (by decide) ?_
                            exact K6 _ (by first | (simp only [if_neg c1, if_neg c3, if_neg c4, if_pos c5, if_neg c6, if_neg c13, if_neg c14, if_neg c15]; done) | (simp only [if_neg c1, if_neg c3, if_neg c4, if_pos c5, if_neg c6, if_neg c13, if_neg c14, if_neg c15]; rfl) | (simp [c1, Int32.not_le.mp c1, c3, c4, c5, c6, ib_n.mp c6, c13, Int32.not_lt.mp c13, c14, c15]; done) | contradiction) _ hM hF
                        · skip
                          refine J.iload_n 145 dX12_fault_144 rfl rfl ?_
                          refine J.iconst 1 146 dX12_fault_145 rfl (by decide) ?_
                          refine J.icmp_ge 151 149 dX12_fault_146 (by decide) rfl (fun c17 => ?_) (fun c17 => ?_)
                          · skip
                            refine J.iload_n 152 dX12_fault_151 rfl rfl ?_
                            refine J.iload 154 dX12_fault_152 rfl rfl ?_
                            have K7 : ∀ (v7_0 : Int32), v7_0 = (if v2_0 = 0 then (if (ib ((S.2 29 k) = 43 ∨ (S.2 29 k) = 45 ∨ (S.2 29 k) = 42 ∨ (S.2 29 k) = 60 ∨ (S.2 29 k) = 61 ∨ (S.2 29 k) = 62 ∨ (S.2 29 k) = 38 ∨ (S.2 29 k) = 124)) = 0 then 0 else (-1)) else 1) → ∀ h, MR m0 ad S h → MF m0 ad h0 h → J Y_X12_fault (d + 1) G 0 0 174 [some (.ref m0), some (.int x1), some (.int v1_0), some (.int x3), some (.int (S.2 29 k)), some (.int v2_0), some (.int v3_0)] [.int v7_0, .int x1] h post := by
                              intro v7_0 ev7_0 h hM hF
                              refine J.iadd 175 dX12_fault_174 rfl ?_
                              refine J.ist_1 176 dX12_fault_175 rfl (by decide) ?_
                              refine J.iinc_3 1 179 dX12_fault_176 rfl (by decide) (by decide) ?_
                              refine J.goto 6 dX12_fault_179 (by decide) ?_
                              refine J.fg_4 ?_
                              refine J.fg_5 ?_
                              refine J.fg_6 ?_
                              exact ih (k + 1) _ _ _ (by omega) (by omega) (by rw [e3]; exact nI_1 k) (by
        have d1 : v1_0 = fdig S k x2 := ev1_0
        have d2 : v2_0 = flay S k x2 := by rw [ev2_0, ev1_0]; rfl
        have d3 : v3_0 = fkn S k := ev3_0
        have d4 : x1 + v7_0 = flie S k x1 x2 := by rw [ev7_0, ev2_0, ev1_0]; rfl
        rw [← hI, show q - k = (q - (k + 1)) + 1 from by omega, r_fltF, ← d1, ← d2, ← d3, ← d4, if_neg (by simp [ib, c1, Int32.not_le.mp c1, c3, c4, c5, ib_n.mp c6, c13, Int32.not_lt.mp c13, c14, c17, Int32.not_lt.mpr c17])]) _ hM hF
                            refine J.if_eq 161 157 dX12_fault_154 (by decide) rfl (fun c18 => ?_) (fun c18 => ?_)
                            · skip
                              refine J.iload 163 dX12_fault_161 rfl rfl ?_
                              refine mc_179 (k_isTwo (c := S.2 29 k)) rfl 166 dX12_fault_163 rfl rfl rfl (Nat.le_of_ble_eq_true rfl) ?_
                              refine J.if_eq 173 169 dX12_fault_166 (by decide) rfl (fun c19 => ?_) (fun c19 => ?_)
                              · skip
                                refine J.iconst 0 174 dX12_fault_173 rfl (by decide) ?_
                                exact K7 _ (by first | (simp only [if_neg c1, if_neg c3, if_neg c4, if_pos c5, if_neg c6, if_neg c13, if_pos c14, if_pos c17, if_pos c18, if_pos c19]; done) | (simp only [if_neg c1, if_neg c3, if_neg c4, if_pos c5, if_neg c6, if_neg c13, if_pos c14, if_pos c17, if_pos c18, if_pos c19]; rfl) | (simp [c1, Int32.not_le.mp c1, c3, c4, c5, c6, ib_n.mp c6, c13, Int32.not_lt.mp c13, c14, c17, Int32.not_lt.mpr c17, c18, c19, ib_0.mp c19]; done) | contradiction) _ hM hF
                              · skip
                                refine J.iconst (-1) 170 dX12_fault_169 rfl (by decide) ?_
                                refine J.goto 174 dX12_fault_170 (by decide) ?_
                                exact K7 _ (by first | (simp only [if_neg c1, if_neg c3, if_neg c4, if_pos c5, if_neg c6, if_neg c13, if_pos c14, if_pos c17, if_pos c18, if_neg c19]; done) | (simp only [if_neg c1, if_neg c3, if_neg c4, if_pos c5, if_neg c6, if_neg c13, if_pos c14, if_pos c17, if_pos c18, if_neg c19]; rfl) | (simp [c1, Int32.not_le.mp c1, c3, c4, c5, c6, ib_n.mp c6, c13, Int32.not_lt.mp c13, c14, c17, Int32.not_lt.mpr c17, c18, c19, ib_n.mp c19]; done) | contradiction) _ hM hF
                            · skip
                              refine J.iconst 1 158 dX12_fault_157 rfl (by decide) ?_
                              refine J.goto 174 dX12_fault_158 (by decide) ?_
                              exact K7 _ (by first | (simp only [if_neg c1, if_neg c3, if_neg c4, if_pos c5, if_neg c6, if_neg c13, if_pos c14, if_pos c17, if_neg c18]; done) | (simp only [if_neg c1, if_neg c3, if_neg c4, if_pos c5, if_neg c6, if_neg c13, if_pos c14, if_pos c17, if_neg c18]; rfl) | (simp [c1, Int32.not_le.mp c1, c3, c4, c5, c6, ib_n.mp c6, c13, Int32.not_lt.mp c13, c14, c17, Int32.not_lt.mpr c17, c18]; done) | contradiction) _ hM hF
                          · skip
                            refine J.iload_n 150 dX12_fault_149 rfl rfl ?_
                            have d1 : v1_0 = fdig S k x2 := ev1_0
                            have d2 : v2_0 = flay S k x2 := by rw [ev2_0, ev1_0]; rfl
                            have d3 : v3_0 = fkn S k := ev3_0
                            exact J.iret dX12_fault_150 rfl (fin _ _ _ ⟨by rw [← hI, show q - k = (q - (k + 1)) + 1 from by omega, r_fltF, ← d1, ← d2, ← d3, if_pos (by simp [ib, c1, Int32.not_le.mp c1, c3, c4, c5, ib_n.mp c6, c13, Int32.not_lt.mp c13, c14, c17, Int32.not_le.mp c17]), e3], rfl⟩ hM hF)
                  · skip
                    refine J.iload_n 119 dX12_fault_118 rfl rfl ?_
                    refine J.bipush 20 121 dX12_fault_119 rfl (by decide) ?_
                    refine J.icmp_eq 149 124 dX12_fault_121 (by decide) rfl (fun c20 => ?_) (fun c20 => ?_)
                    · skip
                      refine J.iload_n 150 dX12_fault_149 rfl rfl ?_
                      have d1 : v1_0 = fdig S k x2 := ev1_0
                      have d2 : v2_0 = flay S k x2 := by rw [ev2_0, ev1_0]; rfl
                      have d3 : v3_0 = fkn S k := ev3_0
                      exact J.iret dX12_fault_150 rfl (fin _ _ _ ⟨by rw [← hI, show q - k = (q - (k + 1)) + 1 from by omega, r_fltF, ← d1, ← d2, ← d3, if_pos (by simp [ib, c1, Int32.not_le.mp c1, c3, c4, c5, c20]), e3], rfl⟩ hM hF)
                    · skip
                      refine J.iload 126 dX12_fault_124 rfl rfl ?_
                      refine mc_179 (k_isTwo (c := S.2 29 k)) rfl 129 dX12_fault_126 rfl rfl rfl (Nat.le_of_ble_eq_true rfl) ?_
                      refine J.if_eq 137 132 dX12_fault_129 (by decide) rfl (fun c21 => ?_) (fun c21 => ?_)
                      · skip
                        refine J.iload 139 dX12_fault_137 rfl rfl ?_
                        refine J.bipush 33 141 dX12_fault_139 rfl (by decide) ?_
                        refine J.icmp_ne 151 144 dX12_fault_141 (by decide) rfl (fun c22 => ?_) (fun c22 => ?_)
                        · skip
                          refine J.iload_n 152 dX12_fault_151 rfl rfl ?_
                          refine J.iload 154 dX12_fault_152 rfl rfl ?_
                          have K8 : ∀ (v8_0 : Int32), v8_0 = (if v2_0 = 0 then (if (ib ((S.2 29 k) = 43 ∨ (S.2 29 k) = 45 ∨ (S.2 29 k) = 42 ∨ (S.2 29 k) = 60 ∨ (S.2 29 k) = 61 ∨ (S.2 29 k) = 62 ∨ (S.2 29 k) = 38 ∨ (S.2 29 k) = 124)) = 0 then 0 else (-1)) else 1) → ∀ h, MR m0 ad S h → MF m0 ad h0 h → J Y_X12_fault (d + 1) G 0 0 174 [some (.ref m0), some (.int x1), some (.int v1_0), some (.int x3), some (.int (S.2 29 k)), some (.int v2_0), some (.int v3_0)] [.int v8_0, .int x1] h post := by
                            intro v8_0 ev8_0 h hM hF
                            refine J.iadd 175 dX12_fault_174 rfl ?_
                            refine J.ist_1 176 dX12_fault_175 rfl (by decide) ?_
                            refine J.iinc_3 1 179 dX12_fault_176 rfl (by decide) (by decide) ?_
                            refine J.goto 6 dX12_fault_179 (by decide) ?_
                            refine J.fg_4 ?_
                            refine J.fg_5 ?_
                            refine J.fg_6 ?_
                            exact ih (k + 1) _ _ _ (by omega) (by omega) (by rw [e3]; exact nI_1 k) (by
        have d1 : v1_0 = fdig S k x2 := ev1_0
        have d2 : v2_0 = flay S k x2 := by rw [ev2_0, ev1_0]; rfl
        have d3 : v3_0 = fkn S k := ev3_0
        have d4 : x1 + v8_0 = flie S k x1 x2 := by rw [ev8_0, ev2_0, ev1_0]; rfl
        rw [← hI, show q - k = (q - (k + 1)) + 1 from by omega, r_fltF, ← d1, ← d2, ← d3, ← d4, if_neg (by simp [ib, c1, Int32.not_le.mp c1, c3, c4, c5, c20, ib_0.mp c21, c22])]) _ hM hF
                          refine J.if_eq 161 157 dX12_fault_154 (by decide) rfl (fun c23 => ?_) (fun c23 => ?_)
                          · skip
                            refine J.iload 163 dX12_fault_161 rfl rfl ?_
                            refine mc_179 (k_isTwo (c := S.2 29 k)) rfl 166 dX12_fault_163 rfl rfl rfl (Nat.le_of_ble_eq_true rfl) ?_
                            refine J.if_eq 173 169 dX12_fault_166 (by decide) rfl (fun c24 => ?_) (fun c24 => ?_)
                            · skip
                              refine J.iconst 0 174 dX12_fault_173 rfl (by decide) ?_
                              exact K8 _ (by first | (simp only [if_neg c1, if_neg c3, if_neg c4, if_neg c5, if_neg c20, if_pos c21, if_neg c22, if_pos c23, if_pos c24]; done) | (simp only [if_neg c1, if_neg c3, if_neg c4, if_neg c5, if_neg c20, if_pos c21, if_neg c22, if_pos c23, if_pos c24]; rfl) | (simp [c1, Int32.not_le.mp c1, c3, c4, c5, c20, c21, ib_0.mp c21, c22, c23, c24, ib_0.mp c24]; done) | contradiction) _ hM hF
                            · skip
                              refine J.iconst (-1) 170 dX12_fault_169 rfl (by decide) ?_
                              refine J.goto 174 dX12_fault_170 (by decide) ?_
                              exact K8 _ (by first | (simp only [if_neg c1, if_neg c3, if_neg c4, if_neg c5, if_neg c20, if_pos c21, if_neg c22, if_pos c23, if_neg c24]; done) | (simp only [if_neg c1, if_neg c3, if_neg c4, if_neg c5, if_neg c20, if_pos c21, if_neg c22, if_pos c23, if_neg c24]; rfl) | (simp [c1, Int32.not_le.mp c1, c3, c4, c5, c20, c21, ib_0.mp c21, c22, c23, c24, ib_n.mp c24]; done) | contradiction) _ hM hF
                          · skip
                            refine J.iconst 1 158 dX12_fault_157 rfl (by decide) ?_
                            refine J.goto 174 dX12_fault_158 (by decide) ?_
                            exact K8 _ (by first | (simp only [if_neg c1, if_neg c3, if_neg c4, if_neg c5, if_neg c20, if_pos c21, if_neg c22, if_neg c23]; done) | (simp only [if_neg c1, if_neg c3, if_neg c4, if_neg c5, if_neg c20, if_pos c21, if_neg c22, if_neg c23]; rfl) | (simp [c1, Int32.not_le.mp c1, c3, c4, c5, c20, c21, ib_0.mp c21, c22, c23]; done) | contradiction) _ hM hF
                        · skip
                          refine J.iload_n 145 dX12_fault_144 rfl rfl ?_
                          refine J.iconst 1 146 dX12_fault_145 rfl (by decide) ?_
                          refine J.icmp_ge 151 149 dX12_fault_146 (by decide) rfl (fun c25 => ?_) (fun c25 => ?_)
                          · skip
                            refine J.iload_n 152 dX12_fault_151 rfl rfl ?_
                            refine J.iload 154 dX12_fault_152 rfl rfl ?_
                            have K9 : ∀ (v9_0 : Int32), v9_0 = (if v2_0 = 0 then (if (ib ((S.2 29 k) = 43 ∨ (S.2 29 k) = 45 ∨ (S.2 29 k) = 42 ∨ (S.2 29 k) = 60 ∨ (S.2 29 k) = 61 ∨ (S.2 29 k) = 62 ∨ (S.2 29 k) = 38 ∨ (S.2 29 k) = 124)) = 0 then 0 else (-1)) else 1) → ∀ h, MR m0 ad S h → MF m0 ad h0 h → J Y_X12_fault (d + 1) G 0 0 174 [some (.ref m0), some (.int x1), some (.int v1_0), some (.int x3), some (.int (S.2 29 k)), some (.int v2_0), some (.int v3_0)] [.int v9_0, .int x1] h post := by
                              intro v9_0 ev9_0 h hM hF
                              refine J.iadd 175 dX12_fault_174 rfl ?_
                              refine J.ist_1 176 dX12_fault_175 rfl (by decide) ?_
                              refine J.iinc_3 1 179 dX12_fault_176 rfl (by decide) (by decide) ?_
                              refine J.goto 6 dX12_fault_179 (by decide) ?_
                              refine J.fg_4 ?_
                              refine J.fg_5 ?_
                              refine J.fg_6 ?_
                              exact ih (k + 1) _ _ _ (by omega) (by omega) (by rw [e3]; exact nI_1 k) (by
        have d1 : v1_0 = fdig S k x2 := ev1_0
        have d2 : v2_0 = flay S k x2 := by rw [ev2_0, ev1_0]; rfl
        have d3 : v3_0 = fkn S k := ev3_0
        have d4 : x1 + v9_0 = flie S k x1 x2 := by rw [ev9_0, ev2_0, ev1_0]; rfl
        rw [← hI, show q - k = (q - (k + 1)) + 1 from by omega, r_fltF, ← d1, ← d2, ← d3, ← d4, if_neg (by simp [ib, c1, Int32.not_le.mp c1, c3, c4, c5, c20, ib_0.mp c21, c22, c25, Int32.not_lt.mpr c25])]) _ hM hF
                            refine J.if_eq 161 157 dX12_fault_154 (by decide) rfl (fun c26 => ?_) (fun c26 => ?_)
                            · skip
                              refine J.iload 163 dX12_fault_161 rfl rfl ?_
                              refine mc_179 (k_isTwo (c := S.2 29 k)) rfl 166 dX12_fault_163 rfl rfl rfl (Nat.le_of_ble_eq_true rfl) ?_
                              refine J.if_eq 173 169 dX12_fault_166 (by decide) rfl (fun c27 => ?_) (fun c27 => ?_)
                              · skip
                                refine J.iconst 0 174 dX12_fault_173 rfl (by decide) ?_
                                exact K9 _ (by first | (simp only [if_neg c1, if_neg c3, if_neg c4, if_neg c5, if_neg c20, if_pos c21, if_pos c22, if_pos c25, if_pos c26, if_pos c27]; done) | (simp only [if_neg c1, if_neg c3, if_neg c4, if_neg c5, if_neg c20, if_pos c21, if_pos c22, if_pos c25, if_pos c26, if_pos c27]; rfl) | (simp [c1, Int32.not_le.mp c1, c3, c4, c5, c20, c21, ib_0.mp c21, c22, c25, Int32.not_lt.mpr c25, c26, c27, ib_0.mp c27]; done) | contradiction) _ hM hF
                              · skip
                                refine J.iconst (-1) 170 dX12_fault_169 rfl (by decide) ?_
                                refine J.goto 174 dX12_fault_170 (by decide) ?_
                                exact K9 _ (by first | (simp only [if_neg c1, if_neg c3, if_neg c4, if_neg c5, if_neg c20, if_pos c21, if_pos c22, if_pos c25, if_pos c26, if_neg c27]; done) | (simp only [if_neg c1, if_neg c3, if_neg c4, if_neg c5, if_neg c20, if_pos c21, if_pos c22, if_pos c25, if_pos c26, if_neg c27]; rfl) | (simp [c1, Int32.not_le.mp c1, c3, c4, c5, c20, c21, ib_0.mp c21, c22, c25, Int32.not_lt.mpr c25, c26, c27, ib_n.mp c27]; done) | contradiction) _ hM hF
                            · skip
                              refine J.iconst 1 158 dX12_fault_157 rfl (by decide) ?_
                              refine J.goto 174 dX12_fault_158 (by decide) ?_
                              exact K9 _ (by first | (simp only [if_neg c1, if_neg c3, if_neg c4, if_neg c5, if_neg c20, if_pos c21, if_pos c22, if_pos c25, if_neg c26]; done) | (simp only [if_neg c1, if_neg c3, if_neg c4, if_neg c5, if_neg c20, if_pos c21, if_pos c22, if_pos c25, if_neg c26]; rfl) | (simp [c1, Int32.not_le.mp c1, c3, c4, c5, c20, c21, ib_0.mp c21, c22, c25, Int32.not_lt.mpr c25, c26]; done) | contradiction) _ hM hF
                          · skip
                            refine J.iload_n 150 dX12_fault_149 rfl rfl ?_
                            have d1 : v1_0 = fdig S k x2 := ev1_0
                            have d2 : v2_0 = flay S k x2 := by rw [ev2_0, ev1_0]; rfl
                            have d3 : v3_0 = fkn S k := ev3_0
                            exact J.iret dX12_fault_150 rfl (fin _ _ _ ⟨by rw [← hI, show q - k = (q - (k + 1)) + 1 from by omega, r_fltF, ← d1, ← d2, ← d3, if_pos (by simp [ib, c1, Int32.not_le.mp c1, c3, c4, c5, c20, ib_0.mp c21, c22, c25, Int32.not_le.mp c25]), e3], rfl⟩ hM hF)
                      · skip
                        refine J.iload_n 133 dX12_fault_132 rfl rfl ?_
                        refine J.iconst 2 134 dX12_fault_133 rfl (by decide) ?_
                        refine J.icmp_lt 149 137 dX12_fault_134 (by decide) rfl (fun c28 => ?_) (fun c28 => ?_)
                        · skip
                          refine J.iload_n 150 dX12_fault_149 rfl rfl ?_
                          have d1 : v1_0 = fdig S k x2 := ev1_0
                          have d2 : v2_0 = flay S k x2 := by rw [ev2_0, ev1_0]; rfl
                          have d3 : v3_0 = fkn S k := ev3_0
                          exact J.iret dX12_fault_150 rfl (fin _ _ _ ⟨by rw [← hI, show q - k = (q - (k + 1)) + 1 from by omega, r_fltF, ← d1, ← d2, ← d3, if_pos (by simp [ib, c1, Int32.not_le.mp c1, c3, c4, c5, c20, ib_n.mp c21, c28, Int32.not_le.mpr c28]), e3], rfl⟩ hM hF)
                        · skip
                          refine J.iload 139 dX12_fault_137 rfl rfl ?_
                          refine J.bipush 33 141 dX12_fault_139 rfl (by decide) ?_
                          refine J.icmp_ne 151 144 dX12_fault_141 (by decide) rfl (fun c29 => ?_) (fun c29 => ?_)
                          · skip
                            refine J.iload_n 152 dX12_fault_151 rfl rfl ?_
                            refine J.iload 154 dX12_fault_152 rfl rfl ?_
                            have K10 : ∀ (v10_0 : Int32), v10_0 = (if v2_0 = 0 then (if (ib ((S.2 29 k) = 43 ∨ (S.2 29 k) = 45 ∨ (S.2 29 k) = 42 ∨ (S.2 29 k) = 60 ∨ (S.2 29 k) = 61 ∨ (S.2 29 k) = 62 ∨ (S.2 29 k) = 38 ∨ (S.2 29 k) = 124)) = 0 then 0 else (-1)) else 1) → ∀ h, MR m0 ad S h → MF m0 ad h0 h → J Y_X12_fault (d + 1) G 0 0 174 [some (.ref m0), some (.int x1), some (.int v1_0), some (.int x3), some (.int (S.2 29 k)), some (.int v2_0), some (.int v3_0)] [.int v10_0, .int x1] h post := by
                              intro v10_0 ev10_0 h hM hF
                              refine J.iadd 175 dX12_fault_174 rfl ?_
                              refine J.ist_1 176 dX12_fault_175 rfl (by decide) ?_
                              refine J.iinc_3 1 179 dX12_fault_176 rfl (by decide) (by decide) ?_
                              refine J.goto 6 dX12_fault_179 (by decide) ?_
                              refine J.fg_4 ?_
                              refine J.fg_5 ?_
                              refine J.fg_6 ?_
                              exact ih (k + 1) _ _ _ (by omega) (by omega) (by rw [e3]; exact nI_1 k) (by
        have d1 : v1_0 = fdig S k x2 := ev1_0
        have d2 : v2_0 = flay S k x2 := by rw [ev2_0, ev1_0]; rfl
        have d3 : v3_0 = fkn S k := ev3_0
        have d4 : x1 + v10_0 = flie S k x1 x2 := by rw [ev10_0, ev2_0, ev1_0]; rfl
        rw [← hI, show q - k = (q - (k + 1)) + 1 from by omega, r_fltF, ← d1, ← d2, ← d3, ← d4, if_neg (by simp [ib, c1, Int32.not_le.mp c1, c3, c4, c5, c20, ib_n.mp c21, c28, Int32.not_lt.mp c28, c29])]) _ hM hF
                            refine J.if_eq 161 157 dX12_fault_154 (by decide) rfl (fun c30 => ?_) (fun c30 => ?_)
                            · skip
                              refine J.iload 163 dX12_fault_161 rfl rfl ?_
                              refine mc_179 (k_isTwo (c := S.2 29 k)) rfl 166 dX12_fault_163 rfl rfl rfl (Nat.le_of_ble_eq_true rfl) ?_
                              refine J.if_eq 173 169 dX12_fault_166 (by decide) rfl (fun c31 => ?_) (fun c31 => ?_)
                              · skip
                                refine J.iconst 0 174 dX12_fault_173 rfl (by decide) ?_
                                exact K10 _ (by first | (simp only [if_neg c1, if_neg c3, if_neg c4, if_neg c5, if_neg c20, if_neg c21, if_neg c28, if_neg c29, if_pos c30, if_pos c31]; done) | (simp only [if_neg c1, if_neg c3, if_neg c4, if_neg c5, if_neg c20, if_neg c21, if_neg c28, if_neg c29, if_pos c30, if_pos c31]; rfl) | (simp [c1, Int32.not_le.mp c1, c3, c4, c5, c20, c21, ib_n.mp c21, c28, Int32.not_lt.mp c28, c29, c30, c31, ib_0.mp c31]; done) | contradiction) _ hM hF
                              · skip
                                refine J.iconst (-1) 170 dX12_fault_169 rfl (by decide) ?_
                                refine J.goto 174 dX12_fault_170 (by decide) ?_
                                exact K10 _ (by first | (simp only [if_neg c1, if_neg c3, if_neg c4, if_neg c5, if_neg c20, if_neg c21, if_neg c28, if_neg c29, if_pos c30, if_neg c31]; done) | (simp only [if_neg c1, if_neg c3, if_neg c4, if_neg c5, if_neg c20, if_neg c21, if_neg c28, if_neg c29, if_pos c30, if_neg c31]; rfl) | (simp [c1, Int32.not_le.mp c1, c3, c4, c5, c20, c21, ib_n.mp c21, c28, Int32.not_lt.mp c28, c29, c30, c31, ib_n.mp c31]; done) | contradiction) _ hM hF
                            · skip
                              refine J.iconst 1 158 dX12_fault_157 rfl (by decide) ?_
                              refine J.goto 174 dX12_fault_158 (by decide) ?_
                              exact K10 _ (by first | (simp only [if_neg c1, if_neg c3, if_neg c4, if_neg c5, if_neg c20, if_neg c21, if_neg c28, if_neg c29, if_neg c30]; done) | (simp only [if_neg c1, if_neg c3, if_neg c4, if_neg c5, if_neg c20, if_neg c21, if_neg c28, if_neg c29, if_neg c30]; rfl) | (simp [c1, Int32.not_le.mp c1, c3, c4, c5, c20, c21, ib_n.mp c21, c28, Int32.not_lt.mp c28, c29, c30]; done) | contradiction) _ hM hF
                          · skip
                            refine J.iload_n 145 dX12_fault_144 rfl rfl ?_
                            refine J.iconst 1 146 dX12_fault_145 rfl (by decide) ?_
                            refine J.icmp_ge 151 149 dX12_fault_146 (by decide) rfl (fun c32 => ?_) (fun c32 => ?_)
                            · skip
                              refine J.iload_n 152 dX12_fault_151 rfl rfl ?_
                              refine J.iload 154 dX12_fault_152 rfl rfl ?_
                              have K11 : ∀ (v11_0 : Int32), v11_0 = (if v2_0 = 0 then (if (ib ((S.2 29 k) = 43 ∨ (S.2 29 k) = 45 ∨ (S.2 29 k) = 42 ∨ (S.2 29 k) = 60 ∨ (S.2 29 k) = 61 ∨ (S.2 29 k) = 62 ∨ (S.2 29 k) = 38 ∨ (S.2 29 k) = 124)) = 0 then 0 else (-1)) else 1) → ∀ h, MR m0 ad S h → MF m0 ad h0 h → J Y_X12_fault (d + 1) G 0 0 174 [some (.ref m0), some (.int x1), some (.int v1_0), some (.int x3), some (.int (S.2 29 k)), some (.int v2_0), some (.int v3_0)] [.int v11_0, .int x1] h post := by
                                intro v11_0 ev11_0 h hM hF
                                refine J.iadd 175 dX12_fault_174 rfl ?_
                                refine J.ist_1 176 dX12_fault_175 rfl (by decide) ?_
                                refine J.iinc_3 1 179 dX12_fault_176 rfl (by decide) (by decide) ?_
                                refine J.goto 6 dX12_fault_179 (by decide) ?_
                                refine J.fg_4 ?_
                                refine J.fg_5 ?_
                                refine J.fg_6 ?_
                                exact ih (k + 1) _ _ _ (by omega) (by omega) (by rw [e3]; exact nI_1 k) (by
        have d1 : v1_0 = fdig S k x2 := ev1_0
        have d2 : v2_0 = flay S k x2 := by rw [ev2_0, ev1_0]; rfl
        have d3 : v3_0 = fkn S k := ev3_0
        have d4 : x1 + v11_0 = flie S k x1 x2 := by rw [ev11_0, ev2_0, ev1_0]; rfl
        rw [← hI, show q - k = (q - (k + 1)) + 1 from by omega, r_fltF, ← d1, ← d2, ← d3, ← d4, if_neg (by simp [ib, c1, Int32.not_le.mp c1, c3, c4, c5, c20, ib_n.mp c21, c28, Int32.not_lt.mp c28, c29, c32, Int32.not_lt.mpr c32])]) _ hM hF
                              refine J.if_eq 161 157 dX12_fault_154 (by decide) rfl (fun c33 => ?_) (fun c33 => ?_)
                              · skip
                                refine J.iload 163 dX12_fault_161 rfl rfl ?_
                                refine mc_179 (k_isTwo (c := S.2 29 k)) rfl 166 dX12_fault_163 rfl rfl rfl (Nat.le_of_ble_eq_true rfl) ?_
                                refine J.if_eq 173 169 dX12_fault_166 (by decide) rfl (fun c34 => ?_) (fun c34 => ?_)
                                · skip
                                  refine J.iconst 0 174 dX12_fault_173 rfl (by decide) ?_
                                  exact K11 _ (by first | (simp only [if_neg c1, if_neg c3, if_neg c4, if_neg c5, if_neg c20, if_neg c21, if_neg c28, if_pos c29, if_pos c32, if_pos c33, if_pos c34]; done) | (simp only [if_neg c1, if_neg c3, if_neg c4, if_neg c5, if_neg c20, if_neg c21, if_neg c28, if_pos c29, if_pos c32, if_pos c33, if_pos c34]; rfl) | (simp [c1, Int32.not_le.mp c1, c3, c4, c5, c20, c21, ib_n.mp c21, c28, Int32.not_lt.mp c28, c29, c32, Int32.not_lt.mpr c32, c33, c34, ib_0.mp c34]; done) | contradiction) _ hM hF
                                · skip
                                  refine J.iconst (-1) 170 dX12_fault_169 rfl (by decide) ?_
                                  refine J.goto 174 dX12_fault_170 (by decide) ?_
                                  exact K11 _ (by first | (simp only [if_neg c1, if_neg c3, if_neg c4, if_neg c5, if_neg c20, if_neg c21, if_neg c28, if_pos c29, if_pos c32, if_pos c33, if_neg c34]; done) | (simp only [if_neg c1, if_neg c3, if_neg c4, if_neg c5, if_neg c20, if_neg c21, if_neg c28, if_pos c29, if_pos c32, if_pos c33, if_neg c34]; rfl) | (simp [c1, Int32.not_le.mp c1, c3, c4, c5, c20, c21, ib_n.mp c21, c28, Int32.not_lt.mp c28, c29, c32, Int32.not_lt.mpr c32, c33, c34, ib_n.mp c34]; done) | contradiction) _ hM hF
                              · skip
                                refine J.iconst 1 158 dX12_fault_157 rfl (by decide) ?_
                                refine J.goto 174 dX12_fault_158 (by decide) ?_
                                exact K11 _ (by first | (simp only [if_neg c1, if_neg c3, if_neg c4, if_neg c5, if_neg c20, if_neg c21, if_neg c28, if_pos c29, if_pos c32, if_neg c33]; done) | (simp only [if_neg c1, if_neg c3, if_neg c4, if_neg c5, if_neg c20, if_neg c21, if_neg c28, if_pos c29, if_pos c32, if_neg c33]; rfl) | (simp [c1, Int32.not_le.mp c1, c3, c4, c5, c20, c21, ib_n.mp c21, c28, Int32.not_lt.mp c28, c29, c32, Int32.not_lt.mpr c32, c33]; done) | contradiction) _ hM hF
                            · skip
                              refine J.iload_n 150 dX12_fault_149 rfl rfl ?_
                              have d1 : v1_0 = fdig S k x2 := ev1_0
                              have d2 : v2_0 = flay S k x2 := by rw [ev2_0, ev1_0]; rfl
                              have d3 : v3_0 = fkn S k := ev3_0
                              exact J.iret dX12_fault_150 rfl (fin _ _ _ ⟨by rw [← hI, show q - k = (q - (k + 1)) + 1 from by omega, r_fltF, ← d1, ← d2, ← d3, if_pos (by simp [ib, c1, Int32.not_le.mp c1, c3, c4, c5, c20, ib_n.mp c21, c28, Int32.not_lt.mp c28, c29, c32, Int32.not_le.mp c32]), e3], rfl⟩ hM hF)
            refine J.if_ne 96 66 dX12_fault_63 (by decide) rfl (fun c35 => ?_) (fun c35 => ?_)
            · skip
              refine J.iconst 1 97 dX12_fault_96 rfl (by decide) ?_
              refine J.goto 101 dX12_fault_97 (by decide) ?_
              exact K3 _ (by first | (simp only [if_neg c1, if_neg c35]; done) | (simp only [if_neg c1, if_neg c35]; rfl) | (simp [c1, Int32.not_le.mp c1, c35, ib_n.mp c35]; done) | contradiction) _ hM hF
            · skip
              refine J.iload 68 dX12_fault_66 rfl rfl ?_
              refine mc_176 (k_isName (c := S.2 29 k)) rfl 71 dX12_fault_68 rfl rfl rfl (Nat.le_of_ble_eq_true rfl) ?_
              refine J.if_ne 96 74 dX12_fault_71 (by decide) rfl (fun c36 => ?_) (fun c36 => ?_)
              · skip
                refine J.iconst 1 97 dX12_fault_96 rfl (by decide) ?_
                refine J.goto 101 dX12_fault_97 (by decide) ?_
                exact K3 _ (by first | (simp only [if_neg c1, if_pos c35, if_neg c36]; done) | (simp only [if_neg c1, if_pos c35, if_neg c36]; rfl) | (simp [c1, Int32.not_le.mp c1, c35, ib_0.mp c35, c36, ib_n.mp c36]; done) | contradiction) _ hM hF
              · skip
                refine J.iload 76 dX12_fault_74 rfl rfl ?_
                refine mc_179 (k_isTwo (c := S.2 29 k)) rfl 79 dX12_fault_76 rfl rfl rfl (Nat.le_of_ble_eq_true rfl) ?_
                refine J.if_ne 96 82 dX12_fault_79 (by decide) rfl (fun c37 => ?_) (fun c37 => ?_)
                · skip
                  refine J.iconst 1 97 dX12_fault_96 rfl (by decide) ?_
                  refine J.goto 101 dX12_fault_97 (by decide) ?_
                  exact K3 _ (by first | (simp only [if_neg c1, if_pos c35, if_pos c36, if_neg c37]; done) | (simp only [if_neg c1, if_pos c35, if_pos c36, if_neg c37]; rfl) | (simp [c1, Int32.not_le.mp c1, c35, ib_0.mp c35, c36, ib_0.mp c36, c37, ib_n.mp c37]; done) | contradiction) _ hM hF
                · skip
                  refine J.iload 84 dX12_fault_82 rfl rfl ?_
                  refine J.bipush 33 86 dX12_fault_84 rfl (by decide) ?_
                  refine J.icmp_eq 96 89 dX12_fault_86 (by decide) rfl (fun c38 => ?_) (fun c38 => ?_)
                  · skip
                    refine J.iconst 1 97 dX12_fault_96 rfl (by decide) ?_
                    refine J.goto 101 dX12_fault_97 (by decide) ?_
                    exact K3 _ (by first | (simp only [if_neg c1, if_pos c35, if_pos c36, if_pos c37, if_pos c38]; done) | (simp only [if_neg c1, if_pos c35, if_pos c36, if_pos c37, if_pos c38]; rfl) | (simp [c1, Int32.not_le.mp c1, c35, ib_0.mp c35, c36, ib_0.mp c36, c37, ib_0.mp c37, c38]; done) | contradiction) _ hM hF
                  · skip
                    refine J.iload 91 dX12_fault_89 rfl rfl ?_
                    refine J.bipush 32 93 dX12_fault_91 rfl (by decide) ?_
                    refine J.icmp_ne 100 96 dX12_fault_93 (by decide) rfl (fun c39 => ?_) (fun c39 => ?_)
                    · skip
                      refine J.iconst 0 101 dX12_fault_100 rfl (by decide) ?_
                      exact K3 _ (by first | (simp only [if_neg c1, if_pos c35, if_pos c36, if_pos c37, if_neg c38, if_neg c39]; done) | (simp only [if_neg c1, if_pos c35, if_pos c36, if_pos c37, if_neg c38, if_neg c39]; rfl) | (simp [c1, Int32.not_le.mp c1, c35, ib_0.mp c35, c36, ib_0.mp c36, c37, ib_0.mp c37, c38, c39]; done) | contradiction) _ hM hF
                    · skip
                      refine J.iconst 1 97 dX12_fault_96 rfl (by decide) ?_
                      refine J.goto 101 dX12_fault_97 (by decide) ?_
                      exact K3 _ (by first | (simp only [if_neg c1, if_pos c35, if_pos c36, if_pos c37, if_neg c38, if_pos c39]; done) | (simp only [if_neg c1, if_pos c35, if_pos c36, if_pos c37, if_neg c38, if_pos c39]; rfl) | (simp [c1, Int32.not_le.mp c1, c35, ib_0.mp c35, c36, ib_0.mp c36, c37, ib_0.mp c37, c38, c39]; done) | contradiction) _ hM hF
          refine J.icmp_eq 51 43 dX12_fault_40 (by decide) rfl (fun c40 => ?_) (fun c40 => ?_)
          · skip
            refine J.iconst 1 52 dX12_fault_51 rfl (by decide) ?_
            refine J.goto 56 dX12_fault_52 (by decide) ?_
            exact K2 _ (by first | (simp only [if_neg c1, if_pos c40]; done) | (simp only [if_neg c1, if_pos c40]; rfl) | (simp [c1, Int32.not_le.mp c1, c40]; done) | contradiction) _ hM hF
          · skip
            refine J.iload 45 dX12_fault_43 rfl rfl ?_
            refine mc_176 (k_isName (c := S.2 29 k)) rfl 48 dX12_fault_45 rfl rfl rfl (Nat.le_of_ble_eq_true rfl) ?_
            refine J.if_eq 55 51 dX12_fault_48 (by decide) rfl (fun c41 => ?_) (fun c41 => ?_)
            · skip
              refine J.iconst 0 56 dX12_fault_55 rfl (by decide) ?_
              exact K2 _ (by first | (simp only [if_neg c1, if_neg c40, if_pos c41]; done) | (simp only [if_neg c1, if_neg c40, if_pos c41]; rfl) | (simp [c1, Int32.not_le.mp c1, c40, c41, ib_0.mp c41]; done) | contradiction) _ hM hF
            · skip
              refine J.iconst 1 52 dX12_fault_51 rfl (by decide) ?_
              refine J.goto 56 dX12_fault_52 (by decide) ?_
              exact K2 _ (by first | (simp only [if_neg c1, if_neg c40, if_neg c41]; done) | (simp only [if_neg c1, if_neg c40, if_neg c41]; rfl) | (simp [c1, Int32.not_le.mp c1, c40, c41, ib_n.mp c41]; done) | contradiction) _ hM hF
        refine J.if_eq 36 30 dX12_fault_27 (by decide) rfl (fun c42 => ?_) (fun c42 => ?_)
        · skip
          refine J.iconst 0 37 dX12_fault_36 rfl (by decide) ?_
          exact K1 _ (by first | (simp only [if_neg c1, if_pos c42]; done) | (simp only [if_neg c1, if_pos c42]; rfl) | (simp [c1, Int32.not_le.mp c1, c42, ib_0.mp c42]; done) | contradiction) _ hM hF
        · skip
          refine J.iload_n 31 dX12_fault_30 rfl rfl ?_
          refine J.iconst 1 32 dX12_fault_31 rfl (by decide) ?_
          refine J.iadd 33 dX12_fault_32 rfl ?_
          refine J.goto 37 dX12_fault_33 (by decide) ?_
          exact K1 _ (by first | (simp only [if_neg c1, if_neg c42]; done) | (simp only [if_neg c1, if_neg c42]; rfl) | (simp [c1, Int32.not_le.mp c1, c42, ib_n.mp c42]; done) | contradiction) _ hM hF
  exact loop6 (q + 1) 0 _ _ _ (Nat.zero_le _) (by omega) rfl rfl _ hM hF
