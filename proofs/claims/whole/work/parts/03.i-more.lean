def r_fit0 (S : MS) (n : Nat) (m l : Int32) : Int32 := if (S.1 0) < (S.2 10 m.toNatClampNeg) then 0 else (if (S.2 23 l.toNatClampNeg) = 0 then (if (S.1 0) < (S.2 21 l.toNatClampNeg) then 0 else (if (S.2 20 l.toNatClampNeg) = 4 then 0 else (if 9 < ((r_hangN S m 114 n) + (S.2 19 l.toNatClampNeg)) then 0 else 1))) else 0)
def r_fitN (S : MS) (m l i : Int32) : Nat → Int32
  | 0 => i
  | k + 1 => if (S.2 23 k) = 1 then (if (S.2 24 k) = m then (if (r_fitN S m l i k) = 0 then 0 else (if (S.2 17 k) = (S.2 17 l.toNatClampNeg) then (if (S.2 20 k) = 1 then 0 else (if (S.2 20 k) = 3 then 0 else (if (S.2 20 l.toNatClampNeg) = 1 then 0 else (if (S.2 20 l.toNatClampNeg) = 3 then 0 else 1)))) else 0)) else (r_fitN S m l i k)) else (r_fitN S m l i k)
def r_hang (S : MS) (n : Nat) (m l : Int32) : Int32 := if ¬ (0 ≤ m ∧ m < S.1 11) ∨ ¬ (0 ≤ l ∧ l < S.1 28) then -1 else if r_fitN S m l (r_fit0 S n m l) n = 0 then -3 else r_hangN S m 110 n + 1
def s_hang (S : MS) (n : Nat) (m l : Int32) : MS := if ¬ (0 ≤ m ∧ m < S.1 11) ∨ ¬ (0 ≤ l ∧ l < S.1 28) ∨ r_fitN S m l (r_fit0 S n m l) n = 0 then S else (S.1, u2 (u2 S.2 23 l.toNatClampNeg 1) 24 l.toNatClampNeg m)
theorem k_hang {S : MS} {m : Int32} {l : Int32} {d : Nat} {n : Nat} (hN : S.1 28 = nI n) (hn : n ≤ 80) (hm : (0 ≤ m ∧ m < S.1 11) → vp_in m 4) (hl : (0 ≤ l ∧ l < S.1 28) → vp_in l 80) : CM Y_X12_hang (d + 1) [.int m, .int l] S (fun r S2 => r = some (.int (r_hang S n m l)) ∧ S2 = s_hang S n m l) := by
  refine CM.of 3 rfl (fun _ => Nat.le_of_ble_eq_true rfl) (by simp [Value.category]) ?_
  intro G m0 ad h0 h post hM hF fin
  show J Y_X12_hang (d + 1) G 0 0 0 [some (.ref m0), some (.int m), some (.int l), none, none, none] [] h post
  refine J.aload_n 1 dX12_hang_0 rfl rfl ?_
  refine J.iload_n 2 dX12_hang_1 rfl rfl ?_
  refine mc_215 hM hF (k_isMachine (S := S) (m := m)) rfl 5 dX12_hang_2 rfl rfl rfl (Nat.le_of_ble_eq_true rfl) (fun r S2 hp h hM hF => ?_)
  obtain ⟨rfl, hp⟩ := hp
  replace hp := hp.symm
  subst hp
  refine J.if_eq 16 8 dX12_hang_5 (by decide) rfl (fun c1 => ?_) (fun c1 => ?_)
  · skip
    refine J.iconst (-1) 17 dX12_hang_16 rfl (by decide) ?_
    exact J.iret dX12_hang_17 rfl (fin _ _ _ ⟨by simp [r_hang, c1, ib_0.mp c1], by simp [s_hang, c1, ib_0.mp c1]⟩ hM hF)
  · skip
    refine J.aload_n 9 dX12_hang_8 rfl rfl ?_
    refine J.iload_n 10 dX12_hang_9 rfl rfl ?_
    refine mc_228 hM hF (k_isLoad (S := S) (l := l)) rfl 13 dX12_hang_10 rfl rfl rfl (Nat.le_of_ble_eq_true rfl) (fun r S2 hp h hM hF => ?_)
    obtain ⟨rfl, hp⟩ := hp
    replace hp := hp.symm
    subst hp
    refine J.if_ne 18 16 dX12_hang_13 (by decide) rfl (fun c2 => ?_) (fun c2 => ?_)
    · skip
      refine J.aload_n 19 dX12_hang_18 rfl rfl ?_
      refine J.iload_n 20 dX12_hang_19 rfl rfl ?_
      refine J.bipush 110 22 dX12_hang_20 rfl (by decide) ?_
      refine mc_211 hM hF (k_ofHanging (S := S) (m := m) (c := 110) hN hn) rfl 25 dX12_hang_22 rfl rfl rfl (Nat.le_of_ble_eq_true rfl) (fun r S2 hp h hM hF => ?_)
      obtain ⟨rfl, hp⟩ := hp
      replace hp := hp.symm
      subst hp
      refine J.ist_3 26 dX12_hang_25 rfl (by decide) ?_
      refine J.aload_n 27 dX12_hang_26 rfl rfl ?_
      refine mg_38 hM rfl 30 dX12_hang_27 rfl ?_
      refine J.iload_n 31 dX12_hang_30 rfl rfl ?_
      refine ml_ia hM m.toNatClampNeg rfl rfl rfl rfl (by first | assumption | exact hm (ib_n.mp (by assumption))) 32 dX12_hang_31 rfl ?_
      refine J.aload_n 33 dX12_hang_32 rfl rfl ?_
      refine mg_221 hM (x := S.1 0) rfl rfl 36 dX12_hang_33 rfl ?_
      have K1 : ∀ (v1_0 : Int32), v1_0 = (if (S.1 0) < (S.2 10 m.toNatClampNeg) then 0 else (if (S.2 23 l.toNatClampNeg) = 0 then (if (S.1 0) < (S.2 21 l.toNatClampNeg) then 0 else (if (S.2 20 l.toNatClampNeg) = 4 then 0 else (if 9 < ((r_hangN S m 114 n) + (S.2 19 l.toNatClampNeg)) then 0 else 1))) else 0)) → ∀ h, MR m0 ad S h → MF m0 ad h0 h → J Y_X12_hang (d + 1) G 0 0 95 [some (.ref m0), some (.int m), some (.int l), some (.int (r_hangN S m 110 n)), none, none] [.int v1_0] h post := by
        intro v1_0 ev1_0 h hM hF
        refine J.ist_4 97 dX12_hang_95 rfl (by decide) ?_
        refine J.iconst 0 98 dX12_hang_97 rfl (by decide) ?_
        refine J.ist_5 100 dX12_hang_98 rfl (by decide) ?_
        have loop100 : ∀ (j k : Nat) (x4 x5 : Int32), k ≤ n → n + 1 ≤ k + j → x4 = r_fitN S m l v1_0 k → x5 = nI k → ∀ h, MR m0 ad S h → MF m0 ad h0 h → J Y_X12_hang (d + 1) G 0 0 100 [some (.ref m0), some (.int m), some (.int l), some (.int (r_hangN S m 110 n)), some (.int x4), some (.int x5)] [] h post := by
          intro j
          induction j with
          | zero => intro k _ _ g1 g2; exact absurd g2 (by omega)
          | succ j ih =>
            intro k x4 x5 g1 g2 e4 e5 h hM hF
            have q5 : x5.toNatClampNeg = k := by rw [e5]; exact nI_clamp (by omega)
            refine J.iload 102 dX12_hang_100 rfl rfl ?_
            refine J.aload_n 103 dX12_hang_102 rfl rfl ?_
            refine mg_163 hM (x := S.1 28) rfl rfl 106 dX12_hang_103 rfl ?_
            refine J.icmp_ge 207 109 dX12_hang_106 (by decide) rfl (fun c3 => ?_) (fun c3 => ?_)
            · skip
              have hk : k = n := Nat.le_antisymm g1 ((nI_leI (by omega) (by omega)).mp (by rw [← hN, ← e5]; exact c3))
              have hfit : x4 = r_fitN S m l (r_fit0 S n m l) n := by rw [e4, hk, ev1_0]; rfl
              refine J.iload 209 dX12_hang_207 rfl rfl ?_
              refine J.if_ne 215 212 dX12_hang_209 (by decide) rfl (fun c4 => ?_) (fun c4 => ?_)
              · skip
                refine J.aload_n 216 dX12_hang_215 rfl rfl ?_
                refine mg_71 hM rfl 219 dX12_hang_216 rfl ?_
                refine J.iload_n 220 dX12_hang_219 rfl rfl ?_
                refine J.iconst 1 221 dX12_hang_220 rfl (by decide) ?_
                refine ml_is hM hF l.toNatClampNeg rfl rfl rfl (by first | assumption | exact hl (ib_n.mp (by assumption))) 222 dX12_hang_221 rfl (fun h hM hF => ?_)
                refine J.aload_n 223 dX12_hang_222 rfl rfl ?_
                refine mg_74 hM rfl 226 dX12_hang_223 rfl ?_
                refine J.iload_n 227 dX12_hang_226 rfl rfl ?_
                refine J.iload_n 228 dX12_hang_227 rfl rfl ?_
                refine ml_is hM hF l.toNatClampNeg rfl rfl rfl (by first | assumption | exact hl (ib_n.mp (by assumption))) 229 dX12_hang_228 rfl (fun h hM hF => ?_)
                refine J.iload_n 230 dX12_hang_229 rfl rfl ?_
                refine J.iconst 1 231 dX12_hang_230 rfl (by decide) ?_
                refine J.iadd 232 dX12_hang_231 rfl ?_
                exact J.iret dX12_hang_232 rfl (fin _ _ _ ⟨by simp [r_hang, ← hfit, c1, ib_n.mp c1, c2, ib_n.mp c2, c3, Int32.not_lt.mpr c3, c4], by simp [s_hang, ← hfit, c1, ib_n.mp c1, c2, ib_n.mp c2, c3, Int32.not_lt.mpr c3, c4]⟩ hM hF)
              · skip
                refine J.bipush (-3) 214 dX12_hang_212 rfl (by decide) ?_
                exact J.iret dX12_hang_214 rfl (fin _ _ _ ⟨by simp [r_hang, ← hfit, c1, ib_n.mp c1, c2, ib_n.mp c2, c3, Int32.not_lt.mpr c3, c4], by simp [s_hang, ← hfit, c1, ib_n.mp c1, c2, ib_n.mp c2, c3, Int32.not_lt.mpr c3, c4]⟩ hM hF)
            · skip
              have hk : k < n := Nat.lt_of_not_le (fun z => c3 (by rw [hN, e5]; exact nI_le z (by omega)))
              have hin : vp_in x5 80 := by rw [e5]; exact vp_in_nI (by omega) (by decide)
              refine J.aload_n 110 dX12_hang_109 rfl rfl ?_
              refine mg_71 hM rfl 113 dX12_hang_110 rfl ?_
              refine J.iload 115 dX12_hang_113 rfl rfl ?_
              refine ml_ia hM k q5 rfl rfl rfl (by assumption) 116 dX12_hang_115 rfl ?_
              refine J.iconst 1 117 dX12_hang_116 rfl (by decide) ?_
              have K2 : ∀ (w2_4 : Int32), w2_4 = (if (S.2 23 k) = 1 then (if (S.2 24 k) = m then (if x4 = 0 then 0 else (if (S.2 17 k) = (S.2 17 l.toNatClampNeg) then (if (S.2 20 k) = 1 then 0 else (if (S.2 20 k) = 3 then 0 else (if (S.2 20 l.toNatClampNeg) = 1 then 0 else (if (S.2 20 l.toNatClampNeg) = 3 then 0 else 1)))) else 0)) else x4) else x4) → ∀ h, MR m0 ad S h → MF m0 ad h0 h → J Y_X12_hang (d + 1) G 0 0 201 [some (.ref m0), some (.int m), some (.int l), some (.int (r_hangN S m 110 n)), some (.int w2_4), some (.int x5)] [] h post := by
                intro w2_4 ew2_4 h hM hF
                refine J.iinc_5 1 204 dX12_hang_201 rfl (by decide) (by decide) ?_
                refine J.goto 100 dX12_hang_204 (by decide) ?_
                exact ih (k + 1) _ _ (by omega) (by omega) (by rw [ew2_4, e4]; rfl) (by rw [e5]; exact nI_1 k) _ hM hF
              refine J.icmp_ne 201 120 dX12_hang_117 (by decide) rfl (fun c5 => ?_) (fun c5 => ?_)
              · skip
                exact K2 _ (by first | (simp only [if_neg c1, if_neg c2, ev1_0, if_neg c3, if_neg c5]; done) | (simp [c1, ib_n.mp c1, c2, ib_n.mp c2, ev1_0, c3, Int32.not_le.mp c3, c5]; done)) _ hM hF
              · skip
                refine J.aload_n 121 dX12_hang_120 rfl rfl ?_
                refine mg_74 hM rfl 124 dX12_hang_121 rfl ?_
                refine J.iload 126 dX12_hang_124 rfl rfl ?_
                refine ml_ia hM k q5 rfl rfl rfl (by assumption) 127 dX12_hang_126 rfl ?_
                refine J.iload_n 128 dX12_hang_127 rfl rfl ?_
                refine J.icmp_ne 201 131 dX12_hang_128 (by decide) rfl (fun c6 => ?_) (fun c6 => ?_)
                · skip
                  exact K2 _ (by first | (simp only [if_neg c1, if_neg c2, ev1_0, if_neg c3, if_pos c5, if_neg c6]; done) | (simp [c1, ib_n.mp c1, c2, ib_n.mp c2, ev1_0, c3, Int32.not_le.mp c3, c5, c6]; done)) _ hM hF
                · skip
                  refine J.iload 133 dX12_hang_131 rfl rfl ?_
                  have K3 : ∀ (v3_0 : Int32), v3_0 = (if x4 = 0 then 0 else (if (S.2 17 k) = (S.2 17 l.toNatClampNeg) then (if (S.2 20 k) = 1 then 0 else (if (S.2 20 k) = 3 then 0 else (if (S.2 20 l.toNatClampNeg) = 1 then 0 else (if (S.2 20 l.toNatClampNeg) = 3 then 0 else 1)))) else 0)) → ∀ h, MR m0 ad S h → MF m0 ad h0 h → J Y_X12_hang (d + 1) G 0 0 199 [some (.ref m0), some (.int m), some (.int l), some (.int (r_hangN S m 110 n)), some (.int x4), some (.int x5)] [.int v3_0] h post := by
                    intro v3_0 ev3_0 h hM hF
                    refine J.ist_4 201 dX12_hang_199 rfl (by decide) ?_
                    exact K2 _ (by first | (simp only [if_neg c1, if_neg c2, ev1_0, if_neg c3, if_pos c5, if_pos c6, ev3_0]; done) | (simp [c1, ib_n.mp c1, c2, ib_n.mp c2, ev1_0, c3, Int32.not_le.mp c3, c5, c6, ev3_0]; done)) _ hM hF
                  refine J.if_eq 198 136 dX12_hang_133 (by decide) rfl (fun c7 => ?_) (fun c7 => ?_)
                  · skip
                    refine J.iconst 0 199 dX12_hang_198 rfl (by decide) ?_
                    exact K3 _ (by first | (simp only [if_neg c1, if_neg c2, ev1_0, if_neg c3, if_pos c5, if_pos c6, if_pos c7]; done) | (simp [c1, ib_n.mp c1, c2, ib_n.mp c2, ev1_0, c3, Int32.not_le.mp c3, c5, c6, c7]; done)) _ hM hF
                  · skip
                    refine J.aload_n 137 dX12_hang_136 rfl rfl ?_
                    refine mg_53 hM rfl 140 dX12_hang_137 rfl ?_
                    refine J.iload 142 dX12_hang_140 rfl rfl ?_
                    refine ml_ia hM k q5 rfl rfl rfl (by assumption) 143 dX12_hang_142 rfl ?_
                    refine J.aload_n 144 dX12_hang_143 rfl rfl ?_
                    refine mg_53 hM rfl 147 dX12_hang_144 rfl ?_
                    refine J.iload_n 148 dX12_hang_147 rfl rfl ?_
                    refine ml_ia hM l.toNatClampNeg rfl rfl rfl rfl (by first | assumption | exact hl (ib_n.mp (by assumption))) 149 dX12_hang_148 rfl ?_
                    refine J.icmp_ne 198 152 dX12_hang_149 (by decide) rfl (fun c8 => ?_) (fun c8 => ?_)
                    · skip
                      refine J.iconst 0 199 dX12_hang_198 rfl (by decide) ?_
                      exact K3 _ (by first | (simp only [if_neg c1, if_neg c2, ev1_0, if_neg c3, if_pos c5, if_pos c6, if_neg c7, if_neg c8]; done) | (simp [c1, ib_n.mp c1, c2, ib_n.mp c2, ev1_0, c3, Int32.not_le.mp c3, c5, c6, c7, c8]; done)) _ hM hF
                    · skip
                      refine J.aload_n 153 dX12_hang_152 rfl rfl ?_
                      refine mg_62 hM rfl 156 dX12_hang_153 rfl ?_
                      refine J.iload 158 dX12_hang_156 rfl rfl ?_
                      refine ml_ia hM k q5 rfl rfl rfl (by assumption) 159 dX12_hang_158 rfl ?_
                      refine J.iconst 1 160 dX12_hang_159 rfl (by decide) ?_
                      refine J.icmp_eq 198 163 dX12_hang_160 (by decide) rfl (fun c9 => ?_) (fun c9 => ?_)
                      · skip
                        refine J.iconst 0 199 dX12_hang_198 rfl (by decide) ?_
                        exact K3 _ (by first | (simp only [if_neg c1, if_neg c2, ev1_0, if_neg c3, if_pos c5, if_pos c6, if_neg c7, if_pos c8, if_pos c9]; done) | (simp [c1, ib_n.mp c1, c2, ib_n.mp c2, ev1_0, c3, Int32.not_le.mp c3, c5, c6, c7, c8, c9]; done)) _ hM hF
                      · skip
                        refine J.aload_n 164 dX12_hang_163 rfl rfl ?_
                        refine mg_62 hM rfl 167 dX12_hang_164 rfl ?_
                        refine J.iload 169 dX12_hang_167 rfl rfl ?_
                        refine ml_ia hM k q5 rfl rfl rfl (by assumption) 170 dX12_hang_169 rfl ?_
                        refine J.iconst 3 171 dX12_hang_170 rfl (by decide) ?_
                        refine J.icmp_eq 198 174 dX12_hang_171 (by decide) rfl (fun c10 => ?_) (fun c10 => ?_)
                        · skip
                          refine J.iconst 0 199 dX12_hang_198 rfl (by decide) ?_
                          exact K3 _ (by first | (simp only [if_neg c1, if_neg c2, ev1_0, if_neg c3, if_pos c5, if_pos c6, if_neg c7, if_pos c8, if_neg c9, if_pos c10]; done) | (simp [c1, ib_n.mp c1, c2, ib_n.mp c2, ev1_0, c3, Int32.not_le.mp c3, c5, c6, c7, c8, c9, c10]; done)) _ hM hF
                        · skip
                          refine J.aload_n 175 dX12_hang_174 rfl rfl ?_
                          refine mg_62 hM rfl 178 dX12_hang_175 rfl ?_
                          refine J.iload_n 179 dX12_hang_178 rfl rfl ?_
                          refine ml_ia hM l.toNatClampNeg rfl rfl rfl rfl (by first | assumption | exact hl (ib_n.mp (by assumption))) 180 dX12_hang_179 rfl ?_
                          refine J.iconst 1 181 dX12_hang_180 rfl (by decide) ?_
                          refine J.icmp_eq 198 184 dX12_hang_181 (by decide) rfl (fun c11 => ?_) (fun c11 => ?_)
                          · skip
                            refine J.iconst 0 199 dX12_hang_198 rfl (by decide) ?_
                            exact K3 _ (by first | (simp only [if_neg c1, if_neg c2, ev1_0, if_neg c3, if_pos c5, if_pos c6, if_neg c7, if_pos c8, if_neg c9, if_neg c10, if_pos c11]; done) | (simp [c1, ib_n.mp c1, c2, ib_n.mp c2, ev1_0, c3, Int32.not_le.mp c3, c5, c6, c7, c8, c9, c10, c11]; done)) _ hM hF
                          · skip
                            refine J.aload_n 185 dX12_hang_184 rfl rfl ?_
                            refine mg_62 hM rfl 188 dX12_hang_185 rfl ?_
                            refine J.iload_n 189 dX12_hang_188 rfl rfl ?_
                            refine ml_ia hM l.toNatClampNeg rfl rfl rfl rfl (by first | assumption | exact hl (ib_n.mp (by assumption))) 190 dX12_hang_189 rfl ?_
                            refine J.iconst 3 191 dX12_hang_190 rfl (by decide) ?_
                            refine J.icmp_eq 198 194 dX12_hang_191 (by decide) rfl (fun c12 => ?_) (fun c12 => ?_)
                            · skip
                              refine J.iconst 0 199 dX12_hang_198 rfl (by decide) ?_
                              exact K3 _ (by first | (simp only [if_neg c1, if_neg c2, ev1_0, if_neg c3, if_pos c5, if_pos c6, if_neg c7, if_pos c8, if_neg c9, if_neg c10, if_neg c11, if_pos c12]; done) | (simp [c1, ib_n.mp c1, c2, ib_n.mp c2, ev1_0, c3, Int32.not_le.mp c3, c5, c6, c7, c8, c9, c10, c11, c12]; done)) _ hM hF
                            · skip
                              refine J.iconst 1 195 dX12_hang_194 rfl (by decide) ?_
                              refine J.goto 199 dX12_hang_195 (by decide) ?_
                              exact K3 _ (by first | (simp only [if_neg c1, if_neg c2, ev1_0, if_neg c3, if_pos c5, if_pos c6, if_neg c7, if_pos c8, if_neg c9, if_neg c10, if_neg c11, if_neg c12]; done) | (simp [c1, ib_n.mp c1, c2, ib_n.mp c2, ev1_0, c3, Int32.not_le.mp c3, c5, c6, c7, c8, c9, c10, c11, c12]; done)) _ hM hF
        exact loop100 (n + 1) 0 _ _ (Nat.zero_le _) (by omega) rfl rfl _ hM hF
      refine J.icmp_gt 94 39 dX12_hang_36 (by decide) rfl (fun c13 => ?_) (fun c13 => ?_)
      · skip
        refine J.iconst 0 95 dX12_hang_94 rfl (by decide) ?_
        exact K1 _ (by first | (simp only [if_neg c1, if_neg c2, if_pos c13]; done) | (simp [c1, ib_n.mp c1, c2, ib_n.mp c2, c13, Int32.not_le.mpr c13]; done)) _ hM hF
      · skip
        refine J.aload_n 40 dX12_hang_39 rfl rfl ?_
        refine mg_71 hM rfl 43 dX12_hang_40 rfl ?_
        refine J.iload_n 44 dX12_hang_43 rfl rfl ?_
        refine ml_ia hM l.toNatClampNeg rfl rfl rfl rfl (by first | assumption | exact hl (ib_n.mp (by assumption))) 45 dX12_hang_44 rfl ?_
        refine J.if_ne 94 48 dX12_hang_45 (by decide) rfl (fun c14 => ?_) (fun c14 => ?_)
        · skip
          refine J.iconst 0 95 dX12_hang_94 rfl (by decide) ?_
          exact K1 _ (by first | (simp only [if_neg c1, if_neg c2, if_neg c13, if_neg c14]; done) | (simp [c1, ib_n.mp c1, c2, ib_n.mp c2, c13, Int32.not_lt.mp c13, c14]; done)) _ hM hF
        · skip
          refine J.aload_n 49 dX12_hang_48 rfl rfl ?_
          refine mg_65 hM rfl 52 dX12_hang_49 rfl ?_
          refine J.iload_n 53 dX12_hang_52 rfl rfl ?_
          refine ml_ia hM l.toNatClampNeg rfl rfl rfl rfl (by first | assumption | exact hl (ib_n.mp (by assumption))) 54 dX12_hang_53 rfl ?_
          refine J.aload_n 55 dX12_hang_54 rfl rfl ?_
          refine mg_221 hM (x := S.1 0) rfl rfl 58 dX12_hang_55 rfl ?_
          refine J.icmp_gt 94 61 dX12_hang_58 (by decide) rfl (fun c15 => ?_) (fun c15 => ?_)
          · skip
            refine J.iconst 0 95 dX12_hang_94 rfl (by decide) ?_
            exact K1 _ (by first | (simp only [if_neg c1, if_neg c2, if_neg c13, if_pos c14, if_pos c15]; done) | (simp [c1, ib_n.mp c1, c2, ib_n.mp c2, c13, Int32.not_lt.mp c13, c14, c15, Int32.not_le.mpr c15]; done)) _ hM hF
          · skip
            refine J.aload_n 62 dX12_hang_61 rfl rfl ?_
            refine mg_62 hM rfl 65 dX12_hang_62 rfl ?_
            refine J.iload_n 66 dX12_hang_65 rfl rfl ?_
            refine ml_ia hM l.toNatClampNeg rfl rfl rfl rfl (by first | assumption | exact hl (ib_n.mp (by assumption))) 67 dX12_hang_66 rfl ?_
            refine J.iconst 4 68 dX12_hang_67 rfl (by decide) ?_
            refine J.icmp_eq 94 71 dX12_hang_68 (by decide) rfl (fun c16 => ?_) (fun c16 => ?_)
            · skip
              refine J.iconst 0 95 dX12_hang_94 rfl (by decide) ?_
              exact K1 _ (by first | (simp only [if_neg c1, if_neg c2, if_neg c13, if_pos c14, if_neg c15, if_pos c16]; done) | (simp [c1, ib_n.mp c1, c2, ib_n.mp c2, c13, Int32.not_lt.mp c13, c14, c15, Int32.not_lt.mp c15, c16]; done)) _ hM hF
            · skip
              refine J.aload_n 72 dX12_hang_71 rfl rfl ?_
              refine J.iload_n 73 dX12_hang_72 rfl rfl ?_
              refine J.bipush 114 75 dX12_hang_73 rfl (by decide) ?_
              refine mc_211 hM hF (k_ofHanging (S := S) (m := m) (c := 114) hN hn) rfl 78 dX12_hang_75 rfl rfl rfl (Nat.le_of_ble_eq_true rfl) (fun r S2 hp h hM hF => ?_)
              obtain ⟨rfl, hp⟩ := hp
              replace hp := hp.symm
              subst hp
              refine J.aload_n 79 dX12_hang_78 rfl rfl ?_
              refine mg_59 hM rfl 82 dX12_hang_79 rfl ?_
              refine J.iload_n 83 dX12_hang_82 rfl rfl ?_
              refine ml_ia hM l.toNatClampNeg rfl rfl rfl rfl (by first | assumption | exact hl (ib_n.mp (by assumption))) 84 dX12_hang_83 rfl ?_
              refine J.iadd 85 dX12_hang_84 rfl ?_
              refine J.bipush 9 87 dX12_hang_85 rfl (by decide) ?_
              refine J.icmp_gt 94 90 dX12_hang_87 (by decide) rfl (fun c17 => ?_) (fun c17 => ?_)
              · skip
                refine J.iconst 0 95 dX12_hang_94 rfl (by decide) ?_
                exact K1 _ (by first | (simp only [if_neg c1, if_neg c2, if_neg c13, if_pos c14, if_neg c15, if_neg c16, if_pos c17]; done) | (simp [c1, ib_n.mp c1, c2, ib_n.mp c2, c13, Int32.not_lt.mp c13, c14, c15, Int32.not_lt.mp c15, c16, c17, Int32.not_le.mpr c17]; done)) _ hM hF
              · skip
                refine J.iconst 1 91 dX12_hang_90 rfl (by decide) ?_
                refine J.goto 95 dX12_hang_91 (by decide) ?_
                exact K1 _ (by first | (simp only [if_neg c1, if_neg c2, if_neg c13, if_pos c14, if_neg c15, if_neg c16, if_neg c17]; done) | (simp [c1, ib_n.mp c1, c2, ib_n.mp c2, c13, Int32.not_lt.mp c13, c14, c15, Int32.not_lt.mp c15, c16, c17, Int32.not_lt.mp c17]; done)) _ hM hF
    · skip
      refine J.iconst (-1) 17 dX12_hang_16 rfl (by decide) ?_
      exact J.iret dX12_hang_17 rfl (fin _ _ _ ⟨by simp [r_hang, c1, ib_n.mp c1, c2, ib_0.mp c2], by simp [s_hang, c1, ib_n.mp c1, c2, ib_0.mp c2]⟩ hM hF)
def s_feedN (S : MS) (v : Int32) : Nat → MS
  | 0 => S
  | k + 1 => (vf_upd (s_feedN S v k).1 30 ((s_feedN S v k).1 30 + 1), u2 (s_feedN S v k).2 29 ((s_feedN S v k).1 30).toNatClampNeg ((v >>> ((8 * nI k) &&& 31)) &&& 255))
theorem s_feedN_30 {S : MS} {v : Int32} {t : Nat} (hT : S.1 30 = nI t) : ∀ k, (s_feedN S v k).1 30 = nI (t + k)
  | 0 => hT
  | k + 1 => by
    show (s_feedN S v k).1 30 + 1 = nI (t + (k + 1))
    rw [s_feedN_30 hT k]
    exact nI_1 (t + k)
def r_feed (S : MS) (q : Nat) (x v : Int32) : Int32 := if ¬ (1 ≤ x ∧ x ≤ 4) then -1 else if 60 < S.1 30 + x then -2 else (s_feedN S v q).1 30
def s_feed (S : MS) (q : Nat) (x v : Int32) : MS := if ¬ (1 ≤ x ∧ x ≤ 4) ∨ 60 < S.1 30 + x then S else s_feedN S v q
theorem k_feed {S : MS} {x : Int32} {v : Int32} {d : Nat} {q t : Nat} (hN : (1 ≤ x ∧ x ≤ 4) → x = nI q ∧ q ≤ 4) (hT : S.1 30 = nI t) (ht : t ≤ 60) : CM Y_X12_feed (d + 1) [.int x, .int v] S (fun r S2 => r = some (.int (r_feed S q x v)) ∧ S2 = s_feed S q x v) := by
  refine CM.of 1 rfl (fun _ => Nat.le_of_ble_eq_true rfl) (by simp [Value.category]) ?_
  intro G m0 ad h0 h post hM hF fin
  show J Y_X12_feed (d + 1) G 0 0 0 [some (.ref m0), some (.int x), some (.int v), none] [] h post
  refine J.iload_n 1 dX12_feed_0 rfl rfl ?_
  refine J.iconst 1 2 dX12_feed_1 rfl (by decide) ?_
  refine J.iconst 4 3 dX12_feed_2 rfl (by decide) ?_
  refine mc_153 (k_within (v := x) (a := 1) (b := 4)) rfl 6 dX12_feed_3 rfl rfl rfl (Nat.le_of_ble_eq_true rfl) ?_
  refine J.if_ne 11 9 dX12_feed_6 (by decide) rfl (fun c1 => ?_) (fun c1 => ?_)
  · skip
    refine J.aload_n 12 dX12_feed_11 rfl rfl ?_
    refine mg_170 hM (x := S.1 30) rfl rfl 15 dX12_feed_12 rfl ?_
    refine J.iload_n 16 dX12_feed_15 rfl rfl ?_
    refine J.iadd 17 dX12_feed_16 rfl ?_
    refine J.bipush 60 19 dX12_feed_17 rfl (by decide) ?_
    refine J.icmp_le 25 22 dX12_feed_19 (by decide) rfl (fun c2 => ?_) (fun c2 => ?_)
    · skip
      refine J.iconst 0 26 dX12_feed_25 rfl (by decide) ?_
      refine J.ist_3 27 dX12_feed_26 rfl (by decide) ?_
      obtain ⟨hX, hq⟩ := hN (ib_n.mp c1)
      have hs : t + q ≤ 60 := (nI_leI (by omega) (by decide)).mp (by have z := c2; rw [hT, hX, nI_add] at z; exact z)
      have loop27 : ∀ (j k : Nat) (x3 : Int32), k ≤ q → q + 1 ≤ k + j → x3 = nI k → ∀ Sx : MS, Sx = s_feedN S v k → ∀ h, MR m0 ad Sx h → MF m0 ad h0 h → J Y_X12_feed (d + 1) G 0 0 27 [some (.ref m0), some (.int x), some (.int v), some (.int x3)] [] h post := by
        intro j
        induction j with
        | zero => intro k _ g1 g2; exact absurd g2 (by omega)
        | succ j ih =>
          intro k x3 g1 g2 e3 Sx eSx h hM hF
          have q3 : x3.toNatClampNeg = k := by rw [e3]; exact nI_clamp (by omega)
          refine J.iload_n 28 dX12_feed_27 rfl rfl ?_
          refine J.iload_n 29 dX12_feed_28 rfl rfl ?_
          refine J.icmp_ge 67 32 dX12_feed_29 (by decide) rfl (fun c3 => ?_) (fun c3 => ?_)
          · skip
            have hk : k = q := Nat.le_antisymm g1 ((nI_leI (by omega) (by omega)).mp (by rw [← hX, ← e3]; exact c3))
            refine J.aload_n 68 dX12_feed_67 rfl rfl ?_
            refine mg_170 hM (x := Sx.1 30) rfl rfl 71 dX12_feed_68 rfl ?_
            exact J.iret dX12_feed_71 rfl (fin _ _ _ ⟨by rw [eSx, hk]; simp [r_feed, ib_n.mp c1, c2, Int32.not_lt.mpr c2], by rw [eSx, hk]; simp [s_feed, ib_n.mp c1, c2, Int32.not_lt.mpr c2]⟩ hM hF)
          · skip
            have hk : k < q := Nat.lt_of_not_le (fun z => c3 (by rw [hX, e3]; exact nI_le z (by omega)))
            have hin : vp_in x3 4 := by rw [e3]; exact vp_in_nI (by omega) (by decide)
            have hin2 : vp_in (Sx.1 30) 60 := by rw [eSx, s_feedN_30 hT]; exact vp_in_nI (by omega) (by decide)
            refine J.aload_n 33 dX12_feed_32 rfl rfl ?_
            refine mg_86 hM rfl 36 dX12_feed_33 rfl ?_
            refine J.aload_n 37 dX12_feed_36 rfl rfl ?_
            refine mg_170 hM (x := Sx.1 30) rfl rfl 40 dX12_feed_37 rfl ?_
            refine J.iload_n 41 dX12_feed_40 rfl rfl ?_
            refine J.bipush 8 43 dX12_feed_41 rfl (by decide) ?_
            refine J.iload_n 44 dX12_feed_43 rfl rfl ?_
            refine J.imul 45 dX12_feed_44 rfl ?_
            refine J.ishr 46 dX12_feed_45 rfl ?_
            refine J.sipush 255 49 dX12_feed_46 rfl (by decide) ?_
            refine J.iand 50 dX12_feed_49 rfl ?_
            refine ml_is hM hF ((Sx.1 30).toNatClampNeg) rfl rfl rfl hin2 51 dX12_feed_50 rfl (fun h hM hF => ?_)
            refine J.aload_n 52 dX12_feed_51 rfl rfl ?_
            refine J.dup 53 dX12_feed_52 rfl rfl ?_
            refine mg_170 hM (x := Sx.1 30) rfl rfl 56 dX12_feed_53 rfl ?_
            refine J.iconst 1 57 dX12_feed_56 rfl (by decide) ?_
            refine J.iadd 58 dX12_feed_57 rfl ?_
            refine mp_170 hM hF rfl 61 dX12_feed_58 rfl (fun h hM hF => ?_)
            refine J.iinc_3 1 64 dX12_feed_61 rfl (by decide) (by decide) ?_
            refine J.goto 27 dX12_feed_64 (by decide) ?_
            exact ih (k + 1) _ (by omega) (by omega)  (by rw [e3]; exact nI_1 k) _ (by rw [eSx, e3]; rfl) _ hM hF
      exact loop27 (q + 1) 0 _ (Nat.zero_le _) (by omega)  rfl _ rfl _ hM hF
    · skip
      refine J.bipush (-2) 24 dX12_feed_22 rfl (by decide) ?_
      exact J.iret dX12_feed_24 rfl (fin _ _ _ ⟨by simp [r_feed, s_feed, c1, ib_n.mp c1, c2, Int32.not_le.mp c2], by simp [r_feed, s_feed, c1, ib_n.mp c1, c2, Int32.not_le.mp c2]⟩ hM hF)
  · skip
    refine J.iconst (-1) 10 dX12_feed_9 rfl (by decide) ?_
    exact J.iret dX12_feed_10 rfl (fin _ _ _ ⟨by simp [r_feed, s_feed, c1, ib_0.mp c1], by simp [r_feed, s_feed, c1, ib_0.mp c1]⟩ hM hF)
