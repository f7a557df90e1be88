def exN (P : Nat → Bool) : Nat → Bool
  | 0 => false
  | k + 1 => exN P k || P k
theorem exN_of {P : Nat → Bool} : ∀ {n k : Nat}, k < n → P k = true → exN P n = true
  | 0, _, h, _ => absurd h (Nat.not_lt_zero _)
  | n + 1, k, h, hP => by
    rcases Nat.lt_or_ge k n with z | z
    · simp [exN, exN_of z hP]
    · have e : k = n := by omega
      subst e
      simp [exN, hP]
def p3 (S : MS) (m p : Int32) (k : Nat) : Bool := decide (S.2 23 k = 1 ∧ S.2 24 k = m ∧ ¬ S.2 17 k = p)
def p8 (S : MS) (m : Int32) (k : Nat) : Bool := decide (S.2 23 k = 1 ∧ S.2 24 k = m ∧ S.2 20 k = 2 ∧ 90 < S.1 46 - S.2 21 k)
def wSt (T : MS) (n : Nat) (y m p : Int32) : Nat → MS
  | 0 => T
  | k + 1 => sW (wSt T n y m p k) n (nI k) ((wSt T n y m p k).1 0) p m ((wSt T n y m p k).2 14 y.toNatClampNeg)
def wV (T : MS) (n : Nat) (y m p : Int32) (k : Nat) : Int32 := rW (wSt T n y m p k) n (nI k) ((wSt T n y m p k).1 0) p m ((wSt T n y m p k).2 14 y.toNatClampNeg)
def rF (T : MS) (n : Nat) (y m p : Int32) : Nat → Nat → Int32 × MS
  | 0, k => (0, wSt T n y m p k)
  | j + 1, k => if wV T n y m p k = 0 then (10 + nI k, wSt T n y m p (k + 1)) else rF T n y m p j (k + 1)
def why1 (S : MS) (n u : Nat) (m y p : Int32) : Int32 × MS :=
  if S.1 0 < S.2 10 m.toNatClampNeg then (1, S) else if S.1 0 < S.2 15 y.toNatClampNeg then (2, S) else if exN (p3 S m p) n = true then (3, S) else if 720 < S.1 47 then (4, S)
  else if r_liftOf S m 0 (m_hour (S.1 0)) < r_hangN S m 108 n ∨ r_liftOf S m p (m_hour (S.1 46)) < r_hangN S m 108 n then (5, S) else if S.2 9 m.toNatClampNeg < S.1 48 + 10 then (6, S)
  else if S.2 12 y.toNatClampNeg < S.2 14 y.toNatClampNeg + S.1 47 - S.1 0 then (7, S) else if exN (p8 S m) n = true then (8, S) else rF S n y m p u 0
def r_why (S : MS) (n u : Nat) (m y p : Int32) : Int32 := (why1 (s_find S n m p) n u m y p).1
def s_why (S : MS) (n u : Nat) (m y p : Int32) : MS := (why1 (s_find S n m p) n u m y p).2
theorem k_why {S : MS} {m : Int32} {y : Int32} {p : Int32} {d : Nat} {n u : Nat} (hN : S.1 28 = nI n) (hn : n ≤ 80) (hr : u ≤ 10) (hm : vp_in m 4) (hy : vp_in y 6) (hp : vp_in p 12) (hH : vp_in (m_hour (S.1 0 + r_wayOf S n m p)) 12) (hN1 : (s_find S n m p).1 28 = nI n) (hR : ∀ k, (wSt (s_find S n m p) n y m p k).1 33 = nI u) (hH0 : vp_in (m_hour ((s_find S n m p).1 0)) 12) (hH1 : vp_in (m_hour ((s_find S n m p).1 46)) 12) (hW : ∀ k, k < u → wHyp (wSt (s_find S n m p) n y m p k) n (nI k) ((wSt (s_find S n m p) n y m p k).1 0) p m ((wSt (s_find S n m p) n y m p k).2 14 y.toNatClampNeg)) : CM Y_X12_why (d + 3) [.int m, .int y, .int p] S (fun r S2 => r = some (.int (r_why S n u m y p)) ∧ S2 = s_why S n u m y p) := by
  refine CM.of 3 rfl (fun _ => Nat.le_of_ble_eq_true rfl) (by simp [Value.category]) ?_
  intro G m0 ad h0 h post hM hF fin
  show J Y_X12_why (d + 3) G 0 0 0 [some (.ref m0), some (.int m), some (.int y), some (.int p), none, none, none] [] h post
  refine J.aload_n 1 dX12_why_0 rfl rfl ?_
  refine J.iload_n 2 dX12_why_1 rfl rfl ?_
  refine J.iload_n 3 dX12_why_2 rfl rfl ?_
  refine mc_249 hM hF (k_find (S := S) (m := m) (p := p) hN hn hm hp hH) rfl 6 dX12_why_3 rfl rfl rfl (Nat.le_of_ble_eq_true rfl) (fun r S2 hp h hM hF => ?_)
  obtain ⟨rfl, hp⟩ := hp
  replace hp := hp.symm
  subst hp
  obtain ⟨S1, hS1⟩ : ∃ S1, S1 = s_find S n m p := ⟨_, rfl⟩
  rw [← hS1] at hM
  rw [← hS1] at hN1 hR hH0 hH1 hW
  refine J.aload_n 7 dX12_why_6 rfl rfl ?_
  refine mg_38 hM rfl 10 dX12_why_7 rfl ?_
  refine J.iload_n 11 dX12_why_10 rfl rfl ?_
  refine ml_ia hM m.toNatClampNeg rfl (x := S1.2 10 m.toNatClampNeg) rfl rfl rfl (by assumption) 12 dX12_why_11 rfl ?_
  refine J.aload_n 13 dX12_why_12 rfl rfl ?_
  refine mg_221 hM (x := S1.1 0) rfl rfl 16 dX12_why_13 rfl ?_
  refine J.icmp_le 21 19 dX12_why_16 (by decide) rfl (fun c1 => ?_) (fun c1 => ?_)
  · skip
    refine J.aload_n 22 dX12_why_21 rfl rfl ?_
    refine mg_50 hM rfl 25 dX12_why_22 rfl ?_
    refine J.iload_n 26 dX12_why_25 rfl rfl ?_
    refine ml_ia hM y.toNatClampNeg rfl (x := S1.2 15 y.toNatClampNeg) rfl rfl rfl (by assumption) 27 dX12_why_26 rfl ?_
    refine J.aload_n 28 dX12_why_27 rfl rfl ?_
    refine mg_221 hM (x := S1.1 0) rfl rfl 31 dX12_why_28 rfl ?_
    refine J.icmp_le 36 34 dX12_why_31 (by decide) rfl (fun c2 => ?_) (fun c2 => ?_)
    · skip
      refine J.iconst 0 37 dX12_why_36 rfl (by decide) ?_
      refine J.ist_4 39 dX12_why_37 rfl (by decide) ?_
      have loop39 : ∀ (j k : Nat) (x4 : Int32), k ≤ n → n + 1 ≤ k + j → x4 = nI k → exN (p3 S1 m p) k = false → ∀ h, MR m0 ad S1 h → MF m0 ad h0 h → J Y_X12_why (d + 3) G 0 0 39 [some (.ref m0), some (.int m), some (.int y), some (.int p), some (.int x4), none, none] [] h post := by
        intro j
        induction j with
        | zero => intro k _ g1 g2; exact absurd g2 (by omega)
        | succ j ih =>
          intro k x4 g1 g2 e4 hI h hM hF
          have q4 : x4.toNatClampNeg = k := by rw [e4]; exact nI_clamp (by omega)
          refine J.iload 41 dX12_why_39 rfl rfl ?_
          refine J.aload_n 42 dX12_why_41 rfl rfl ?_
          refine mg_163 hM (x := S1.1 28) rfl rfl 45 dX12_why_42 rfl ?_
          refine J.icmp_ge 89 48 dX12_why_45 (by decide) rfl (fun c3 => ?_) (fun c3 => ?_)
          · skip
            have hk : k = n := Nat.le_antisymm g1 ((nI_leI (by omega) (by omega)).mp (by rw [← hN1, ← e4]; exact c3))
            have hx3 : exN (p3 S1 m p) n = false := by rw [← hk]; exact hI
            refine J.aload_n 90 dX12_why_89 rfl rfl ?_
            refine mg_240 hM (x := S1.1 47) rfl rfl 93 dX12_why_90 rfl ?_
            refine J.sipush 720 96 dX12_why_93 rfl (by decide) ?_
            refine J.icmp_le 101 99 dX12_why_96 (by decide) rfl (fun c4 => ?_) (fun c4 => ?_)
            · skip
              refine J.aload_n 102 dX12_why_101 rfl rfl ?_
              refine J.iload_n 103 dX12_why_102 rfl rfl ?_
              refine J.bipush 108 105 dX12_why_103 rfl (by decide) ?_
              refine mc_211 hM hF (k_ofHanging (S := S1) (m := m) (c := 108) hN1 hn) rfl 108 dX12_why_105 rfl rfl rfl (Nat.le_of_ble_eq_true rfl) (fun r S2 hp h hM hF => ?_)
              obtain ⟨rfl, hp⟩ := hp
              replace hp := hp.symm
              subst hp
              refine J.ist_4 110 dX12_why_108 rfl (by decide) ?_
              refine J.iload 112 dX12_why_110 rfl rfl ?_
              refine J.aload_n 113 dX12_why_112 rfl rfl ?_
              refine J.iload_n 114 dX12_why_113 rfl rfl ?_
              refine J.iconst 0 115 dX12_why_114 rfl (by decide) ?_
              refine J.aload_n 116 dX12_why_115 rfl rfl ?_
              refine mg_221 hM (x := S1.1 0) rfl rfl 119 dX12_why_116 rfl ?_
              refine mc_207 (k_hourOf (m := S1.1 0)) rfl 122 dX12_why_119 rfl rfl rfl (Nat.le_of_ble_eq_true rfl) ?_
              refine mc_243 hM hF (k_liftOf (S := S1) (m := m) (p := 0) (x := m_hour (S1.1 0)) hm (by unfold vp_in; decide) (by assumption)) rfl 125 dX12_why_122 rfl rfl rfl (Nat.le_of_ble_eq_true rfl) (fun r S2 hp h hM hF => ?_)
              obtain ⟨rfl, hp⟩ := hp
              replace hp := hp.symm
              subst hp
              refine J.icmp_gt 146 128 dX12_why_125 (by decide) rfl (fun c5 => ?_) (fun c5 => ?_)
              · skip
                refine J.iconst 5 147 dX12_why_146 rfl (by decide) ?_
                exact J.iret dX12_why_147 rfl (fin _ _ _ ⟨by rw [r_why, ← hS1]; simp [why1, c1, Int32.not_lt.mpr c1, c2, Int32.not_lt.mpr c2, c3, Int32.not_lt.mpr c3, c4, Int32.not_lt.mpr c4, c5, Int32.not_le.mpr c5, hx3], by rw [s_why, ← hS1]; simp [why1, c1, Int32.not_lt.mpr c1, c2, Int32.not_lt.mpr c2, c3, Int32.not_lt.mpr c3, c4, Int32.not_lt.mpr c4, c5, Int32.not_le.mpr c5, hx3]⟩ hM hF)
              · skip
                refine J.iload 130 dX12_why_128 rfl rfl ?_
                refine J.aload_n 131 dX12_why_130 rfl rfl ?_
                refine J.iload_n 132 dX12_why_131 rfl rfl ?_
                refine J.iload_n 133 dX12_why_132 rfl rfl ?_
                refine J.aload_n 134 dX12_why_133 rfl rfl ?_
                refine mg_237 hM (x := S1.1 46) rfl rfl 137 dX12_why_134 rfl ?_
                refine mc_207 (k_hourOf (m := S1.1 46)) rfl 140 dX12_why_137 rfl rfl rfl (Nat.le_of_ble_eq_true rfl) ?_
                refine mc_243 hM hF (k_liftOf (S := S1) (m := m) (p := p) (x := m_hour (S1.1 46)) hm hp (by assumption)) rfl 143 dX12_why_140 rfl rfl rfl (Nat.le_of_ble_eq_true rfl) (fun r S2 hp h hM hF => ?_)
                obtain ⟨rfl, hp⟩ := hp
                replace hp := hp.symm
                subst hp
                refine J.icmp_le 148 146 dX12_why_143 (by decide) rfl (fun c6 => ?_) (fun c6 => ?_)
                · skip
                  refine J.aload_n 149 dX12_why_148 rfl rfl ?_
                  refine mg_246 hM (x := S1.1 48) rfl rfl 152 dX12_why_149 rfl ?_
                  refine J.bipush 10 154 dX12_why_152 rfl (by decide) ?_
                  refine J.iadd 155 dX12_why_154 rfl ?_
                  refine J.aload_n 156 dX12_why_155 rfl rfl ?_
                  refine mg_35 hM rfl 159 dX12_why_156 rfl ?_
                  refine J.iload_n 160 dX12_why_159 rfl rfl ?_
                  refine ml_ia hM m.toNatClampNeg rfl (x := S1.2 9 m.toNatClampNeg) rfl rfl rfl (by assumption) 161 dX12_why_160 rfl ?_
                  refine J.icmp_le 167 164 dX12_why_161 (by decide) rfl (fun c7 => ?_) (fun c7 => ?_)
                  · skip
                    refine J.aload_n 168 dX12_why_167 rfl rfl ?_
                    refine mg_47 hM rfl 171 dX12_why_168 rfl ?_
                    refine J.iload_n 172 dX12_why_171 rfl rfl ?_
                    refine ml_ia hM y.toNatClampNeg rfl (x := S1.2 14 y.toNatClampNeg) rfl rfl rfl (by assumption) 173 dX12_why_172 rfl ?_
                    refine J.aload_n 174 dX12_why_173 rfl rfl ?_
                    refine mg_240 hM (x := S1.1 47) rfl rfl 177 dX12_why_174 rfl ?_
                    refine J.iadd 178 dX12_why_177 rfl ?_
                    refine J.aload_n 179 dX12_why_178 rfl rfl ?_
                    refine mg_221 hM (x := S1.1 0) rfl rfl 182 dX12_why_179 rfl ?_
                    refine J.isub 183 dX12_why_182 rfl ?_
                    refine J.aload_n 184 dX12_why_183 rfl rfl ?_
                    refine mg_41 hM rfl 187 dX12_why_184 rfl ?_
                    refine J.iload_n 188 dX12_why_187 rfl rfl ?_
                    refine ml_ia hM y.toNatClampNeg rfl (x := S1.2 12 y.toNatClampNeg) rfl rfl rfl (by assumption) 189 dX12_why_188 rfl ?_
                    refine J.icmp_le 195 192 dX12_why_189 (by decide) rfl (fun c8 => ?_) (fun c8 => ?_)
                    · skip
                      refine J.iconst 0 196 dX12_why_195 rfl (by decide) ?_
                      refine J.ist_5 198 dX12_why_196 rfl (by decide) ?_
                      have loop198 : ∀ (j k : Nat) (x5 : Int32), k ≤ n → n + 1 ≤ k + j → x5 = nI k → exN (p8 S1 m) k = false → ∀ h, MR m0 ad S1 h → MF m0 ad h0 h → J Y_X12_why (d + 3) G 0 0 198 [some (.ref m0), some (.int m), some (.int y), some (.int p), some (.int (r_hangN S1 m 108 n)), some (.int x5), none] [] h post := by
                        intro j
                        induction j with
                        | zero => intro k _ g1 g2; exact absurd g2 (by omega)
                        | succ j ih =>
                          intro k x5 g1 g2 e5 hI h hM hF
                          have q5 : x5.toNatClampNeg = k := by rw [e5]; exact nI_clamp (by omega)
                          refine J.iload 200 dX12_why_198 rfl rfl ?_
                          refine J.aload_n 201 dX12_why_200 rfl rfl ?_
                          refine mg_163 hM (x := S1.1 28) rfl rfl 204 dX12_why_201 rfl ?_
                          refine J.icmp_ge 266 207 dX12_why_204 (by decide) rfl (fun c9 => ?_) (fun c9 => ?_)
                          · skip
                            have hk : k = n := Nat.le_antisymm g1 ((nI_leI (by omega) (by omega)).mp (by rw [← hN1, ← e5]; exact c9))
                            have hx8 : exN (p8 S1 m) n = false := by rw [← hk]; exact hI
                            refine J.iconst 0 267 dX12_why_266 rfl (by decide) ?_
                            refine J.ist_5 269 dX12_why_267 rfl (by decide) ?_
                            have loop269 : ∀ (j k : Nat) (x5 : Int32), k ≤ u → u + 1 ≤ k + j → x5 = nI k → ∀ Sx : MS, Sx = wSt S1 n y m p k ∧ rF S1 n y m p (u - k) k = rF S1 n y m p u 0 → ∀ h, MR m0 ad Sx h → MF m0 ad h0 h → J Y_X12_why (d + 3) G 0 0 269 [some (.ref m0), some (.int m), some (.int y), some (.int p), some (.int (r_hangN S1 m 108 n)), some (.int x5), none] [] h post := by
                              intro j
                              induction j with
                              | zero => intro k _ g1 g2; exact absurd g2 (by omega)
                              | succ j ih =>
                                intro k x5 g1 g2 e5 Sx hI h hM hF
                                have q5 : x5.toNatClampNeg = k := by rw [e5]; exact nI_clamp (by omega)
                                have hRx : Sx.1 33 = nI u := by rw [hI.1]; exact hR k
                                refine J.iload 271 dX12_why_269 rfl rfl ?_
                                refine J.aload_n 272 dX12_why_271 rfl rfl ?_
                                refine mg_182 hM (x := Sx.1 33) rfl rfl 275 dX12_why_272 rfl ?_
                                refine J.icmp_ge 311 278 dX12_why_275 (by decide) rfl (fun c10 => ?_) (fun c10 => ?_)
                                · skip
                                  have hk : k = u := Nat.le_antisymm g1 ((nI_leI (by omega) (by omega)).mp (by rw [← hRx, ← e5]; exact c10))
                                  refine J.iconst 0 312 dX12_why_311 rfl (by decide) ?_
                                  have hx : rF S1 n y m p u 0 = (0, Sx) := by rw [← hI.2, hk, Nat.sub_self, rF, hI.1, hk]
                                  exact J.iret dX12_why_312 rfl (fin _ _ _ ⟨by rw [r_why, ← hS1]; simp [why1, c1, Int32.not_lt.mpr c1, c2, Int32.not_lt.mpr c2, c3, Int32.not_lt.mpr c3, c4, Int32.not_lt.mpr c4, c5, Int32.not_lt.mp c5, c6, Int32.not_lt.mpr c6, c7, Int32.not_lt.mpr c7, c8, Int32.not_lt.mpr c8, c9, Int32.not_lt.mpr c9, c10, Int32.not_lt.mpr c10, hx3, hx8, hx], by rw [s_why, ← hS1]; simp [why1, c1, Int32.not_lt.mpr c1, c2, Int32.not_lt.mpr c2, c3, Int32.not_lt.mpr c3, c4, Int32.not_lt.mpr c4, c5, Int32.not_lt.mp c5, c6, Int32.not_lt.mpr c6, c7, Int32.not_lt.mpr c7, c8, Int32.not_lt.mpr c8, c9, Int32.not_lt.mpr c9, c10, Int32.not_lt.mpr c10, hx3, hx8, hx]⟩ hM hF)
                                · skip
                                  have hk : k < u := Nat.lt_of_not_le (fun z => c10 (by rw [hRx, e5]; exact nI_le z (by omega)))
                                  have hin : vp_in x5 10 := by rw [e5]; exact vp_in_nI (by omega) (by decide)
                                  refine J.aload_n 279 dX12_why_278 rfl rfl ?_
                                  refine J.iload 281 dX12_why_279 rfl rfl ?_
                                  refine J.aload_n 282 dX12_why_281 rfl rfl ?_
                                  refine mg_221 hM (x := Sx.1 0) rfl rfl 285 dX12_why_282 rfl ?_
                                  refine J.iload_n 286 dX12_why_285 rfl rfl ?_
                                  refine J.iload_n 287 dX12_why_286 rfl rfl ?_
                                  refine J.aload_n 288 dX12_why_287 rfl rfl ?_
                                  refine mg_47 hM rfl 291 dX12_why_288 rfl ?_
                                  refine J.iload_n 292 dX12_why_291 rfl rfl ?_
                                  refine ml_ia hM y.toNatClampNeg rfl (x := Sx.2 14 y.toNatClampNeg) rfl rfl rfl (by assumption) 293 dX12_why_292 rfl ?_
                                  refine mc_224 hM hF (k_W (S := Sx) (n := n) (i := x5) (t := Sx.1 0) (p := p) (m := m) (f := Sx.2 14 y.toNatClampNeg) (by rw [e5, hI.1]; exact hW k hk)) rfl 296 dX12_why_293 rfl rfl rfl (Nat.le_of_ble_eq_true rfl) (fun r S2 hp h hM hF => ?_)
                                  obtain ⟨rfl, hp⟩ := hp
                                  replace hp := hp.symm
                                  subst hp
                                  refine J.if_ne 305 299 dX12_why_296 (by decide) rfl (fun c11 => ?_) (fun c11 => ?_)
                                  · skip
                                    refine J.iinc_5 1 308 dX12_why_305 rfl (by decide) (by decide) ?_
                                    refine J.goto 269 dX12_why_308 (by decide) ?_
                                    exact ih (k + 1)  _ (by omega) (by omega) (by rw [e5]; exact nI_1 k) _ ⟨by rw [hI.1, e5]; rfl, by rw [← hI.2, show u - k = (u - (k + 1)) + 1 from by omega, rF, if_neg (by rw [wV, ← hI.1, ← e5]; assumption)]⟩ _ hM hF
                                  · skip
                                    refine J.bipush 10 301 dX12_why_299 rfl (by decide) ?_
                                    refine J.iload 303 dX12_why_301 rfl rfl ?_
                                    refine J.iadd 304 dX12_why_303 rfl ?_
                                    have hx : rF S1 n y m p u 0 = (10 + nI k, wSt S1 n y m p (k + 1)) := by rw [← hI.2, show u - k = (u - (k + 1)) + 1 from by omega, rF, if_pos (by rw [wV, ← hI.1, ← e5]; assumption)]
                                    have hs : sW Sx n x5 (Sx.1 0) p m (Sx.2 14 y.toNatClampNeg) = wSt S1 n y m p (k + 1) := by rw [hI.1, e5]; rfl
                                    exact J.iret dX12_why_304 rfl (fin _ _ _ ⟨by rw [r_why, ← hS1, e5]; simp [why1, c1, Int32.not_lt.mpr c1, c2, Int32.not_lt.mpr c2, c3, Int32.not_lt.mpr c3, c4, Int32.not_lt.mpr c4, c5, Int32.not_lt.mp c5, c6, Int32.not_lt.mpr c6, c7, Int32.not_lt.mpr c7, c8, Int32.not_lt.mpr c8, c9, Int32.not_lt.mpr c9, c10, Int32.not_le.mp c10, c11, hx3, hx8, hx], by rw [s_why, ← hS1, hs]; simp [why1, c1, Int32.not_lt.mpr c1, c2, Int32.not_lt.mpr c2, c3, Int32.not_lt.mpr c3, c4, Int32.not_lt.mpr c4, c5, Int32.not_lt.mp c5, c6, Int32.not_lt.mpr c6, c7, Int32.not_lt.mpr c7, c8, Int32.not_lt.mpr c8, c9, Int32.not_lt.mpr c9, c10, Int32.not_le.mp c10, c11, hx3, hx8, hx]⟩ hM hF)
                            exact loop269 (u + 1) 0  _ (Nat.zero_le _) (by omega) rfl _ ⟨rfl, rfl⟩ _ hM hF
                          · skip
                            have hk : k < n := Nat.lt_of_not_le (fun z => c9 (by rw [hN1, e5]; exact nI_le z (by omega)))
                            have hin : vp_in x5 80 := by rw [e5]; exact vp_in_nI (by omega) (by decide)
                            refine J.aload_n 208 dX12_why_207 rfl rfl ?_
                            refine mg_71 hM rfl 211 dX12_why_208 rfl ?_
                            refine J.iload 213 dX12_why_211 rfl rfl ?_
                            refine ml_ia hM k q5 (x := S1.2 23 k) rfl rfl rfl (by assumption) 214 dX12_why_213 rfl ?_
                            refine J.iconst 1 215 dX12_why_214 rfl (by decide) ?_
                            refine J.icmp_ne 260 218 dX12_why_215 (by decide) rfl (fun c12 => ?_) (fun c12 => ?_)
                            · skip
                              refine J.iinc_5 1 263 dX12_why_260 rfl (by decide) (by decide) ?_
                              refine J.goto 198 dX12_why_263 (by decide) ?_
                              exact ih (k + 1)  _ (by omega) (by omega) (by rw [e5]; exact nI_1 k) (by rw [exN, hI]; simp [p8, c1, c2, c3, c4, c5, c6, c7, c8, c9, c12]) _ hM hF
                            · skip
                              refine J.aload_n 219 dX12_why_218 rfl rfl ?_
                              refine mg_74 hM rfl 222 dX12_why_219 rfl ?_
                              refine J.iload 224 dX12_why_222 rfl rfl ?_
                              refine ml_ia hM k q5 (x := S1.2 24 k) rfl rfl rfl (by assumption) 225 dX12_why_224 rfl ?_
                              refine J.iload_n 226 dX12_why_225 rfl rfl ?_
                              refine J.icmp_ne 260 229 dX12_why_226 (by decide) rfl (fun c13 => ?_) (fun c13 => ?_)
                              · skip
                                refine J.iinc_5 1 263 dX12_why_260 rfl (by decide) (by decide) ?_
                                refine J.goto 198 dX12_why_263 (by decide) ?_
                                exact ih (k + 1)  _ (by omega) (by omega) (by rw [e5]; exact nI_1 k) (by rw [exN, hI]; simp [p8, c1, c2, c3, c4, c5, c6, c7, c8, c9, c12, c13]) _ hM hF
                              · skip
                                refine J.aload_n 230 dX12_why_229 rfl rfl ?_
                                refine mg_62 hM rfl 233 dX12_why_230 rfl ?_
                                refine J.iload 235 dX12_why_233 rfl rfl ?_
                                refine ml_ia hM k q5 (x := S1.2 20 k) rfl rfl rfl (by assumption) 236 dX12_why_235 rfl ?_
                                refine J.iconst 2 237 dX12_why_236 rfl (by decide) ?_
                                refine J.icmp_ne 260 240 dX12_why_237 (by decide) rfl (fun c14 => ?_) (fun c14 => ?_)
                                · skip
                                  refine J.iinc_5 1 263 dX12_why_260 rfl (by decide) (by decide) ?_
                                  refine J.goto 198 dX12_why_263 (by decide) ?_
                                  exact ih (k + 1)  _ (by omega) (by omega) (by rw [e5]; exact nI_1 k) (by rw [exN, hI]; simp [p8, c1, c2, c3, c4, c5, c6, c7, c8, c9, c12, c13, c14]) _ hM hF
                                · skip
                                  refine J.aload_n 241 dX12_why_240 rfl rfl ?_
                                  refine mg_237 hM (x := S1.1 46) rfl rfl 244 dX12_why_241 rfl ?_
                                  refine J.aload_n 245 dX12_why_244 rfl rfl ?_
                                  refine mg_65 hM rfl 248 dX12_why_245 rfl ?_
                                  refine J.iload 250 dX12_why_248 rfl rfl ?_
                                  refine ml_ia hM k q5 (x := S1.2 21 k) rfl rfl rfl (by assumption) 251 dX12_why_250 rfl ?_
                                  refine J.isub 252 dX12_why_251 rfl ?_
                                  refine J.bipush 90 254 dX12_why_252 rfl (by decide) ?_
                                  refine J.icmp_le 260 257 dX12_why_254 (by decide) rfl (fun c15 => ?_) (fun c15 => ?_)
                                  · skip
                                    refine J.iinc_5 1 263 dX12_why_260 rfl (by decide) (by decide) ?_
                                    refine J.goto 198 dX12_why_263 (by decide) ?_
                                    exact ih (k + 1)  _ (by omega) (by omega) (by rw [e5]; exact nI_1 k) (by rw [exN, hI]; simp [p8, c1, c2, c3, c4, c5, c6, c7, c8, c9, c12, c13, c14, c15]) _ hM hF
                                  · skip
                                    refine J.bipush 8 259 dX12_why_257 rfl (by decide) ?_
                                    have hx : exN (p8 S1 m) n = true := exN_of hk (by simp [p8, c1, c2, c3, c4, c5, c6, c7, c8, c9, c12, c13, c14, c15, c1, Int32.not_lt.mpr c1, c2, Int32.not_lt.mpr c2, c3, Int32.not_lt.mpr c3, c4, Int32.not_lt.mpr c4, c5, Int32.not_lt.mp c5, c6, Int32.not_lt.mpr c6, c7, Int32.not_lt.mpr c7, c8, Int32.not_lt.mpr c8, c9, Int32.not_le.mp c9, c12, c13, c14, c15, Int32.not_le.mp c15])
                                    exact J.iret dX12_why_259 rfl (fin _ _ _ ⟨by rw [r_why, ← hS1]; simp [why1, c1, Int32.not_lt.mpr c1, c2, Int32.not_lt.mpr c2, c3, Int32.not_lt.mpr c3, c4, Int32.not_lt.mpr c4, c5, Int32.not_lt.mp c5, c6, Int32.not_lt.mpr c6, c7, Int32.not_lt.mpr c7, c8, Int32.not_lt.mpr c8, c9, Int32.not_le.mp c9, c12, c13, c14, c15, Int32.not_le.mp c15, hx3, hx], by rw [s_why, ← hS1]; simp [why1, c1, Int32.not_lt.mpr c1, c2, Int32.not_lt.mpr c2, c3, Int32.not_lt.mpr c3, c4, Int32.not_lt.mpr c4, c5, Int32.not_lt.mp c5, c6, Int32.not_lt.mpr c6, c7, Int32.not_lt.mpr c7, c8, Int32.not_lt.mpr c8, c9, Int32.not_le.mp c9, c12, c13, c14, c15, Int32.not_le.mp c15, hx3, hx]⟩ hM hF)
                      exact loop198 (n + 1) 0  _ (Nat.zero_le _) (by omega) rfl rfl _ hM hF
                    · skip
                      refine J.bipush 7 194 dX12_why_192 rfl (by decide) ?_
                      exact J.iret dX12_why_194 rfl (fin _ _ _ ⟨by rw [r_why, ← hS1]; simp [why1, c1, Int32.not_lt.mpr c1, c2, Int32.not_lt.mpr c2, c3, Int32.not_lt.mpr c3, c4, Int32.not_lt.mpr c4, c5, Int32.not_lt.mp c5, c6, Int32.not_lt.mpr c6, c7, Int32.not_lt.mpr c7, c8, Int32.not_le.mp c8, hx3], by rw [s_why, ← hS1]; simp [why1, c1, Int32.not_lt.mpr c1, c2, Int32.not_lt.mpr c2, c3, Int32.not_lt.mpr c3, c4, Int32.not_lt.mpr c4, c5, Int32.not_lt.mp c5, c6, Int32.not_lt.mpr c6, c7, Int32.not_lt.mpr c7, c8, Int32.not_le.mp c8, hx3]⟩ hM hF)
                  · skip
                    refine J.bipush 6 166 dX12_why_164 rfl (by decide) ?_
                    exact J.iret dX12_why_166 rfl (fin _ _ _ ⟨by rw [r_why, ← hS1]; simp [why1, c1, Int32.not_lt.mpr c1, c2, Int32.not_lt.mpr c2, c3, Int32.not_lt.mpr c3, c4, Int32.not_lt.mpr c4, c5, Int32.not_lt.mp c5, c6, Int32.not_lt.mpr c6, c7, Int32.not_le.mp c7, hx3], by rw [s_why, ← hS1]; simp [why1, c1, Int32.not_lt.mpr c1, c2, Int32.not_lt.mpr c2, c3, Int32.not_lt.mpr c3, c4, Int32.not_lt.mpr c4, c5, Int32.not_lt.mp c5, c6, Int32.not_lt.mpr c6, c7, Int32.not_le.mp c7, hx3]⟩ hM hF)
                · skip
                  refine J.iconst 5 147 dX12_why_146 rfl (by decide) ?_
                  exact J.iret dX12_why_147 rfl (fin _ _ _ ⟨by rw [r_why, ← hS1]; simp [why1, c1, Int32.not_lt.mpr c1, c2, Int32.not_lt.mpr c2, c3, Int32.not_lt.mpr c3, c4, Int32.not_lt.mpr c4, c5, Int32.not_lt.mp c5, c6, Int32.not_le.mp c6, hx3], by rw [s_why, ← hS1]; simp [why1, c1, Int32.not_lt.mpr c1, c2, Int32.not_lt.mpr c2, c3, Int32.not_lt.mpr c3, c4, Int32.not_lt.mpr c4, c5, Int32.not_lt.mp c5, c6, Int32.not_le.mp c6, hx3]⟩ hM hF)
            · skip
              refine J.iconst 4 100 dX12_why_99 rfl (by decide) ?_
              exact J.iret dX12_why_100 rfl (fin _ _ _ ⟨by rw [r_why, ← hS1]; simp [why1, c1, Int32.not_lt.mpr c1, c2, Int32.not_lt.mpr c2, c3, Int32.not_lt.mpr c3, c4, Int32.not_le.mp c4, hx3], by rw [s_why, ← hS1]; simp [why1, c1, Int32.not_lt.mpr c1, c2, Int32.not_lt.mpr c2, c3, Int32.not_lt.mpr c3, c4, Int32.not_le.mp c4, hx3]⟩ hM hF)
          · skip
            have hk : k < n := Nat.lt_of_not_le (fun z => c3 (by rw [hN1, e4]; exact nI_le z (by omega)))
            have hin : vp_in x4 80 := by rw [e4]; exact vp_in_nI (by omega) (by decide)
            refine J.aload_n 49 dX12_why_48 rfl rfl ?_
            refine mg_71 hM rfl 52 dX12_why_49 rfl ?_
            refine J.iload 54 dX12_why_52 rfl rfl ?_
            refine ml_ia hM k q4 (x := S1.2 23 k) rfl rfl rfl (by assumption) 55 dX12_why_54 rfl ?_
            refine J.iconst 1 56 dX12_why_55 rfl (by decide) ?_
            refine J.icmp_ne 83 59 dX12_why_56 (by decide) rfl (fun c16 => ?_) (fun c16 => ?_)
            · skip
              refine J.iinc_4 1 86 dX12_why_83 rfl (by decide) (by decide) ?_
              refine J.goto 39 dX12_why_86 (by decide) ?_
              exact ih (k + 1)  _ (by omega) (by omega) (by rw [e4]; exact nI_1 k) (by rw [exN, hI]; simp [p3, c1, c2, c3, c16]) _ hM hF
            · skip
              refine J.aload_n 60 dX12_why_59 rfl rfl ?_
              refine mg_74 hM rfl 63 dX12_why_60 rfl ?_
              refine J.iload 65 dX12_why_63 rfl rfl ?_
              refine ml_ia hM k q4 (x := S1.2 24 k) rfl rfl rfl (by assumption) 66 dX12_why_65 rfl ?_
              refine J.iload_n 67 dX12_why_66 rfl rfl ?_
              refine J.icmp_ne 83 70 dX12_why_67 (by decide) rfl (fun c17 => ?_) (fun c17 => ?_)
              · skip
                refine J.iinc_4 1 86 dX12_why_83 rfl (by decide) (by decide) ?_
                refine J.goto 39 dX12_why_86 (by decide) ?_
                exact ih (k + 1)  _ (by omega) (by omega) (by rw [e4]; exact nI_1 k) (by rw [exN, hI]; simp [p3, c1, c2, c3, c16, c17]) _ hM hF
              · skip
                refine J.aload_n 71 dX12_why_70 rfl rfl ?_
                refine mg_53 hM rfl 74 dX12_why_71 rfl ?_
                refine J.iload 76 dX12_why_74 rfl rfl ?_
                refine ml_ia hM k q4 (x := S1.2 17 k) rfl rfl rfl (by assumption) 77 dX12_why_76 rfl ?_
                refine J.iload_n 78 dX12_why_77 rfl rfl ?_
                refine J.icmp_eq 83 81 dX12_why_78 (by decide) rfl (fun c18 => ?_) (fun c18 => ?_)
                · skip
                  refine J.iinc_4 1 86 dX12_why_83 rfl (by decide) (by decide) ?_
                  refine J.goto 39 dX12_why_86 (by decide) ?_
                  exact ih (k + 1)  _ (by omega) (by omega) (by rw [e4]; exact nI_1 k) (by rw [exN, hI]; simp [p3, c1, c2, c3, c16, c17, c18]) _ hM hF
                · skip
                  refine J.iconst 3 82 dX12_why_81 rfl (by decide) ?_
                  have hx : exN (p3 S1 m p) n = true := exN_of hk (by simp [p3, c1, c2, c3, c16, c17, c18])
                  exact J.iret dX12_why_82 rfl (fin _ _ _ ⟨by rw [r_why, ← hS1]; simp [why1, c1, Int32.not_lt.mpr c1, c2, Int32.not_lt.mpr c2, c3, Int32.not_le.mp c3, c16, c17, c18, hx], by rw [s_why, ← hS1]; simp [why1, c1, Int32.not_lt.mpr c1, c2, Int32.not_lt.mpr c2, c3, Int32.not_le.mp c3, c16, c17, c18, hx]⟩ hM hF)
      exact loop39 (n + 1) 0  _ (Nat.zero_le _) (by omega) rfl rfl _ hM hF
    · skip
      refine J.iconst 2 35 dX12_why_34 rfl (by decide) ?_
      exact J.iret dX12_why_35 rfl (fin _ _ _ ⟨by rw [r_why, ← hS1]; simp [why1, c1, Int32.not_lt.mpr c1, c2, Int32.not_le.mp c2], by rw [s_why, ← hS1]; simp [why1, c1, Int32.not_lt.mpr c1, c2, Int32.not_le.mp c2]⟩ hM hF)
  · skip
    refine J.iconst 1 20 dX12_why_19 rfl (by decide) ?_
    exact J.iret dX12_why_20 rfl (fin _ _ _ ⟨by rw [r_why, ← hS1]; simp [why1, c1, Int32.not_le.mp c1], by rw [s_why, ← hS1]; simp [why1, c1, Int32.not_le.mp c1]⟩ hM hF)
