def s_find0 (S : MS) (n : Nat) (m p : Int32) : MS := (vf_upd (vf_upd S.1 46 (S.1 0 + r_wayOf S n m p)) 47 (S.1 0 + r_wayOf S n m p + 2 + r_wayOf S n m p), S.2)
def fB (Sx : MS) (x4 x5 m p : Int32) (k : Nat) : Int32 := if 720 < (Sx.1 47) then 0 else (if (Sx.2 20 k) = 4 then (if (Sx.2 17 k) = p then (if (Sx.2 23 k) = 0 then (if (Sx.1 46) < (Sx.2 21 k) then 0 else (if (r_liftOf Sx m p (m_hour (Sx.1 46))) < (x4 + (Sx.2 18 k)) then 0 else (if 9 < (x5 + (Sx.2 19 k)) then 0 else 1))) else 0) else 0) else 0)
def fN (T : MS) (m p : Int32) : Nat → MS × Int32 × Int32
  | 0 => (T, 0, 0)
  | k + 1 => (((fN T m p k).1.1, u2 (fN T m p k).1.2 49 k (fB (fN T m p k).1 (fN T m p k).2.1 (fN T m p k).2.2 m p k)), (fN T m p k).2.1 + (if (upd ((fN T m p k).1.2 49) k ((fB (fN T m p k).1 (fN T m p k).2.1 (fN T m p k).2.2 m p k)) k) = 0 then 0 else ((fN T m p k).1.2 18 k)), (fN T m p k).2.2 + (if (upd ((fN T m p k).1.2 49) k ((fB (fN T m p k).1 (fN T m p k).2.1 (fN T m p k).2.2 m p k)) k) = 0 then 0 else ((fN T m p k).1.2 19 k)))
theorem fN_1 (T : MS) (m p : Int32) : ∀ k, (fN T m p k).1.1 = T.1
  | 0 => rfl
  | k + 1 => fN_1 T m p k
def s_find (S : MS) (n : Nat) (m p : Int32) : MS := (vf_upd (fN (s_find0 S n m p) m p n).1.1 48 (r_wayOf S n m p * (2 + r_hangN (fN (s_find0 S n m p) m p n).1 m 108 n / 20) + r_wayOf S n m p * (2 + (fN (s_find0 S n m p) m p n).2.1 / 20)), (fN (s_find0 S n m p) m p n).1.2)
theorem k_find {S : MS} {m : Int32} {p : Int32} {d : Nat} {n : Nat} (hN : S.1 28 = nI n) (hn : n ≤ 80) (hm : vp_in m 4) (hp : vp_in p 12) (hH : vp_in (m_hour (S.1 0 + r_wayOf S n m p)) 12) : CM Y_X12_find (d + 2) [.int m, .int p] S (fun r S2 => r = none ∧ S2 = s_find S n m p) := by
  refine CM.of 4 rfl (fun _ => Nat.le_of_ble_eq_true rfl) (by simp [Value.category]) ?_
  intro G m0 ad h0 h post hM hF fin
  show J Y_X12_find (d + 2) G 0 0 0 [some (.ref m0), some (.int m), some (.int p), none, none, none, none] [] h post
  refine J.aload_n 1 dX12_find_0 rfl rfl ?_
  refine J.iload_n 2 dX12_find_1 rfl rfl ?_
  refine J.iload_n 3 dX12_find_2 rfl rfl ?_
  refine mc_234 hM hF (k_wayOf (S := S) (m := m) (p := p) hN hn (by first | assumption | (unfold vp_in; decide))) rfl 6 dX12_find_3 rfl rfl rfl (Nat.le_of_ble_eq_true rfl) (fun r S2 hp h hM hF => ?_)
  obtain ⟨rfl, hp⟩ := hp
  replace hp := hp.symm
  subst hp
  refine J.ist_3 7 dX12_find_6 rfl (by decide) ?_
  refine J.aload_n 8 dX12_find_7 rfl rfl ?_
  refine J.aload_n 9 dX12_find_8 rfl rfl ?_
  refine mg_221 hM (x := S.1 0) rfl rfl 12 dX12_find_9 rfl ?_
  refine J.iload_n 13 dX12_find_12 rfl rfl ?_
  refine J.iadd 14 dX12_find_13 rfl ?_
  refine mp_237 hM hF rfl 17 dX12_find_14 rfl (fun h hM hF => ?_)
  refine J.aload_n 18 dX12_find_17 rfl rfl ?_
  refine J.aload_n 19 dX12_find_18 rfl rfl ?_
  refine mg_237 hM (x := (S.1 0) + (r_wayOf S n m p)) rfl rfl 22 dX12_find_19 rfl ?_
  refine J.iconst 2 23 dX12_find_22 rfl (by decide) ?_
  refine J.iadd 24 dX12_find_23 rfl ?_
  refine J.iload_n 25 dX12_find_24 rfl rfl ?_
  refine J.iadd 26 dX12_find_25 rfl ?_
  refine mp_240 hM hF rfl 29 dX12_find_26 rfl (fun h hM hF => ?_)
  refine J.iconst 0 30 dX12_find_29 rfl (by decide) ?_
  refine J.ist_4 32 dX12_find_30 rfl (by decide) ?_
  refine J.iconst 0 33 dX12_find_32 rfl (by decide) ?_
  refine J.ist_5 35 dX12_find_33 rfl (by decide) ?_
  refine J.iconst 0 36 dX12_find_35 rfl (by decide) ?_
  refine J.ist_6 38 dX12_find_36 rfl (by decide) ?_
  have loop38 : ∀ (j k : Nat) (x4 x5 x6 : Int32), k ≤ n → n + 1 ≤ k + j → x4 = (fN (s_find0 S n m p) m p k).2.1 → x5 = (fN (s_find0 S n m p) m p k).2.2 → x6 = nI k → ∀ Sx : MS, Sx = (fN (s_find0 S n m p) m p k).1 → ∀ h, MR m0 ad Sx h → MF m0 ad h0 h → J Y_X12_find (d + 2) G 0 0 38 [some (.ref m0), some (.int m), some (.int p), some (.int (r_wayOf S n m p)), some (.int x4), some (.int x5), some (.int x6)] [] h post := by
    intro j
    induction j with
    | zero => intro k _ _ _ g1 g2; exact absurd g2 (by omega)
    | succ j ih =>
      intro k x4 x5 x6 g1 g2 e4 e5 e6 Sx eSx h hM hF
      have q6 : x6.toNatClampNeg = k := by rw [e6]; exact nI_clamp (by omega)
      have hx1 : Sx.1 = (s_find0 S n m p).1 := by rw [eSx]; exact fN_1 (s_find0 S n m p) m p k
      have hNx : Sx.1 28 = nI n := by rw [hx1]; exact hN
      have hhx : vp_in (m_hour (Sx.1 46)) 12 := by rw [hx1]; exact hH
      refine J.iload 40 dX12_find_38 rfl rfl ?_
      refine J.aload_n 41 dX12_find_40 rfl rfl ?_
      refine mg_163 hM (x := Sx.1 28) rfl rfl 44 dX12_find_41 rfl ?_
      refine J.icmp_ge 214 47 dX12_find_44 (by decide) rfl (fun c1 => ?_) (fun c1 => ?_)
      · skip
        have hk : k = n := Nat.le_antisymm g1 ((nI_leI (by omega) (by omega)).mp (by rw [← hNx, ← e6]; exact c1))
        refine J.aload_n 215 dX12_find_214 rfl rfl ?_
        refine J.iload_n 216 dX12_find_215 rfl rfl ?_
        refine J.iconst 2 217 dX12_find_216 rfl (by decide) ?_
        refine J.aload_n 218 dX12_find_217 rfl rfl ?_
        refine J.iload_n 219 dX12_find_218 rfl rfl ?_
        refine J.bipush 108 221 dX12_find_219 rfl (by decide) ?_
        refine mc_211 hM hF (k_ofHanging (S := Sx) (m := m) (c := 108) hNx hn) rfl 224 dX12_find_221 rfl rfl rfl (Nat.le_of_ble_eq_true rfl) (fun r S2 hp h hM hF => ?_)
        obtain ⟨rfl, hp⟩ := hp
        replace hp := hp.symm
        subst hp
        refine J.bipush 20 226 dX12_find_224 rfl (by decide) ?_
        refine J.idiv 227 dX12_find_226 rfl (by decide) ?_
        refine J.iadd 228 dX12_find_227 rfl ?_
        refine J.imul 229 dX12_find_228 rfl ?_
        refine J.iload_n 230 dX12_find_229 rfl rfl ?_
        refine J.iconst 2 231 dX12_find_230 rfl (by decide) ?_
        refine J.iload 233 dX12_find_231 rfl rfl ?_
        refine J.bipush 20 235 dX12_find_233 rfl (by decide) ?_
        refine J.idiv 236 dX12_find_235 rfl (by decide) ?_
        refine J.iadd 237 dX12_find_236 rfl ?_
        refine J.imul 238 dX12_find_237 rfl ?_
        refine J.iadd 239 dX12_find_238 rfl ?_
        refine mp_246 hM hF rfl 242 dX12_find_239 rfl (fun h hM hF => ?_)
        exact J.vret dX12_find_242 rfl (fin _ _ _ ⟨rfl, by rw [e4, eSx, hk]; rfl⟩ hM hF)
      · skip
        have hk : k < n := Nat.lt_of_not_le (fun z => c1 (by rw [hNx, e6]; exact nI_le z (by omega)))
        have hin : vp_in x6 80 := by rw [e6]; exact vp_in_nI (by omega) (by decide)
        refine J.aload_n 48 dX12_find_47 rfl rfl ?_
        refine mg_125 hM rfl 51 dX12_find_48 rfl ?_
        refine J.iload 53 dX12_find_51 rfl rfl ?_
        refine J.aload_n 54 dX12_find_53 rfl rfl ?_
        refine mg_240 hM (x := Sx.1 47) rfl rfl 57 dX12_find_54 rfl ?_
        refine J.sipush 720 60 dX12_find_57 rfl (by decide) ?_
        have K1 : ∀ (v1_0 : Int32), v1_0 = (if 720 < (Sx.1 47) then 0 else (if (Sx.2 20 k) = 4 then (if (Sx.2 17 k) = p then (if (Sx.2 23 k) = 0 then (if (Sx.1 46) < (Sx.2 21 k) then 0 else (if (r_liftOf Sx m p (m_hour (Sx.1 46))) < (x4 + (Sx.2 18 k)) then 0 else (if 9 < (x5 + (Sx.2 19 k)) then 0 else 1))) else 0) else 0) else 0)) → ∀ h, MR m0 ad Sx h → MF m0 ad h0 h → J Y_X12_find (d + 2) G 0 0 155 [some (.ref m0), some (.int m), some (.int p), some (.int (r_wayOf S n m p)), some (.int x4), some (.int x5), some (.int x6)] [.int v1_0, .int x6, .ref (ad 49)] h post := by
          intro v1_0 ev1_0 h hM hF
          refine ml_zs hM hF k q6 (by rw [ev1_0]; (repeat' split) <;> simp) rfl rfl (by assumption) 156 dX12_find_155 rfl (fun h hM hF => ?_)
          refine J.iload 158 dX12_find_156 rfl rfl ?_
          refine J.aload_n 159 dX12_find_158 rfl rfl ?_
          refine mg_125 hM rfl 162 dX12_find_159 rfl ?_
          refine J.iload 164 dX12_find_162 rfl rfl ?_
          refine ml_za hM k q6 (x := upd (Sx.2 49) k (v1_0) k) rfl rfl rfl (by assumption) 165 dX12_find_164 rfl ?_
          have K2 : ∀ (v2_0 : Int32), v2_0 = (if (upd (Sx.2 49) k (v1_0) k) = 0 then 0 else (Sx.2 18 k)) → ∀ h, MR m0 ad (Sx.1, u2 Sx.2 49 k v1_0) h → MF m0 ad h0 h → J Y_X12_find (d + 2) G 0 0 179 [some (.ref m0), some (.int m), some (.int p), some (.int (r_wayOf S n m p)), some (.int x4), some (.int x5), some (.int x6)] [.int v2_0, .int x4] h post := by
            intro v2_0 ev2_0 h hM hF
            refine J.iadd 180 dX12_find_179 rfl ?_
            refine J.ist_4 182 dX12_find_180 rfl (by decide) ?_
            refine J.iload 184 dX12_find_182 rfl rfl ?_
            refine J.aload_n 185 dX12_find_184 rfl rfl ?_
            refine mg_125 hM rfl 188 dX12_find_185 rfl ?_
            refine J.iload 190 dX12_find_188 rfl rfl ?_
            refine ml_za hM k q6 (x := upd (Sx.2 49) k (v1_0) k) rfl rfl rfl (by assumption) 191 dX12_find_190 rfl ?_
            have K3 : ∀ (v3_0 : Int32), v3_0 = (if (upd (Sx.2 49) k (v1_0) k) = 0 then 0 else (Sx.2 19 k)) → ∀ h, MR m0 ad (Sx.1, u2 Sx.2 49 k v1_0) h → MF m0 ad h0 h → J Y_X12_find (d + 2) G 0 0 205 [some (.ref m0), some (.int m), some (.int p), some (.int (r_wayOf S n m p)), some (.int (x4 + v2_0)), some (.int x5), some (.int x6)] [.int v3_0, .int x5] h post := by
              intro v3_0 ev3_0 h hM hF
              refine J.iadd 206 dX12_find_205 rfl ?_
              refine J.ist_5 208 dX12_find_206 rfl (by decide) ?_
              refine J.iinc_6 1 211 dX12_find_208 rfl (by decide) (by decide) ?_
              refine J.goto 38 dX12_find_211 (by decide) ?_
              exact ih (k + 1) _ _ _ (by omega) (by omega) (by rw [ev2_0, ev1_0, e4, e5, eSx]; rfl) (by rw [ev3_0, ev1_0, e4, e5, eSx]; rfl) (by rw [e6]; exact nI_1 k) _ (by rw [ev1_0, e4, e5, eSx]; rfl) _ hM hF
            refine J.if_eq 204 194 dX12_find_191 (by decide) rfl (fun c2 => ?_) (fun c2 => ?_)
            · skip
              refine J.iconst 0 205 dX12_find_204 rfl (by decide) ?_
              exact K3 _ (by first | (simp only [if_neg c1, if_pos c2]; done) | (simp only [if_neg c1, if_pos c2]; rfl) | (simp [c1, Int32.not_le.mp c1, c2]; done)) _ hM hF
            · skip
              refine J.aload_n 195 dX12_find_194 rfl rfl ?_
              refine mg_59 hM rfl 198 dX12_find_195 rfl ?_
              refine J.iload 200 dX12_find_198 rfl rfl ?_
              refine ml_ia hM k q6 (x := Sx.2 19 k) rfl rfl rfl (by assumption) 201 dX12_find_200 rfl ?_
              refine J.goto 205 dX12_find_201 (by decide) ?_
              exact K3 _ (by first | (simp only [if_neg c1, if_neg c2]; done) | (simp only [if_neg c1, if_neg c2]; rfl) | (simp [c1, Int32.not_le.mp c1, c2]; done)) _ hM hF
          refine J.if_eq 178 168 dX12_find_165 (by decide) rfl (fun c3 => ?_) (fun c3 => ?_)
          · skip
            refine J.iconst 0 179 dX12_find_178 rfl (by decide) ?_
            exact K2 _ (by first | (simp only [if_neg c1, if_pos c3]; done) | (simp only [if_neg c1, if_pos c3]; rfl) | (simp [c1, Int32.not_le.mp c1, c3]; done)) _ hM hF
          · skip
            refine J.aload_n 169 dX12_find_168 rfl rfl ?_
            refine mg_56 hM rfl 172 dX12_find_169 rfl ?_
            refine J.iload 174 dX12_find_172 rfl rfl ?_
            refine ml_ia hM k q6 (x := Sx.2 18 k) rfl rfl rfl (by assumption) 175 dX12_find_174 rfl ?_
            refine J.goto 179 dX12_find_175 (by decide) ?_
            exact K2 _ (by first | (simp only [if_neg c1, if_neg c3]; done) | (simp only [if_neg c1, if_neg c3]; rfl) | (simp [c1, Int32.not_le.mp c1, c3]; done)) _ hM hF
        refine J.icmp_gt 154 63 dX12_find_60 (by decide) rfl (fun c4 => ?_) (fun c4 => ?_)
        · skip
          refine J.iconst 0 155 dX12_find_154 rfl (by decide) ?_
          exact K1 _ (by first | (simp only [if_neg c1, if_pos c4]; done) | (simp only [if_neg c1, if_pos c4]; rfl) | (simp [c1, Int32.not_le.mp c1, c4, Int32.not_le.mpr c4]; done)) _ hM hF
        · skip
          refine J.aload_n 64 dX12_find_63 rfl rfl ?_
          refine mg_62 hM rfl 67 dX12_find_64 rfl ?_
          refine J.iload 69 dX12_find_67 rfl rfl ?_
          refine ml_ia hM k q6 (x := Sx.2 20 k) rfl rfl rfl (by assumption) 70 dX12_find_69 rfl ?_
          refine J.iconst 4 71 dX12_find_70 rfl (by decide) ?_
          refine J.icmp_ne 154 74 dX12_find_71 (by decide) rfl (fun c5 => ?_) (fun c5 => ?_)
          · skip
            refine J.iconst 0 155 dX12_find_154 rfl (by decide) ?_
            exact K1 _ (by first | (simp only [if_neg c1, if_neg c4, if_neg c5]; done) | (simp only [if_neg c1, if_neg c4, if_neg c5]; rfl) | (simp [c1, Int32.not_le.mp c1, c4, Int32.not_lt.mp c4, c5]; done)) _ hM hF
          · skip
            refine J.aload_n 75 dX12_find_74 rfl rfl ?_
            refine mg_53 hM rfl 78 dX12_find_75 rfl ?_
            refine J.iload 80 dX12_find_78 rfl rfl ?_
            refine ml_ia hM k q6 (x := Sx.2 17 k) rfl rfl rfl (by assumption) 81 dX12_find_80 rfl ?_
            refine J.iload_n 82 dX12_find_81 rfl rfl ?_
            refine J.icmp_ne 154 85 dX12_find_82 (by decide) rfl (fun c6 => ?_) (fun c6 => ?_)
            · skip
              refine J.iconst 0 155 dX12_find_154 rfl (by decide) ?_
              exact K1 _ (by first | (simp only [if_neg c1, if_neg c4, if_pos c5, if_neg c6]; done) | (simp only [if_neg c1, if_neg c4, if_pos c5, if_neg c6]; rfl) | (simp [c1, Int32.not_le.mp c1, c4, Int32.not_lt.mp c4, c5, c6]; done)) _ hM hF
            · skip
              refine J.aload_n 86 dX12_find_85 rfl rfl ?_
              refine mg_71 hM rfl 89 dX12_find_86 rfl ?_
              refine J.iload 91 dX12_find_89 rfl rfl ?_
              refine ml_ia hM k q6 (x := Sx.2 23 k) rfl rfl rfl (by assumption) 92 dX12_find_91 rfl ?_
              refine J.if_ne 154 95 dX12_find_92 (by decide) rfl (fun c7 => ?_) (fun c7 => ?_)
              · skip
                refine J.iconst 0 155 dX12_find_154 rfl (by decide) ?_
                exact K1 _ (by first | (simp only [if_neg c1, if_neg c4, if_pos c5, if_pos c6, if_neg c7]; done) | (simp only [if_neg c1, if_neg c4, if_pos c5, if_pos c6, if_neg c7]; rfl) | (simp [c1, Int32.not_le.mp c1, c4, Int32.not_lt.mp c4, c5, c6, c7]; done)) _ hM hF
              · skip
                refine J.aload_n 96 dX12_find_95 rfl rfl ?_
                refine mg_65 hM rfl 99 dX12_find_96 rfl ?_
                refine J.iload 101 dX12_find_99 rfl rfl ?_
                refine ml_ia hM k q6 (x := Sx.2 21 k) rfl rfl rfl (by assumption) 102 dX12_find_101 rfl ?_
                refine J.aload_n 103 dX12_find_102 rfl rfl ?_
                refine mg_237 hM (x := Sx.1 46) rfl rfl 106 dX12_find_103 rfl ?_
                refine J.icmp_gt 154 109 dX12_find_106 (by decide) rfl (fun c8 => ?_) (fun c8 => ?_)
                · skip
                  refine J.iconst 0 155 dX12_find_154 rfl (by decide) ?_
                  exact K1 _ (by first | (simp only [if_neg c1, if_neg c4, if_pos c5, if_pos c6, if_pos c7, if_pos c8]; done) | (simp only [if_neg c1, if_neg c4, if_pos c5, if_pos c6, if_pos c7, if_pos c8]; rfl) | (simp [c1, Int32.not_le.mp c1, c4, Int32.not_lt.mp c4, c5, c6, c7, c8, Int32.not_le.mpr c8]; done)) _ hM hF
                · skip
                  refine J.iload 111 dX12_find_109 rfl rfl ?_
                  refine J.aload_n 112 dX12_find_111 rfl rfl ?_
                  refine mg_56 hM rfl 115 dX12_find_112 rfl ?_
                  refine J.iload 117 dX12_find_115 rfl rfl ?_
                  refine ml_ia hM k q6 (x := Sx.2 18 k) rfl rfl rfl (by assumption) 118 dX12_find_117 rfl ?_
                  refine J.iadd 119 dX12_find_118 rfl ?_
                  refine J.aload_n 120 dX12_find_119 rfl rfl ?_
                  refine J.iload_n 121 dX12_find_120 rfl rfl ?_
                  refine J.iload_n 122 dX12_find_121 rfl rfl ?_
                  refine J.aload_n 123 dX12_find_122 rfl rfl ?_
                  refine mg_237 hM (x := Sx.1 46) rfl rfl 126 dX12_find_123 rfl ?_
                  refine mc_207 (k_hourOf (m := Sx.1 46)) rfl 129 dX12_find_126 rfl rfl rfl (Nat.le_of_ble_eq_true rfl) ?_
                  refine mc_243 hM hF (k_liftOf (S := Sx) (m := m) (p := p) (x := m_hour (Sx.1 46)) (by first | assumption | (unfold vp_in; decide)) (by first | assumption | (unfold vp_in; decide)) (by first | assumption | (unfold vp_in; decide))) rfl 132 dX12_find_129 rfl rfl rfl (Nat.le_of_ble_eq_true rfl) (fun r S2 hp h hM hF => ?_)
                  obtain ⟨rfl, hp⟩ := hp
                  replace hp := hp.symm
                  subst hp
                  refine J.icmp_gt 154 135 dX12_find_132 (by decide) rfl (fun c9 => ?_) (fun c9 => ?_)
                  · skip
                    refine J.iconst 0 155 dX12_find_154 rfl (by decide) ?_
                    exact K1 _ (by first | (simp only [if_neg c1, if_neg c4, if_pos c5, if_pos c6, if_pos c7, if_neg c8, if_pos c9]; done) | (simp only [if_neg c1, if_neg c4, if_pos c5, if_pos c6, if_pos c7, if_neg c8, if_pos c9]; rfl) | (simp [c1, Int32.not_le.mp c1, c4, Int32.not_lt.mp c4, c5, c6, c7, c8, Int32.not_lt.mp c8, c9, Int32.not_le.mpr c9]; done)) _ hM hF
                  · skip
                    refine J.iload 137 dX12_find_135 rfl rfl ?_
                    refine J.aload_n 138 dX12_find_137 rfl rfl ?_
                    refine mg_59 hM rfl 141 dX12_find_138 rfl ?_
                    refine J.iload 143 dX12_find_141 rfl rfl ?_
                    refine ml_ia hM k q6 (x := Sx.2 19 k) rfl rfl rfl (by assumption) 144 dX12_find_143 rfl ?_
                    refine J.iadd 145 dX12_find_144 rfl ?_
                    refine J.bipush 9 147 dX12_find_145 rfl (by decide) ?_
                    refine J.icmp_gt 154 150 dX12_find_147 (by decide) rfl (fun c10 => ?_) (fun c10 => ?_)
                    · skip
                      refine J.iconst 0 155 dX12_find_154 rfl (by decide) ?_
                      exact K1 _ (by first | (simp only [if_neg c1, if_neg c4, if_pos c5, if_pos c6, if_pos c7, if_neg c8, if_neg c9, if_pos c10]; done) | (simp only [if_neg c1, if_neg c4, if_pos c5, if_pos c6, if_pos c7, if_neg c8, if_neg c9, if_pos c10]; rfl) | (simp [c1, Int32.not_le.mp c1, c4, Int32.not_lt.mp c4, c5, c6, c7, c8, Int32.not_lt.mp c8, c9, Int32.not_lt.mp c9, c10, Int32.not_le.mpr c10]; done)) _ hM hF
                    · skip
                      refine J.iconst 1 151 dX12_find_150 rfl (by decide) ?_
                      refine J.goto 155 dX12_find_151 (by decide) ?_
                      exact K1 _ (by first | (simp only [if_neg c1, if_neg c4, if_pos c5, if_pos c6, if_pos c7, if_neg c8, if_neg c9, if_neg c10]; done) | (simp only [if_neg c1, if_neg c4, if_pos c5, if_pos c6, if_pos c7, if_neg c8, if_neg c9, if_neg c10]; rfl) | (simp [c1, Int32.not_le.mp c1, c4, Int32.not_lt.mp c4, c5, c6, c7, c8, Int32.not_lt.mp c8, c9, Int32.not_lt.mp c9, c10, Int32.not_lt.mp c10]; done)) _ hM hF
  exact loop38 (n + 1) 0 _ _ _ (Nat.zero_le _) (by omega) rfl rfl rfl _ rfl _ hM hF
