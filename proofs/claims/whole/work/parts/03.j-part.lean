def r_allN (S : MS) (f : Int32) : Nat → Int32
  | 0 => 0
  | k + 1 => if (S.2 25 k) = f then ((r_allN S f k) + (S.2 18 k)) else (r_allN S f k)
def r_leastN (S : MS) (f : Int32) : Nat → Int32
  | 0 => -1
  | k + 1 => if (S.2 25 k) = f then (if 0 ≤ (r_leastN S f k) then (r_leastN S f k) else (nI k)) else (r_leastN S f k)
def s_partN (S : MS) (f q a : Int32) : Nat → MS
  | 0 => S
  | k + 1 => if (s_partN S f q a k).2 25 k = f then ((s_partN S f q a k).1, u2 (s_partN S f q a k).2 27 k (q * (s_partN S f q a k).2 18 k / a)) else s_partN S f q a k
def r_leftN (S : MS) (f q a : Int32) : Nat → Int32
  | 0 => q
  | k + 1 => if ((s_partN S f q a k).2 25 k) = f then ((r_leftN S f q a k) - (upd ((s_partN S f q a k).2 27) k ((q * ((s_partN S f q a k).2 18 k)) / a) k)) else (r_leftN S f q a k)
theorem s_partN_1 (S : MS) (f q a : Int32) : ∀ k, (s_partN S f q a k).1 = S.1
  | 0 => rfl
  | k + 1 => by
    simp only [s_partN]
    split
    · exact s_partN_1 S f q a k
    · exact s_partN_1 S f q a k
theorem s_partN_25 (S : MS) (f q a : Int32) : ∀ k, (s_partN S f q a k).2 25 = S.2 25
  | 0 => rfl
  | k + 1 => by
    simp only [s_partN]
    split
    · exact s_partN_25 S f q a k
    · exact s_partN_25 S f q a k
def s_part (S : MS) (n : Nat) (f q : Int32) : MS := if r_leastN S f n < 0 then s_partN S f q (r_allN S f n) n else ((s_partN S f q (r_allN S f n) n).1, u2 (s_partN S f q (r_allN S f n) n).2 27 (r_leastN S f n).toNatClampNeg ((s_partN S f q (r_allN S f n) n).2 27 (r_leastN S f n).toNatClampNeg + r_leftN S f q (r_allN S f n) n))
theorem k_part {S : MS} {f : Int32} {q : Int32} {d : Nat} {n : Nat} (hN : S.1 28 = nI n) (hn : n ≤ 80) (hA : ∀ k, k < n → S.2 25 k = f → ¬ r_allN S f n = 0) (hL : ¬ r_leastN S f n < 0 → vp_in (r_leastN S f n) 80) : CM Y_X12_part d [.int f, .int q] S (fun r S2 => r = none ∧ S2 = s_part S n f q) := by
  refine CM.of 4 rfl (fun _ => Nat.le_of_ble_eq_true rfl) (by simp [Value.category]) ?_
  intro G m0 ad h0 h post hM hF fin
  show J Y_X12_part d G 0 0 0 [some (.ref m0), some (.int f), some (.int q), none, none, none, none] [] h post
  refine J.iconst 0 1 dX12_part_0 rfl (by decide) ?_
  refine J.ist_3 2 dX12_part_1 rfl (by decide) ?_
  refine J.iconst (-1) 3 dX12_part_2 rfl (by decide) ?_
  refine J.ist_4 5 dX12_part_3 rfl (by decide) ?_
  refine J.iconst 0 6 dX12_part_5 rfl (by decide) ?_
  refine J.ist_5 8 dX12_part_6 rfl (by decide) ?_
  have loop8 : ∀ (j k : Nat) (x3 x4 x5 : Int32), k ≤ n → n + 1 ≤ k + j → x3 = r_allN S f k → x4 = r_leastN S f k → x5 = nI k → ∀ h, MR m0 ad S h → MF m0 ad h0 h → J Y_X12_part d G 0 0 8 [some (.ref m0), some (.int f), some (.int q), some (.int x3), some (.int x4), some (.int x5), none] [] h post := by
    intro j
    induction j with
    | zero => intro k _ _ _ g1 g2; exact absurd g2 (by omega)
    | succ j ih =>
      intro k x3 x4 x5 g1 g2 e3 e4 e5 h hM hF
      have q5 : x5.toNatClampNeg = k := by rw [e5]; exact nI_clamp (by omega)
      refine J.iload 10 dX12_part_8 rfl rfl ?_
      refine J.aload_n 11 dX12_part_10 rfl rfl ?_
      refine mg_163 hM (x := S.1 28) rfl rfl 14 dX12_part_11 rfl ?_
      refine J.icmp_ge 58 17 dX12_part_14 (by decide) rfl (fun c1 => ?_) (fun c1 => ?_)
      · skip
        have hk : k = n := Nat.le_antisymm g1 ((nI_leI (by omega) (by omega)).mp (by rw [← hN, ← e5]; exact c1))
        have hall : x3 = r_allN S f n := by rw [e3, hk]
        have hleast : x4 = r_leastN S f n := by rw [e4, hk]
        refine J.iload_n 59 dX12_part_58 rfl rfl ?_
        refine J.ist_5 61 dX12_part_59 rfl (by decide) ?_
        refine J.iconst 0 62 dX12_part_61 rfl (by decide) ?_
        refine J.ist_6 64 dX12_part_62 rfl (by decide) ?_
        have loop64 : ∀ (j k : Nat) (x5 x6 : Int32), k ≤ n → n + 1 ≤ k + j → x5 = r_leftN S f q (r_allN S f n) k → x6 = nI k → ∀ Sx : MS, Sx = s_partN S f q (r_allN S f n) k → ∀ h, MR m0 ad Sx h → MF m0 ad h0 h → J Y_X12_part d G 0 0 64 [some (.ref m0), some (.int f), some (.int q), some (.int x3), some (.int x4), some (.int x5), some (.int x6)] [] h post := by
          intro j
          induction j with
          | zero => intro k _ _ g1 g2; exact absurd g2 (by omega)
          | succ j ih =>
            intro k x5 x6 g1 g2 e5 e6 Sx eSx h hM hF
            have q6 : x6.toNatClampNeg = k := by rw [e6]; exact nI_clamp (by omega)
            have hNx : Sx.1 28 = nI n := by rw [eSx, s_partN_1]; exact hN
            have hx25 : Sx.2 25 = S.2 25 := by rw [eSx]; exact s_partN_25 S f q _ k
            refine J.iload 66 dX12_part_64 rfl rfl ?_
            refine J.aload_n 67 dX12_part_66 rfl rfl ?_
            refine mg_163 hM (x := Sx.1 28) rfl rfl 70 dX12_part_67 rfl ?_
            refine J.icmp_ge 120 73 dX12_part_70 (by decide) rfl (fun c2 => ?_) (fun c2 => ?_)
            · skip
              have hk : k = n := Nat.le_antisymm g1 ((nI_leI (by omega) (by omega)).mp (by rw [← hNx, ← e6]; exact c2))
              refine J.iload 122 dX12_part_120 rfl rfl ?_
              refine J.if_lt 137 125 dX12_part_122 (by decide) rfl (fun c3 => ?_) (fun c3 => ?_)
              · skip
                exact J.vret dX12_part_137 rfl (fin _ _ _ ⟨rfl, by rw [eSx, hk]; simp [s_part, ← hleast, c1, Int32.not_lt.mpr c1, c2, Int32.not_lt.mpr c2, c3, Int32.not_le.mpr c3]⟩ hM hF)
              · skip
                refine J.aload_n 126 dX12_part_125 rfl rfl ?_
                refine mg_83 hM rfl 129 dX12_part_126 rfl ?_
                refine J.iload 131 dX12_part_129 rfl rfl ?_
                refine J.dup2 132 dX12_part_131 rfl rfl rfl ?_
                refine ml_ia hM x4.toNatClampNeg rfl rfl rfl rfl (by rw [hleast]; exact hL (by rw [← hleast]; assumption)) 133 dX12_part_132 rfl ?_
                refine J.iload 135 dX12_part_133 rfl rfl ?_
                refine J.iadd 136 dX12_part_135 rfl ?_
                refine ml_is hM hF x4.toNatClampNeg rfl rfl rfl (by rw [hleast]; exact hL (by rw [← hleast]; assumption)) 137 dX12_part_136 rfl (fun h hM hF => ?_)
                exact J.vret dX12_part_137 rfl (fin _ _ _ ⟨rfl, by rw [e5, eSx, hk]; simp [s_part, ← hleast, c1, Int32.not_lt.mpr c1, c2, Int32.not_lt.mpr c2, c3, Int32.not_lt.mp c3]⟩ hM hF)
            · skip
              have hk : k < n := Nat.lt_of_not_le (fun z => c2 (by rw [hNx, e6]; exact nI_le z (by omega)))
              have hin : vp_in x6 80 := by rw [e6]; exact vp_in_nI (by omega) (by decide)
              refine J.aload_n 74 dX12_part_73 rfl rfl ?_
              refine mg_77 hM rfl 77 dX12_part_74 rfl ?_
              refine J.iload 79 dX12_part_77 rfl rfl ?_
              refine ml_ia hM k q6 rfl rfl rfl (by assumption) 80 dX12_part_79 rfl ?_
              refine J.iload_n 81 dX12_part_80 rfl rfl ?_
              have K1 : ∀ (w1_5 : Int32), w1_5 = (if (Sx.2 25 k) = f then (x5 - (upd (Sx.2 27) k ((q * (Sx.2 18 k)) / x3) k)) else x5) → ∀ S1 : MS, S1 = (if (Sx.2 25 k) = f then (Sx.1, u2 Sx.2 27 k ((q * (Sx.2 18 k)) / x3)) else Sx) → ∀ h, MR m0 ad S1 h → MF m0 ad h0 h → J Y_X12_part d G 0 0 114 [some (.ref m0), some (.int f), some (.int q), some (.int x3), some (.int x4), some (.int w1_5), some (.int x6)] [] h post := by
                intro w1_5 ew1_5 S1 eS1 h hM hF
                refine J.iinc_6 1 117 dX12_part_114 rfl (by decide) (by decide) ?_
                refine J.goto 64 dX12_part_117 (by decide) ?_
                exact ih (k + 1) _ _ (by omega) (by omega) (by rw [ew1_5, e5, eSx, hall]; rfl) (by rw [e6]; exact nI_1 k) _ (by rw [eS1, eSx, hall]; rfl) _ hM hF
              refine J.icmp_ne 114 84 dX12_part_81 (by decide) rfl (fun c4 => ?_) (fun c4 => ?_)
              · skip
                exact K1 _ (by first | (simp only [if_pos c1, if_neg c2, if_neg c4]; done) | (simp only [if_pos c1, if_neg c2, if_neg c4]; rfl) | (simp [c1, Int32.not_lt.mpr c1, c2, Int32.not_le.mp c2, c4]; done)) _ (by first | (simp only [if_pos c1, if_neg c2, if_neg c4]; done) | (simp only [if_pos c1, if_neg c2, if_neg c4]; rfl) | (simp [c1, Int32.not_lt.mpr c1, c2, Int32.not_le.mp c2, c4]; done)) _ hM hF
              · skip
                refine J.aload_n 85 dX12_part_84 rfl rfl ?_
                refine mg_83 hM rfl 88 dX12_part_85 rfl ?_
                refine J.iload 90 dX12_part_88 rfl rfl ?_
                refine J.iload_n 91 dX12_part_90 rfl rfl ?_
                refine J.aload_n 92 dX12_part_91 rfl rfl ?_
                refine mg_56 hM rfl 95 dX12_part_92 rfl ?_
                refine J.iload 97 dX12_part_95 rfl rfl ?_
                refine ml_ia hM k q6 rfl rfl rfl (by assumption) 98 dX12_part_97 rfl ?_
                refine J.imul 99 dX12_part_98 rfl ?_
                refine J.iload_n 100 dX12_part_99 rfl rfl ?_
                refine J.idiv 101 dX12_part_100 rfl (by rw [hall]; exact hA k hk (by rw [← hx25]; assumption)) ?_
                refine ml_is hM hF k q6 rfl rfl (by assumption) 102 dX12_part_101 rfl (fun h hM hF => ?_)
                refine J.iload 104 dX12_part_102 rfl rfl ?_
                refine J.aload_n 105 dX12_part_104 rfl rfl ?_
                refine mg_83 hM rfl 108 dX12_part_105 rfl ?_
                refine J.iload 110 dX12_part_108 rfl rfl ?_
                refine ml_ia hM k q6 rfl rfl rfl (by assumption) 111 dX12_part_110 rfl ?_
                refine J.isub 112 dX12_part_111 rfl ?_
                refine J.ist_5 114 dX12_part_112 rfl (by decide) ?_
                exact K1 _ (by first | (simp only [if_pos c1, if_neg c2, if_pos c4]; done) | (simp only [if_pos c1, if_neg c2, if_pos c4]; rfl) | (simp [c1, Int32.not_lt.mpr c1, c2, Int32.not_le.mp c2, c4]; done)) _ (by first | (simp only [if_pos c1, if_neg c2, if_pos c4]; done) | (simp only [if_pos c1, if_neg c2, if_pos c4]; rfl) | (simp [c1, Int32.not_lt.mpr c1, c2, Int32.not_le.mp c2, c4]; done)) _ hM hF
        exact loop64 (n + 1) 0 _ _ (Nat.zero_le _) (by omega) rfl rfl _ rfl _ hM hF
      · skip
        have hk : k < n := Nat.lt_of_not_le (fun z => c1 (by rw [hN, e5]; exact nI_le z (by omega)))
        have hin : vp_in x5 80 := by rw [e5]; exact vp_in_nI (by omega) (by decide)
        refine J.aload_n 18 dX12_part_17 rfl rfl ?_
        refine mg_77 hM rfl 21 dX12_part_18 rfl ?_
        refine J.iload 23 dX12_part_21 rfl rfl ?_
        refine ml_ia hM k q5 rfl rfl rfl (by assumption) 24 dX12_part_23 rfl ?_
        refine J.iload_n 25 dX12_part_24 rfl rfl ?_
        have K2 : ∀ (w2_3 : Int32) (w2_4 : Int32), w2_3 = (if (S.2 25 k) = f then (x3 + (S.2 18 k)) else x3) → w2_4 = (if (S.2 25 k) = f then (if 0 ≤ x4 then x4 else x5) else x4) → ∀ h, MR m0 ad S h → MF m0 ad h0 h → J Y_X12_part d G 0 0 52 [some (.ref m0), some (.int f), some (.int q), some (.int w2_3), some (.int w2_4), some (.int x5), none] [] h post := by
          intro w2_3 w2_4 ew2_3 ew2_4 h hM hF
          refine J.iinc_5 1 55 dX12_part_52 rfl (by decide) (by decide) ?_
          refine J.goto 8 dX12_part_55 (by decide) ?_
          exact ih (k + 1) _ _ _ (by omega) (by omega) (by rw [ew2_3, e3]; (try rw [e5]); rfl) (by rw [ew2_4, e4]; (try rw [e5]); rfl) (by rw [e5]; exact nI_1 k) _ hM hF
        refine J.icmp_ne 52 28 dX12_part_25 (by decide) rfl (fun c5 => ?_) (fun c5 => ?_)
        · skip
          exact K2 _ _ (by first | (simp only [if_neg c1, if_neg c5]; done) | (simp only [if_neg c1, if_neg c5]; rfl) | (simp [c1, Int32.not_le.mp c1, c5]; done)) (by first | (simp only [if_neg c1, if_neg c5]; done) | (simp only [if_neg c1, if_neg c5]; rfl) | (simp [c1, Int32.not_le.mp c1, c5]; done)) _ hM hF
        · skip
          refine J.iload_n 29 dX12_part_28 rfl rfl ?_
          refine J.aload_n 30 dX12_part_29 rfl rfl ?_
          refine mg_56 hM rfl 33 dX12_part_30 rfl ?_
          refine J.iload 35 dX12_part_33 rfl rfl ?_
          refine ml_ia hM k q5 rfl rfl rfl (by assumption) 36 dX12_part_35 rfl ?_
          refine J.iadd 37 dX12_part_36 rfl ?_
          refine J.ist_3 38 dX12_part_37 rfl (by decide) ?_
          refine J.iload 40 dX12_part_38 rfl rfl ?_
          have K3 : ∀ (v3_0 : Int32), v3_0 = (if 0 ≤ x4 then x4 else x5) → ∀ h, MR m0 ad S h → MF m0 ad h0 h → J Y_X12_part d G 0 0 50 [some (.ref m0), some (.int f), some (.int q), some (.int (x3 + (S.2 18 k))), some (.int x4), some (.int x5), none] [.int v3_0] h post := by
            intro v3_0 ev3_0 h hM hF
            refine J.ist_4 52 dX12_part_50 rfl (by decide) ?_
            exact K2 _ _ (by first | (simp only [if_neg c1, if_pos c5, ev3_0]; done) | (simp only [if_neg c1, if_pos c5, ev3_0]; rfl) | (simp [c1, Int32.not_le.mp c1, c5, ev3_0]; done)) (by first | (simp only [if_neg c1, if_pos c5, ev3_0]; done) | (simp only [if_neg c1, if_pos c5, ev3_0]; rfl) | (simp [c1, Int32.not_le.mp c1, c5, ev3_0]; done)) _ hM hF
          refine J.if_ge 48 43 dX12_part_40 (by decide) rfl (fun c6 => ?_) (fun c6 => ?_)
          · skip
            refine J.iload 50 dX12_part_48 rfl rfl ?_
            exact K3 _ (by first | (simp only [if_neg c1, if_pos c5, if_pos c6]; done) | (simp only [if_neg c1, if_pos c5, if_pos c6]; rfl) | (simp [c1, Int32.not_le.mp c1, c5, c6, Int32.not_lt.mpr c6]; done)) _ hM hF
          · skip
            refine J.iload 45 dX12_part_43 rfl rfl ?_
            refine J.goto 50 dX12_part_45 (by decide) ?_
            exact K3 _ (by first | (simp only [if_neg c1, if_pos c5, if_neg c6]; done) | (simp only [if_neg c1, if_pos c5, if_neg c6]; rfl) | (simp [c1, Int32.not_le.mp c1, c5, c6, Int32.not_le.mp c6]; done)) _ hM hF
  exact loop8 (n + 1) 0 _ _ _ (Nat.zero_le _) (by omega) rfl rfl rfl _ hM hF
