def r_lift (S : MS) (m p x : Int32) : Int32 := if (0 ≤ m ∧ m < S.1 11) ∧ (0 ≤ p ∧ p < S.1 3) ∧ (0 ≤ x ∧ x ≤ 11) then r_liftOf S m p x else -9
theorem k_lift {S : MS} {m : Int32} {p : Int32} {x : Int32} {d : Nat} (hm : (0 ≤ m ∧ m < S.1 11) → vp_in m 4) (hp : (0 ≤ p ∧ p < S.1 3) → vp_in p 12) (hx : (0 ≤ x ∧ x ≤ 11) → vp_in x 12) : CM Y_X12_lift (d + 1) [.int m, .int p, .int x] S (fun r S2 => r = some (.int (r_lift S m p x)) ∧ S2 = S) := by
  refine CM.of 0 rfl (fun _ => Nat.le_of_ble_eq_true rfl) (by simp [Value.category]) ?_
  intro G m0 ad h0 h post hM hF fin
  show J Y_X12_lift (d + 1) G 0 0 0 [some (.ref m0), some (.int m), some (.int p), some (.int x)] [] h post
  refine J.aload_n 1 dX12_lift_0 rfl rfl ?_
  refine J.iload_n 2 dX12_lift_1 rfl rfl ?_
  refine mc_215 hM hF (k_isMachine (S := S) (m := m)) rfl 5 dX12_lift_2 rfl rfl rfl (Nat.le_of_ble_eq_true rfl) (fun r S2 hp h hM hF => ?_)
  obtain ⟨rfl, hp⟩ := hp
  replace hp := hp.symm
  subst hp
  refine J.if_eq 40 8 dX12_lift_5 (by decide) rfl (fun c1 => ?_) (fun c1 => ?_)
  · skip
    refine J.bipush (-9) 42 dX12_lift_40 rfl (by decide) ?_
    exact J.iret dX12_lift_42 rfl (fin _ _ _ ⟨by simp [r_lift, c1, ib_0.mp c1], by simp [r_lift, c1, ib_0.mp c1]⟩ hM hF)
  · skip
    refine J.iload_n 9 dX12_lift_8 rfl rfl ?_
    refine J.if_lt 40 12 dX12_lift_9 (by decide) rfl (fun c2 => ?_) (fun c2 => ?_)
    · skip
      refine J.bipush (-9) 42 dX12_lift_40 rfl (by decide) ?_
      exact J.iret dX12_lift_42 rfl (fin _ _ _ ⟨by simp [r_lift, c1, ib_n.mp c1, c2, Int32.not_le.mpr c2], by simp [r_lift, c1, ib_n.mp c1, c2, Int32.not_le.mpr c2]⟩ hM hF)
    · skip
      refine J.iload_n 13 dX12_lift_12 rfl rfl ?_
      refine J.aload_n 14 dX12_lift_13 rfl rfl ?_
      refine mg_16 hM (x := S.1 3) rfl rfl 17 dX12_lift_14 rfl ?_
      refine J.icmp_ge 40 20 dX12_lift_17 (by decide) rfl (fun c3 => ?_) (fun c3 => ?_)
      · skip
        refine J.bipush (-9) 42 dX12_lift_40 rfl (by decide) ?_
        exact J.iret dX12_lift_42 rfl (fin _ _ _ ⟨by simp [r_lift, c1, ib_n.mp c1, c2, Int32.not_lt.mp c2, c3, Int32.not_lt.mpr c3], by simp [r_lift, c1, ib_n.mp c1, c2, Int32.not_lt.mp c2, c3, Int32.not_lt.mpr c3]⟩ hM hF)
      · skip
        refine J.iload_n 21 dX12_lift_20 rfl rfl ?_
        refine J.iconst 0 22 dX12_lift_21 rfl (by decide) ?_
        refine J.bipush 11 24 dX12_lift_22 rfl (by decide) ?_
        refine mc_153 (k_within (v := x) (a := 0) (b := 11)) rfl 27 dX12_lift_24 rfl rfl rfl (Nat.le_of_ble_eq_true rfl) ?_
        refine J.if_eq 40 30 dX12_lift_27 (by decide) rfl (fun c4 => ?_) (fun c4 => ?_)
        · skip
          refine J.bipush (-9) 42 dX12_lift_40 rfl (by decide) ?_
          exact J.iret dX12_lift_42 rfl (fin _ _ _ ⟨by simp [r_lift, c1, ib_n.mp c1, c2, Int32.not_lt.mp c2, c3, Int32.not_le.mp c3, c4, ib_0.mp c4], by simp [r_lift, c1, ib_n.mp c1, c2, Int32.not_lt.mp c2, c3, Int32.not_le.mp c3, c4, ib_0.mp c4]⟩ hM hF)
        · skip
          refine J.aload_n 31 dX12_lift_30 rfl rfl ?_
          refine J.iload_n 32 dX12_lift_31 rfl rfl ?_
          refine J.iload_n 33 dX12_lift_32 rfl rfl ?_
          refine J.iload_n 34 dX12_lift_33 rfl rfl ?_
          refine mc_243 hM hF (k_liftOf (S := S) (m := m) (p := p) (x := x) (hm (ib_n.mp (by assumption))) (hp ⟨by first | assumption | exact Int32.not_lt.mp (by assumption), by first | assumption | exact Int32.not_le.mp (by assumption)⟩) (hx (ib_n.mp (by assumption)))) rfl 37 dX12_lift_34 rfl rfl rfl (Nat.le_of_ble_eq_true rfl) (fun r S2 hp h hM hF => ?_)
          obtain ⟨rfl, hp⟩ := hp
          replace hp := hp.symm
          subst hp
          refine J.goto 42 dX12_lift_37 (by decide) ?_
          exact J.iret dX12_lift_42 rfl (fin _ _ _ ⟨by simp [r_lift, c1, ib_n.mp c1, c2, Int32.not_lt.mp c2, c3, Int32.not_le.mp c3, c4, ib_n.mp c4], by simp [r_lift, c1, ib_n.mp c1, c2, Int32.not_lt.mp c2, c3, Int32.not_le.mp c3, c4, ib_n.mp c4]⟩ hM hF)
def r_cntN (S : MS) (t : Int32) : Nat → Int32
  | 0 => 0
  | k + 1 => (r_cntN S t k) + (if (S.2 23 k) = 3 then (if t = 7 then 1 else (if (ib (S.2 23 k = 3 ∧ S.2 22 k < S.2 26 k)) = 0 then 0 else 1)) else 0)
def r_count (S : MS) (n : Nat) (t : Int32) : Int32 := if t = 0 then S.1 3 else if t = 1 then S.1 11 else if t = 2 then S.1 16 else if t = 3 then S.1 28 else if t = 4 then S.1 33 else if t = 5 then S.1 45 else if t = 6 then S.1 0 else if t = 7 then r_cntN S t n else if t = 8 then r_cntN S t n else if t = 9 then S.1 30 else -1
theorem k_count {S : MS} {t : Int32} {d : Nat} {n : Nat} (hN : S.1 28 = nI n) (hn : n ≤ 80) : CM Y_X12_count (d + 1) [.int t] S (fun r S2 => r = some (.int (r_count S n t)) ∧ S2 = S) := by
  refine CM.of 2 rfl (fun _ => Nat.le_of_ble_eq_true rfl) (by simp [Value.category]) ?_
  intro G m0 ad h0 h post hM hF fin
  show J Y_X12_count (d + 1) G 0 0 0 [some (.ref m0), some (.int t), none, none] [] h post
  refine J.iconst 0 1 dX12_count_0 rfl (by decide) ?_
  refine J.ist_2 2 dX12_count_1 rfl (by decide) ?_
  refine J.iload_n 3 dX12_count_2 rfl rfl ?_
  by_cases c1 : (t).toInt < 0 ∨ 9 < (t).toInt
  · refine J.tsOut 146 dX12_count_3 c1 (by decide) ?_
    refine J.iconst (-1) 147 dX12_count_146 rfl (by decide) ?_
    exact J.iret dX12_count_147 rfl (fin _ _ _ ⟨by simp (decide := true) [r_count, sw_out c1 0 (by decide) (by decide), sw_out c1 1 (by decide) (by decide), sw_out c1 2 (by decide) (by decide), sw_out c1 3 (by decide) (by decide), sw_out c1 4 (by decide) (by decide), sw_out c1 5 (by decide) (by decide), sw_out c1 6 (by decide) (by decide), sw_out c1 7 (by decide) (by decide), sw_out c1 8 (by decide) (by decide), sw_out c1 9 (by decide) (by decide)], by simp (decide := true) [r_count, sw_out c1 0 (by decide) (by decide), sw_out c1 1 (by decide) (by decide), sw_out c1 2 (by decide) (by decide), sw_out c1 3 (by decide) (by decide), sw_out c1 4 (by decide) (by decide), sw_out c1 5 (by decide) (by decide), sw_out c1 6 (by decide) (by decide), sw_out c1 7 (by decide) (by decide), sw_out c1 8 (by decide) (by decide), sw_out c1 9 (by decide) (by decide)]⟩ hM hF)
  · have q1 : (t).toInt = 0 ∨ (t).toInt = 1 ∨ (t).toInt = 2 ∨ (t).toInt = 3 ∨ (t).toInt = 4 ∨ (t).toInt = 5 ∨ (t).toInt = 6 ∨ (t).toInt = 7 ∨ (t).toInt = 8 ∨ (t).toInt = 9 := by omega
    rcases q1 with q1 | q1 | q1 | q1 | q1 | q1 | q1 | q1 | q1 | q1
    · have z1 : t = 0 := Int32.toInt_inj.mp (q1.trans (by decide))
      refine J.tsIn (k := 0) 56 dX12_count_3 q1 (by decide) (by decide) rfl (by decide) ?_
      refine J.aload_n 57 dX12_count_56 rfl rfl ?_
      refine mg_16 hM (x := S.1 3) rfl rfl 60 dX12_count_57 rfl ?_
      exact J.iret dX12_count_60 rfl (fin _ _ _ ⟨by simp (decide := true) [r_count, z1], by simp (decide := true) [r_count, z1]⟩ hM hF)
    · have z1 : t = 1 := Int32.toInt_inj.mp (q1.trans (by decide))
      refine J.tsIn (k := 1) 61 dX12_count_3 q1 (by decide) (by decide) rfl (by decide) ?_
      refine J.aload_n 62 dX12_count_61 rfl rfl ?_
      refine mg_157 hM (x := S.1 11) rfl rfl 65 dX12_count_62 rfl ?_
      exact J.iret dX12_count_65 rfl (fin _ _ _ ⟨by simp (decide := true) [r_count, z1], by simp (decide := true) [r_count, z1]⟩ hM hF)
    · have z1 : t = 2 := Int32.toInt_inj.mp (q1.trans (by decide))
      refine J.tsIn (k := 2) 66 dX12_count_3 q1 (by decide) (by decide) rfl (by decide) ?_
      refine J.aload_n 67 dX12_count_66 rfl rfl ?_
      refine mg_160 hM (x := S.1 16) rfl rfl 70 dX12_count_67 rfl ?_
      exact J.iret dX12_count_70 rfl (fin _ _ _ ⟨by simp (decide := true) [r_count, z1], by simp (decide := true) [r_count, z1]⟩ hM hF)
    · have z1 : t = 3 := Int32.toInt_inj.mp (q1.trans (by decide))
      refine J.tsIn (k := 3) 71 dX12_count_3 q1 (by decide) (by decide) rfl (by decide) ?_
      refine J.aload_n 72 dX12_count_71 rfl rfl ?_
      refine mg_163 hM (x := S.1 28) rfl rfl 75 dX12_count_72 rfl ?_
      exact J.iret dX12_count_75 rfl (fin _ _ _ ⟨by simp (decide := true) [r_count, z1], by simp (decide := true) [r_count, z1]⟩ hM hF)
    · have z1 : t = 4 := Int32.toInt_inj.mp (q1.trans (by decide))
      refine J.tsIn (k := 4) 76 dX12_count_3 q1 (by decide) (by decide) rfl (by decide) ?_
      refine J.aload_n 77 dX12_count_76 rfl rfl ?_
      refine mg_182 hM (x := S.1 33) rfl rfl 80 dX12_count_77 rfl ?_
      exact J.iret dX12_count_80 rfl (fin _ _ _ ⟨by simp (decide := true) [r_count, z1], by simp (decide := true) [r_count, z1]⟩ hM hF)
    · have z1 : t = 5 := Int32.toInt_inj.mp (q1.trans (by decide))
      refine J.tsIn (k := 5) 81 dX12_count_3 q1 (by decide) (by decide) rfl (by decide) ?_
      refine J.aload_n 82 dX12_count_81 rfl rfl ?_
      refine mg_256 hM (x := S.1 45) rfl rfl 85 dX12_count_82 rfl ?_
      exact J.iret dX12_count_85 rfl (fin _ _ _ ⟨by simp (decide := true) [r_count, z1], by simp (decide := true) [r_count, z1]⟩ hM hF)
    · have z1 : t = 6 := Int32.toInt_inj.mp (q1.trans (by decide))
      refine J.tsIn (k := 6) 86 dX12_count_3 q1 (by decide) (by decide) rfl (by decide) ?_
      refine J.aload_n 87 dX12_count_86 rfl rfl ?_
      refine mg_221 hM (x := S.1 0) rfl rfl 90 dX12_count_87 rfl ?_
      exact J.iret dX12_count_90 rfl (fin _ _ _ ⟨by simp (decide := true) [r_count, z1], by simp (decide := true) [r_count, z1]⟩ hM hF)
    · have z1 : t = 7 := Int32.toInt_inj.mp (q1.trans (by decide))
      refine J.tsIn (k := 7) 91 dX12_count_3 q1 (by decide) (by decide) rfl (by decide) ?_
      refine J.iconst 0 92 dX12_count_91 rfl (by decide) ?_
      refine J.ist_3 93 dX12_count_92 rfl (by decide) ?_
      have loop93 : ∀ (j k : Nat) (x2 x3 : Int32), k ≤ n → n + 1 ≤ k + j → x2 = r_cntN S t k → x3 = nI k → ∀ h, MR m0 ad S h → MF m0 ad h0 h → J Y_X12_count (d + 1) G 0 0 93 [some (.ref m0), some (.int t), some (.int x2), some (.int x3)] [] h post := by
        intro j
        induction j with
        | zero => intro k _ _ g1 g2; exact absurd g2 (by omega)
        | succ j ih =>
          intro k x2 x3 g1 g2 e2 e3 h hM hF
          have q3 : x3.toNatClampNeg = k := by rw [e3]; exact nI_clamp (by omega)
          refine J.iload_n 94 dX12_count_93 rfl rfl ?_
          refine J.aload_n 95 dX12_count_94 rfl rfl ?_
          refine mg_163 hM (x := S.1 28) rfl rfl 98 dX12_count_95 rfl ?_
          refine J.icmp_ge 139 101 dX12_count_98 (by decide) rfl (fun c2 => ?_) (fun c2 => ?_)
          · skip
            have hk : k = n := Nat.le_antisymm g1 ((nI_leI (by omega) (by omega)).mp (by rw [← hN, ← e3]; exact c2))
            refine J.iload_n 140 dX12_count_139 rfl rfl ?_
            exact J.iret dX12_count_140 rfl (fin _ _ _ ⟨by rw [e2, hk]; simp (decide := true) [r_count, z1, c2, Int32.not_lt.mpr c2, e2], rfl⟩ hM hF)
          · skip
            have hk : k < n := Nat.lt_of_not_le (fun z => c2 (by rw [hN, e3]; exact nI_le z (by omega)))
            have hin : vp_in x3 80 := by rw [e3]; exact vp_in_nI (by omega) (by decide)
            refine J.iload_n 102 dX12_count_101 rfl rfl ?_
            refine J.aload_n 103 dX12_count_102 rfl rfl ?_
            refine mg_71 hM rfl 106 dX12_count_103 rfl ?_
            refine J.iload_n 107 dX12_count_106 rfl rfl ?_
            refine ml_ia hM k q3 rfl rfl rfl (by assumption) 108 dX12_count_107 rfl ?_
            refine J.iconst 3 109 dX12_count_108 rfl (by decide) ?_
            have K1 : ∀ (v1_0 : Int32), v1_0 = (if (S.2 23 k) = 3 then (if t = 7 then 1 else (if (ib (S.2 23 k = 3 ∧ S.2 22 k < S.2 26 k)) = 0 then 0 else 1)) else 0) → ∀ h, MR m0 ad S h → MF m0 ad h0 h → J Y_X12_count (d + 1) G 0 0 131 [some (.ref m0), some (.int t), some (.int x2), some (.int x3)] [.int v1_0, .int x2] h post := by
              intro v1_0 ev1_0 h hM hF
              refine J.iadd 132 dX12_count_131 rfl ?_
              refine J.ist_2 133 dX12_count_132 rfl (by decide) ?_
              refine J.iinc_3 1 136 dX12_count_133 rfl (by decide) (by decide) ?_
              refine J.goto 93 dX12_count_136 (by decide) ?_
              exact ih (k + 1) _ _ (by omega) (by omega) (by rw [ev1_0, e2]; rfl) (by rw [e3]; exact nI_1 k) _ hM hF
            refine J.icmp_ne 130 112 dX12_count_109 (by decide) rfl (fun c3 => ?_) (fun c3 => ?_)
            · skip
              refine J.iconst 0 131 dX12_count_130 rfl (by decide) ?_
              exact K1 _ (by first | (simp only [if_neg c2, if_neg c3]; done) | (simp [c2, Int32.not_le.mp c2, c3]; done) | (simp (decide := true) [z1, c2, Int32.not_le.mp c2, c3]; done) | (exfalso; simp_all; done)) _ hM hF
            · skip
              refine J.iload_n 113 dX12_count_112 rfl rfl ?_
              refine J.bipush 7 115 dX12_count_113 rfl (by decide) ?_
              refine J.icmp_eq 126 118 dX12_count_115 (by decide) rfl (fun c4 => ?_) (fun c4 => ?_)
              · skip
                refine J.iconst 1 127 dX12_count_126 rfl (by decide) ?_
                refine J.goto 131 dX12_count_127 (by decide) ?_
                exact K1 _ (by first | (simp only [if_neg c2, if_pos c3, if_pos c4]; done) | (simp [c2, Int32.not_le.mp c2, c3, c4]; done) | (simp (decide := true) [z1, c2, Int32.not_le.mp c2, c3, c4]; done) | (exfalso; simp_all; done)) _ hM hF
              · skip
                refine J.aload_n 119 dX12_count_118 rfl rfl ?_
                refine J.iload_n 120 dX12_count_119 rfl rfl ?_
                refine mc_262 hM hF (k_isLate (S := S) (l := x3) (by first | assumption | (unfold vp_in; decide))) rfl 123 dX12_count_120 rfl rfl rfl (Nat.le_of_ble_eq_true rfl) (fun r S2 hp h hM hF => ?_)
                obtain ⟨rfl, hp⟩ := hp
                replace hp := hp.symm
                subst hp
                rw [q3]
                refine J.if_eq 130 126 dX12_count_123 (by decide) rfl (fun c5 => ?_) (fun c5 => ?_)
                · skip
                  refine J.iconst 0 131 dX12_count_130 rfl (by decide) ?_
                  exact K1 _ (by first | (simp only [if_neg c2, if_pos c3, if_neg c4, if_pos c5]; done) | (simp [c2, Int32.not_le.mp c2, c3, c4, c5, ib_0.mp c5]; done) | (simp (decide := true) [z1, c2, Int32.not_le.mp c2, c3, c4, c5, ib_0.mp c5]; done) | (exfalso; simp_all; done)) _ hM hF
                · skip
                  refine J.iconst 1 127 dX12_count_126 rfl (by decide) ?_
                  refine J.goto 131 dX12_count_127 (by decide) ?_
                  exact K1 _ (by first | (simp only [if_neg c2, if_pos c3, if_neg c4, if_neg c5]; done) | (simp [c2, Int32.not_le.mp c2, c3, c4, c5, ib_n.mp c5]; done) | (simp (decide := true) [z1, c2, Int32.not_le.mp c2, c3, c4, c5, ib_n.mp c5]; done) | (exfalso; simp_all; done)) _ hM hF
      exact loop93 (n + 1) 0 _ _ (Nat.zero_le _) (by omega) rfl rfl _ hM hF
    · have z1 : t = 8 := Int32.toInt_inj.mp (q1.trans (by decide))
      refine J.tsIn (k := 8) 91 dX12_count_3 q1 (by decide) (by decide) rfl (by decide) ?_
      refine J.iconst 0 92 dX12_count_91 rfl (by decide) ?_
      refine J.ist_3 93 dX12_count_92 rfl (by decide) ?_
      have loop93 : ∀ (j k : Nat) (x2 x3 : Int32), k ≤ n → n + 1 ≤ k + j → x2 = r_cntN S t k → x3 = nI k → ∀ h, MR m0 ad S h → MF m0 ad h0 h → J Y_X12_count (d + 1) G 0 0 93 [some (.ref m0), some (.int t), some (.int x2), some (.int x3)] [] h post := by
        intro j
        induction j with
        | zero => intro k _ _ g1 g2; exact absurd g2 (by omega)
        | succ j ih =>
          intro k x2 x3 g1 g2 e2 e3 h hM hF
          have q3 : x3.toNatClampNeg = k := by rw [e3]; exact nI_clamp (by omega)
          refine J.iload_n 94 dX12_count_93 rfl rfl ?_
          refine J.aload_n 95 dX12_count_94 rfl rfl ?_
          refine mg_163 hM (x := S.1 28) rfl rfl 98 dX12_count_95 rfl ?_
          refine J.icmp_ge 139 101 dX12_count_98 (by decide) rfl (fun c6 => ?_) (fun c6 => ?_)
          · skip
            have hk : k = n := Nat.le_antisymm g1 ((nI_leI (by omega) (by omega)).mp (by rw [← hN, ← e3]; exact c6))
            refine J.iload_n 140 dX12_count_139 rfl rfl ?_
            exact J.iret dX12_count_140 rfl (fin _ _ _ ⟨by rw [e2, hk]; simp (decide := true) [r_count, z1, c6, Int32.not_lt.mpr c6, e2], rfl⟩ hM hF)
          · skip
            have hk : k < n := Nat.lt_of_not_le (fun z => c6 (by rw [hN, e3]; exact nI_le z (by omega)))
            have hin : vp_in x3 80 := by rw [e3]; exact vp_in_nI (by omega) (by decide)
            refine J.iload_n 102 dX12_count_101 rfl rfl ?_
            refine J.aload_n 103 dX12_count_102 rfl rfl ?_
            refine mg_71 hM rfl 106 dX12_count_103 rfl ?_
            refine J.iload_n 107 dX12_count_106 rfl rfl ?_
            refine ml_ia hM k q3 rfl rfl rfl (by assumption) 108 dX12_count_107 rfl ?_
            refine J.iconst 3 109 dX12_count_108 rfl (by decide) ?_
            have K2 : ∀ (v2_0 : Int32), v2_0 = (if (S.2 23 k) = 3 then (if t = 7 then 1 else (if (ib (S.2 23 k = 3 ∧ S.2 22 k < S.2 26 k)) = 0 then 0 else 1)) else 0) → ∀ h, MR m0 ad S h → MF m0 ad h0 h → J Y_X12_count (d + 1) G 0 0 131 [some (.ref m0), some (.int t), some (.int x2), some (.int x3)] [.int v2_0, .int x2] h post := by
              intro v2_0 ev2_0 h hM hF
              refine J.iadd 132 dX12_count_131 rfl ?_
              refine J.ist_2 133 dX12_count_132 rfl (by decide) ?_
              refine J.iinc_3 1 136 dX12_count_133 rfl (by decide) (by decide) ?_
              refine J.goto 93 dX12_count_136 (by decide) ?_
              exact ih (k + 1) _ _ (by omega) (by omega) (by rw [ev2_0, e2]; rfl) (by rw [e3]; exact nI_1 k) _ hM hF
            refine J.icmp_ne 130 112 dX12_count_109 (by decide) rfl (fun c7 => ?_) (fun c7 => ?_)
            · skip
              refine J.iconst 0 131 dX12_count_130 rfl (by decide) ?_
              exact K2 _ (by first | (simp only [if_neg c6, if_neg c7]; done) | (simp [c6, Int32.not_le.mp c6, c7]; done) | (simp (decide := true) [z1, c6, Int32.not_le.mp c6, c7]; done) | (exfalso; simp_all; done)) _ hM hF
            · skip
              refine J.iload_n 113 dX12_count_112 rfl rfl ?_
              refine J.bipush 7 115 dX12_count_113 rfl (by decide) ?_
              refine J.icmp_eq 126 118 dX12_count_115 (by decide) rfl (fun c8 => ?_) (fun c8 => ?_)
              · skip
                refine J.iconst 1 127 dX12_count_126 rfl (by decide) ?_
                refine J.goto 131 dX12_count_127 (by decide) ?_
                exact K2 _ (by first | (simp only [if_neg c6, if_pos c7, if_pos c8]; done) | (simp [c6, Int32.not_le.mp c6, c7, c8]; done) | (simp (decide := true) [z1, c6, Int32.not_le.mp c6, c7, c8]; done) | (exfalso; simp_all; done)) _ hM hF
              · skip
                refine J.aload_n 119 dX12_count_118 rfl rfl ?_
                refine J.iload_n 120 dX12_count_119 rfl rfl ?_
                refine mc_262 hM hF (k_isLate (S := S) (l := x3) (by first | assumption | (unfold vp_in; decide))) rfl 123 dX12_count_120 rfl rfl rfl (Nat.le_of_ble_eq_true rfl) (fun r S2 hp h hM hF => ?_)
                obtain ⟨rfl, hp⟩ := hp
                replace hp := hp.symm
                subst hp
                rw [q3]
                refine J.if_eq 130 126 dX12_count_123 (by decide) rfl (fun c9 => ?_) (fun c9 => ?_)
                · skip
                  refine J.iconst 0 131 dX12_count_130 rfl (by decide) ?_
                  exact K2 _ (by first | (simp only [if_neg c6, if_pos c7, if_neg c8, if_pos c9]; done) | (simp [c6, Int32.not_le.mp c6, c7, c8, c9, ib_0.mp c9]; done) | (simp (decide := true) [z1, c6, Int32.not_le.mp c6, c7, c8, c9, ib_0.mp c9]; done) | (exfalso; simp_all; done)) _ hM hF
                · skip
                  refine J.iconst 1 127 dX12_count_126 rfl (by decide) ?_
                  refine J.goto 131 dX12_count_127 (by decide) ?_
                  exact K2 _ (by first | (simp only [if_neg c6, if_pos c7, if_neg c8, if_neg c9]; done) | (simp [c6, Int32.not_le.mp c6, c7, c8, c9, ib_n.mp c9]; done) | (simp (decide := true) [z1, c6, Int32.not_le.mp c6, c7, c8, c9, ib_n.mp c9]; done) | (exfalso; simp_all; done)) _ hM hF
      exact loop93 (n + 1) 0 _ _ (Nat.zero_le _) (by omega) rfl rfl _ hM hF
    · have z1 : t = 9 := Int32.toInt_inj.mp (q1.trans (by decide))
      refine J.tsIn (k := 9) 141 dX12_count_3 q1 (by decide) (by decide) rfl (by decide) ?_
      refine J.aload_n 142 dX12_count_141 rfl rfl ?_
      refine mg_170 hM (x := S.1 30) rfl rfl 145 dX12_count_142 rfl ?_
      exact J.iret dX12_count_145 rfl (fin _ _ _ ⟨by simp (decide := true) [r_count, z1], by simp (decide := true) [r_count, z1]⟩ hM hF)
