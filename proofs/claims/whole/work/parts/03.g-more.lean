def r_longN (S : MS) (m : Int32) : Nat → Int32
  | 0 => 0
  | k + 1 => if (r_longN S m k) = 0 then (if (S.2 23 k) = 1 then (if (S.2 24 k) = m then (if (S.2 20 k) = 1 then 1 else 0) else 0) else 0) else 1
theorem r_longN_01 (S : MS) (m : Int32) (k : Nat) : r_longN S m k = 0 ∨ r_longN S m k = 1 := by
  cases k with
  | zero => exact Or.inl rfl
  | succ k =>
    simp only [r_longN]
    (repeat' split) <;> simp
theorem k_longHangs {S : MS} {m : Int32} {d : Nat} {n : Nat} (hN : S.1 28 = nI n) (hn : n ≤ 80) : CM Y_X12_longHangs d [.int m] S (fun r S2 => r = some (.int (r_longN S m n)) ∧ S2 = S) := by
  refine CM.of 2 rfl (fun _ => Nat.le_of_ble_eq_true rfl) (by simp [Value.category]) ?_
  intro G m0 ad h0 h post hM hF fin
  show J Y_X12_longHangs d G 0 0 0 [some (.ref m0), some (.int m), none, none] [] h post
  refine J.iconst 0 1 dX12_longHangs_0 rfl (by decide) ?_
  refine J.ist_2 2 dX12_longHangs_1 rfl (by decide) ?_
  refine J.iconst 0 3 dX12_longHangs_2 rfl (by decide) ?_
  refine J.ist_3 4 dX12_longHangs_3 rfl (by decide) ?_
  have loop4 : ∀ (j k : Nat) (x2 x3 : Int32), k ≤ n → n + 1 ≤ k + j → x2 = r_longN S m k → x3 = nI k → ∀ h, MR m0 ad S h → MF m0 ad h0 h → J Y_X12_longHangs d G 0 0 4 [some (.ref m0), some (.int m), some (.int x2), some (.int x3)] [] h post := by
    intro j
    induction j with
    | zero => intro k _ _ g1 g2; exact absurd g2 (by omega)
    | succ j ih =>
      intro k x2 x3 g1 g2 e2 e3 h hM hF
      have q3 : x3.toNatClampNeg = k := by rw [e3]; exact nI_clamp (by omega)
      refine J.iload_n 5 dX12_longHangs_4 rfl rfl ?_
      refine J.aload_n 6 dX12_longHangs_5 rfl rfl ?_
      refine mg_163 hM (x := S.1 28) rfl rfl 9 dX12_longHangs_6 rfl ?_
      refine J.icmp_ge 58 12 dX12_longHangs_9 (by decide) rfl (fun c1 => ?_) (fun c1 => ?_)
      · skip
        have hk : k = n := Nat.le_antisymm g1 ((nI_leI (by omega) (by omega)).mp (by rw [← hN, ← e3]; exact c1))
        refine J.iload_n 59 dX12_longHangs_58 rfl rfl ?_
        exact J.zret dX12_longHangs_59 rfl (by rw [e2]; exact r_longN_01 S m k) (fin _ _ _ ⟨by rw [e2, hk], rfl⟩ hM hF)
      · skip
        have hk : k < n := Nat.lt_of_not_le (fun z => c1 (by rw [hN, e3]; exact nI_le z (by omega)))
        have hin : vp_in x3 80 := by rw [e3]; exact vp_in_nI (by omega) (by decide)
        refine J.iload_n 13 dX12_longHangs_12 rfl rfl ?_
        have K1 : ∀ (v1_0 : Int32), v1_0 = (if x2 = 0 then (if (S.2 23 k) = 1 then (if (S.2 24 k) = m then (if (S.2 20 k) = 1 then 1 else 0) else 0) else 0) else 1) → ∀ h, MR m0 ad S h → MF m0 ad h0 h → J Y_X12_longHangs d G 0 0 51 [some (.ref m0), some (.int m), some (.int x2), some (.int x3)] [.int v1_0] h post := by
          intro v1_0 ev1_0 h hM hF
          refine J.ist_2 52 dX12_longHangs_51 rfl (by decide) ?_
          refine J.iinc_3 1 55 dX12_longHangs_52 rfl (by decide) (by decide) ?_
          refine J.goto 4 dX12_longHangs_55 (by decide) ?_
          exact ih (k + 1) _ _ (by omega) (by omega) (by rw [ev1_0, e2]; rfl) (by rw [e3]; exact nI_1 k) _ hM hF
        refine J.if_ne 46 16 dX12_longHangs_13 (by decide) rfl (fun c2 => ?_) (fun c2 => ?_)
        · skip
          refine J.iconst 1 47 dX12_longHangs_46 rfl (by decide) ?_
          refine J.goto 51 dX12_longHangs_47 (by decide) ?_
          exact K1 _ (by simp [c1, Int32.not_le.mp c1, c2]) _ hM hF
        · skip
          refine J.aload_n 17 dX12_longHangs_16 rfl rfl ?_
          refine mg_71 hM rfl 20 dX12_longHangs_17 rfl ?_
          refine J.iload_n 21 dX12_longHangs_20 rfl rfl ?_
          refine ml_ia hM k q3 rfl rfl rfl (by assumption) 22 dX12_longHangs_21 rfl ?_
          refine J.iconst 1 23 dX12_longHangs_22 rfl (by decide) ?_
          refine J.icmp_ne 50 26 dX12_longHangs_23 (by decide) rfl (fun c3 => ?_) (fun c3 => ?_)
          · skip
            refine J.iconst 0 51 dX12_longHangs_50 rfl (by decide) ?_
            exact K1 _ (by simp [c1, Int32.not_le.mp c1, c2, c3]) _ hM hF
          · skip
            refine J.aload_n 27 dX12_longHangs_26 rfl rfl ?_
            refine mg_74 hM rfl 30 dX12_longHangs_27 rfl ?_
            refine J.iload_n 31 dX12_longHangs_30 rfl rfl ?_
            refine ml_ia hM k q3 rfl rfl rfl (by assumption) 32 dX12_longHangs_31 rfl ?_
            refine J.iload_n 33 dX12_longHangs_32 rfl rfl ?_
            refine J.icmp_ne 50 36 dX12_longHangs_33 (by decide) rfl (fun c4 => ?_) (fun c4 => ?_)
            · skip
              refine J.iconst 0 51 dX12_longHangs_50 rfl (by decide) ?_
              exact K1 _ (by simp [c1, Int32.not_le.mp c1, c2, c3, c4]) _ hM hF
            · skip
              refine J.aload_n 37 dX12_longHangs_36 rfl rfl ?_
              refine mg_62 hM rfl 40 dX12_longHangs_37 rfl ?_
              refine J.iload_n 41 dX12_longHangs_40 rfl rfl ?_
              refine ml_ia hM k q3 rfl rfl rfl (by assumption) 42 dX12_longHangs_41 rfl ?_
              refine J.iconst 1 43 dX12_longHangs_42 rfl (by decide) ?_
              refine J.icmp_ne 50 46 dX12_longHangs_43 (by decide) rfl (fun c5 => ?_) (fun c5 => ?_)
              · skip
                refine J.iconst 0 51 dX12_longHangs_50 rfl (by decide) ?_
                exact K1 _ (by simp [c1, Int32.not_le.mp c1, c2, c3, c4, c5]) _ hM hF
              · skip
                refine J.iconst 1 47 dX12_longHangs_46 rfl (by decide) ?_
                refine J.goto 51 dX12_longHangs_47 (by decide) ?_
                exact K1 _ (by simp [c1, Int32.not_le.mp c1, c2, c3, c4, c5]) _ hM hF
  exact loop4 (n + 1) 0 _ _ (Nat.zero_le _) (by omega) rfl rfl _ hM hF
def r_wayOf (S : MS) (n : Nat) (m p : Int32) : Int32 := if r_longN S m n = 0 then S.2 2 p.toNatClampNeg else 2 * S.2 2 p.toNatClampNeg
theorem k_wayOf {S : MS} {m : Int32} {p : Int32} {d : Nat} {n : Nat} (hN : S.1 28 = nI n) (hn : n ≤ 80) (hp : vp_in p 12) : CM Y_X12_wayOf (d + 1) [.int m, .int p] S (fun r S2 => r = some (.int (r_wayOf S n m p)) ∧ S2 = S) := by
  refine CM.of 0 rfl (fun _ => Nat.le_of_ble_eq_true rfl) (by simp [Value.category]) ?_
  intro G m0 ad h0 h post hM hF fin
  show J Y_X12_wayOf (d + 1) G 0 0 0 [some (.ref m0), some (.int m), some (.int p)] [] h post
  refine J.aload_n 1 dX12_wayOf_0 rfl rfl ?_
  refine J.iload_n 2 dX12_wayOf_1 rfl rfl ?_
  refine mc_231 hM hF (k_longHangs (S := S) (m := m) hN hn) rfl 5 dX12_wayOf_2 rfl rfl rfl (Nat.le_of_ble_eq_true rfl) (fun r S2 hp h hM hF => ?_)
  obtain ⟨rfl, hp⟩ := hp
  replace hp := hp.symm
  subst hp
  refine J.if_eq 19 8 dX12_wayOf_5 (by decide) rfl (fun c1 => ?_) (fun c1 => ?_)
  · skip
    refine J.aload_n 20 dX12_wayOf_19 rfl rfl ?_
    refine mg_13 hM rfl 23 dX12_wayOf_20 rfl ?_
    refine J.iload_n 24 dX12_wayOf_23 rfl rfl ?_
    refine ml_ia hM p.toNatClampNeg rfl rfl rfl rfl (by assumption) 25 dX12_wayOf_24 rfl ?_
    exact J.iret dX12_wayOf_25 rfl (fin _ _ _ ⟨by simp [r_wayOf, c1], by simp [r_wayOf, c1]⟩ hM hF)
  · skip
    refine J.iconst 2 9 dX12_wayOf_8 rfl (by decide) ?_
    refine J.aload_n 10 dX12_wayOf_9 rfl rfl ?_
    refine mg_13 hM rfl 13 dX12_wayOf_10 rfl ?_
    refine J.iload_n 14 dX12_wayOf_13 rfl rfl ?_
    refine ml_ia hM p.toNatClampNeg rfl rfl rfl rfl (by assumption) 15 dX12_wayOf_14 rfl ?_
    refine J.imul 16 dX12_wayOf_15 rfl ?_
    refine J.goto 25 dX12_wayOf_16 (by decide) ?_
    exact J.iret dX12_wayOf_25 rfl (fin _ _ _ ⟨by simp [r_wayOf, c1], by simp [r_wayOf, c1]⟩ hM hF)
def r_named (S : MS) (n : Nat) (c t p m f : Int32) : Int32 := if c = 119 then S.2 4 (m_hour t).toNatClampNeg else if c = 116 then S.2 5 (m_hour t).toNatClampNeg else if c = 115 then S.2 6 (m_hour t).toNatClampNeg else if c = 104 then m_hour t else if c = 109 then t else if c = 112 then p else if c = 101 then S.2 1 p.toNatClampNeg else if c = 102 then f else r_hangN S m c n
theorem k_named {S : MS} {c : Int32} {t : Int32} {p : Int32} {m : Int32} {f : Int32} {d : Nat} {n : Nat} (hN : S.1 28 = nI n) (hn : n ≤ 80) (hp : vp_in p 12) (ht : vp_in (m_hour t) 12) : CM Y_X12_named (d + 1) [.int c, .int t, .int p, .int m, .int f] S (fun r S2 => r = some (.int (r_named S n c t p m f)) ∧ S2 = S) := by
  refine CM.of 1 rfl (fun _ => Nat.le_of_ble_eq_true rfl) (by simp [Value.category]) ?_
  intro G m0 ad h0 h post hM hF fin
  show J Y_X12_named (d + 1) G 0 0 0 [some (.ref m0), some (.int c), some (.int t), some (.int p), some (.int m), some (.int f), none] [] h post
  refine J.iload_n 1 dX12_named_0 rfl rfl ?_
  refine mc_207 (k_hourOf (m := t)) rfl 4 dX12_named_1 rfl rfl rfl (Nat.le_of_ble_eq_true rfl) ?_
  refine J.ist_6 6 dX12_named_4 rfl (by decide) ?_
  refine J.iload_n 7 dX12_named_6 rfl rfl ?_
  by_cases c1 : (c).toInt < 101 ∨ 119 < (c).toInt
  · refine J.tsOut 137 dX12_named_7 c1 (by decide) ?_
    refine J.aload_n 138 dX12_named_137 rfl rfl ?_
    refine J.iload 140 dX12_named_138 rfl rfl ?_
    refine J.iload_n 141 dX12_named_140 rfl rfl ?_
    refine mc_211 hM hF (k_ofHanging (S := S) (m := m) (c := c) hN hn) rfl 144 dX12_named_141 rfl rfl rfl (Nat.le_of_ble_eq_true rfl) (fun r S2 hp h hM hF => ?_)
    obtain ⟨rfl, hp⟩ := hp
    replace hp := hp.symm
    subst hp
    exact J.iret dX12_named_144 rfl (fin _ _ _ ⟨by simp (decide := true) [r_named, sw_out c1 101 (by decide) (by decide), sw_out c1 102 (by decide) (by decide), sw_out c1 104 (by decide) (by decide), sw_out c1 109 (by decide) (by decide), sw_out c1 112 (by decide) (by decide), sw_out c1 115 (by decide) (by decide), sw_out c1 116 (by decide) (by decide), sw_out c1 119 (by decide) (by decide)], by simp (decide := true) [r_named, sw_out c1 101 (by decide) (by decide), sw_out c1 102 (by decide) (by decide), sw_out c1 104 (by decide) (by decide), sw_out c1 109 (by decide) (by decide), sw_out c1 112 (by decide) (by decide), sw_out c1 115 (by decide) (by decide), sw_out c1 116 (by decide) (by decide), sw_out c1 119 (by decide) (by decide)]⟩ hM hF)
  · have q1 : (c).toInt = 101 ∨ (c).toInt = 102 ∨ (c).toInt = 103 ∨ (c).toInt = 104 ∨ (c).toInt = 105 ∨ (c).toInt = 106 ∨ (c).toInt = 107 ∨ (c).toInt = 108 ∨ (c).toInt = 109 ∨ (c).toInt = 110 ∨ (c).toInt = 111 ∨ (c).toInt = 112 ∨ (c).toInt = 113 ∨ (c).toInt = 114 ∨ (c).toInt = 115 ∨ (c).toInt = 116 ∨ (c).toInt = 117 ∨ (c).toInt = 118 ∨ (c).toInt = 119 := by omega
    rcases q1 with q1 | q1 | q1 | q1 | q1 | q1 | q1 | q1 | q1 | q1 | q1 | q1 | q1 | q1 | q1 | q1 | q1 | q1 | q1
    · have z1 : c = 101 := Int32.toInt_inj.mp (q1.trans (by decide))
      refine J.tsIn (k := 101) 127 dX12_named_7 q1 (by decide) (by decide) rfl (by decide) ?_
      refine J.aload_n 128 dX12_named_127 rfl rfl ?_
      refine mg_9 hM rfl 131 dX12_named_128 rfl ?_
      refine J.iload_n 132 dX12_named_131 rfl rfl ?_
      refine ml_ia hM p.toNatClampNeg rfl rfl rfl rfl (by assumption) 133 dX12_named_132 rfl ?_
      exact J.iret dX12_named_133 rfl (fin _ _ _ ⟨by simp (decide := true) [r_named, z1], by simp (decide := true) [r_named, z1]⟩ hM hF)
    · have z1 : c = 102 := Int32.toInt_inj.mp (q1.trans (by decide))
      refine J.tsIn (k := 102) 134 dX12_named_7 q1 (by decide) (by decide) rfl (by decide) ?_
      refine J.iload 136 dX12_named_134 rfl rfl ?_
      exact J.iret dX12_named_136 rfl (fin _ _ _ ⟨by simp (decide := true) [r_named, z1], by simp (decide := true) [r_named, z1]⟩ hM hF)
    · have z1 : c = 103 := Int32.toInt_inj.mp (q1.trans (by decide))
      refine J.tsIn (k := 103) 137 dX12_named_7 q1 (by decide) (by decide) rfl (by decide) ?_
      refine J.aload_n 138 dX12_named_137 rfl rfl ?_
      refine J.iload 140 dX12_named_138 rfl rfl ?_
      refine J.iload_n 141 dX12_named_140 rfl rfl ?_
      refine mc_211 hM hF (k_ofHanging (S := S) (m := m) (c := c) hN hn) rfl 144 dX12_named_141 rfl rfl rfl (Nat.le_of_ble_eq_true rfl) (fun r S2 hp h hM hF => ?_)
      obtain ⟨rfl, hp⟩ := hp
      replace hp := hp.symm
      subst hp
      exact J.iret dX12_named_144 rfl (fin _ _ _ ⟨by simp (decide := true) [r_named, z1], by simp (decide := true) [r_named, z1]⟩ hM hF)
    · have z1 : c = 104 := Int32.toInt_inj.mp (q1.trans (by decide))
      refine J.tsIn (k := 104) 120 dX12_named_7 q1 (by decide) (by decide) rfl (by decide) ?_
      refine J.iload 122 dX12_named_120 rfl rfl ?_
      exact J.iret dX12_named_122 rfl (fin _ _ _ ⟨by simp (decide := true) [r_named, z1], by simp (decide := true) [r_named, z1]⟩ hM hF)
    · have z1 : c = 105 := Int32.toInt_inj.mp (q1.trans (by decide))
      refine J.tsIn (k := 105) 137 dX12_named_7 q1 (by decide) (by decide) rfl (by decide) ?_
      refine J.aload_n 138 dX12_named_137 rfl rfl ?_
      refine J.iload 140 dX12_named_138 rfl rfl ?_
      refine J.iload_n 141 dX12_named_140 rfl rfl ?_
      refine mc_211 hM hF (k_ofHanging (S := S) (m := m) (c := c) hN hn) rfl 144 dX12_named_141 rfl rfl rfl (Nat.le_of_ble_eq_true rfl) (fun r S2 hp h hM hF => ?_)
      obtain ⟨rfl, hp⟩ := hp
      replace hp := hp.symm
      subst hp
      exact J.iret dX12_named_144 rfl (fin _ _ _ ⟨by simp (decide := true) [r_named, z1], by simp (decide := true) [r_named, z1]⟩ hM hF)
    · have z1 : c = 106 := Int32.toInt_inj.mp (q1.trans (by decide))
      refine J.tsIn (k := 106) 137 dX12_named_7 q1 (by decide) (by decide) rfl (by decide) ?_
      refine J.aload_n 138 dX12_named_137 rfl rfl ?_
      refine J.iload 140 dX12_named_138 rfl rfl ?_
      refine J.iload_n 141 dX12_named_140 rfl rfl ?_
      refine mc_211 hM hF (k_ofHanging (S := S) (m := m) (c := c) hN hn) rfl 144 dX12_named_141 rfl rfl rfl (Nat.le_of_ble_eq_true rfl) (fun r S2 hp h hM hF => ?_)
      obtain ⟨rfl, hp⟩ := hp
      replace hp := hp.symm
      subst hp
      exact J.iret dX12_named_144 rfl (fin _ _ _ ⟨by simp (decide := true) [r_named, z1], by simp (decide := true) [r_named, z1]⟩ hM hF)
    · have z1 : c = 107 := Int32.toInt_inj.mp (q1.trans (by decide))
      refine J.tsIn (k := 107) 137 dX12_named_7 q1 (by decide) (by decide) rfl (by decide) ?_
      refine J.aload_n 138 dX12_named_137 rfl rfl ?_
      refine J.iload 140 dX12_named_138 rfl rfl ?_
      refine J.iload_n 141 dX12_named_140 rfl rfl ?_
      refine mc_211 hM hF (k_ofHanging (S := S) (m := m) (c := c) hN hn) rfl 144 dX12_named_141 rfl rfl rfl (Nat.le_of_ble_eq_true rfl) (fun r S2 hp h hM hF => ?_)
      obtain ⟨rfl, hp⟩ := hp
      replace hp := hp.symm
      subst hp
      exact J.iret dX12_named_144 rfl (fin _ _ _ ⟨by simp (decide := true) [r_named, z1], by simp (decide := true) [r_named, z1]⟩ hM hF)
    · have z1 : c = 108 := Int32.toInt_inj.mp (q1.trans (by decide))
      refine J.tsIn (k := 108) 137 dX12_named_7 q1 (by decide) (by decide) rfl (by decide) ?_
      refine J.aload_n 138 dX12_named_137 rfl rfl ?_
      refine J.iload 140 dX12_named_138 rfl rfl ?_
      refine J.iload_n 141 dX12_named_140 rfl rfl ?_
      refine mc_211 hM hF (k_ofHanging (S := S) (m := m) (c := c) hN hn) rfl 144 dX12_named_141 rfl rfl rfl (Nat.le_of_ble_eq_true rfl) (fun r S2 hp h hM hF => ?_)
      obtain ⟨rfl, hp⟩ := hp
      replace hp := hp.symm
      subst hp
      exact J.iret dX12_named_144 rfl (fin _ _ _ ⟨by simp (decide := true) [r_named, z1], by simp (decide := true) [r_named, z1]⟩ hM hF)
    · have z1 : c = 109 := Int32.toInt_inj.mp (q1.trans (by decide))
      refine J.tsIn (k := 109) 123 dX12_named_7 q1 (by decide) (by decide) rfl (by decide) ?_
      refine J.iload_n 124 dX12_named_123 rfl rfl ?_
      exact J.iret dX12_named_124 rfl (fin _ _ _ ⟨by simp (decide := true) [r_named, z1], by simp (decide := true) [r_named, z1]⟩ hM hF)
    · have z1 : c = 110 := Int32.toInt_inj.mp (q1.trans (by decide))
      refine J.tsIn (k := 110) 137 dX12_named_7 q1 (by decide) (by decide) rfl (by decide) ?_
      refine J.aload_n 138 dX12_named_137 rfl rfl ?_
      refine J.iload 140 dX12_named_138 rfl rfl ?_
      refine J.iload_n 141 dX12_named_140 rfl rfl ?_
      refine mc_211 hM hF (k_ofHanging (S := S) (m := m) (c := c) hN hn) rfl 144 dX12_named_141 rfl rfl rfl (Nat.le_of_ble_eq_true rfl) (fun r S2 hp h hM hF => ?_)
      obtain ⟨rfl, hp⟩ := hp
      replace hp := hp.symm
      subst hp
      exact J.iret dX12_named_144 rfl (fin _ _ _ ⟨by simp (decide := true) [r_named, z1], by simp (decide := true) [r_named, z1]⟩ hM hF)
    · have z1 : c = 111 := Int32.toInt_inj.mp (q1.trans (by decide))
      refine J.tsIn (k := 111) 137 dX12_named_7 q1 (by decide) (by decide) rfl (by decide) ?_
      refine J.aload_n 138 dX12_named_137 rfl rfl ?_
      refine J.iload 140 dX12_named_138 rfl rfl ?_
      refine J.iload_n 141 dX12_named_140 rfl rfl ?_
      refine mc_211 hM hF (k_ofHanging (S := S) (m := m) (c := c) hN hn) rfl 144 dX12_named_141 rfl rfl rfl (Nat.le_of_ble_eq_true rfl) (fun r S2 hp h hM hF => ?_)
      obtain ⟨rfl, hp⟩ := hp
      replace hp := hp.symm
      subst hp
      exact J.iret dX12_named_144 rfl (fin _ _ _ ⟨by simp (decide := true) [r_named, z1], by simp (decide := true) [r_named, z1]⟩ hM hF)
    · have z1 : c = 112 := Int32.toInt_inj.mp (q1.trans (by decide))
      refine J.tsIn (k := 112) 125 dX12_named_7 q1 (by decide) (by decide) rfl (by decide) ?_
      refine J.iload_n 126 dX12_named_125 rfl rfl ?_
      exact J.iret dX12_named_126 rfl (fin _ _ _ ⟨by simp (decide := true) [r_named, z1], by simp (decide := true) [r_named, z1]⟩ hM hF)
    · have z1 : c = 113 := Int32.toInt_inj.mp (q1.trans (by decide))
      refine J.tsIn (k := 113) 137 dX12_named_7 q1 (by decide) (by decide) rfl (by decide) ?_
      refine J.aload_n 138 dX12_named_137 rfl rfl ?_
      refine J.iload 140 dX12_named_138 rfl rfl ?_
      refine J.iload_n 141 dX12_named_140 rfl rfl ?_
      refine mc_211 hM hF (k_ofHanging (S := S) (m := m) (c := c) hN hn) rfl 144 dX12_named_141 rfl rfl rfl (Nat.le_of_ble_eq_true rfl) (fun r S2 hp h hM hF => ?_)
      obtain ⟨rfl, hp⟩ := hp
      replace hp := hp.symm
      subst hp
      exact J.iret dX12_named_144 rfl (fin _ _ _ ⟨by simp (decide := true) [r_named, z1], by simp (decide := true) [r_named, z1]⟩ hM hF)
    · have z1 : c = 114 := Int32.toInt_inj.mp (q1.trans (by decide))
      refine J.tsIn (k := 114) 137 dX12_named_7 q1 (by decide) (by decide) rfl (by decide) ?_
      refine J.aload_n 138 dX12_named_137 rfl rfl ?_
      refine J.iload 140 dX12_named_138 rfl rfl ?_
      refine J.iload_n 141 dX12_named_140 rfl rfl ?_
      refine mc_211 hM hF (k_ofHanging (S := S) (m := m) (c := c) hN hn) rfl 144 dX12_named_141 rfl rfl rfl (Nat.le_of_ble_eq_true rfl) (fun r S2 hp h hM hF => ?_)
      obtain ⟨rfl, hp⟩ := hp
      replace hp := hp.symm
      subst hp
      exact J.iret dX12_named_144 rfl (fin _ _ _ ⟨by simp (decide := true) [r_named, z1], by simp (decide := true) [r_named, z1]⟩ hM hF)
    · have z1 : c = 115 := Int32.toInt_inj.mp (q1.trans (by decide))
      refine J.tsIn (k := 115) 112 dX12_named_7 q1 (by decide) (by decide) rfl (by decide) ?_
      refine J.aload_n 113 dX12_named_112 rfl rfl ?_
      refine mg_26 hM rfl 116 dX12_named_113 rfl ?_
      refine J.iload 118 dX12_named_116 rfl rfl ?_
      refine ml_ia hM ((m_hour t).toNatClampNeg) rfl rfl rfl rfl (by assumption) 119 dX12_named_118 rfl ?_
      exact J.iret dX12_named_119 rfl (fin _ _ _ ⟨by simp (decide := true) [r_named, z1], by simp (decide := true) [r_named, z1]⟩ hM hF)
    · have z1 : c = 116 := Int32.toInt_inj.mp (q1.trans (by decide))
      refine J.tsIn (k := 116) 104 dX12_named_7 q1 (by decide) (by decide) rfl (by decide) ?_
      refine J.aload_n 105 dX12_named_104 rfl rfl ?_
      refine mg_23 hM rfl 108 dX12_named_105 rfl ?_
      refine J.iload 110 dX12_named_108 rfl rfl ?_
      refine ml_ia hM ((m_hour t).toNatClampNeg) rfl rfl rfl rfl (by assumption) 111 dX12_named_110 rfl ?_
      exact J.iret dX12_named_111 rfl (fin _ _ _ ⟨by simp (decide := true) [r_named, z1], by simp (decide := true) [r_named, z1]⟩ hM hF)
    · have z1 : c = 117 := Int32.toInt_inj.mp (q1.trans (by decide))
      refine J.tsIn (k := 117) 137 dX12_named_7 q1 (by decide) (by decide) rfl (by decide) ?_
      refine J.aload_n 138 dX12_named_137 rfl rfl ?_
      refine J.iload 140 dX12_named_138 rfl rfl ?_
      refine J.iload_n 141 dX12_named_140 rfl rfl ?_
      refine mc_211 hM hF (k_ofHanging (S := S) (m := m) (c := c) hN hn) rfl 144 dX12_named_141 rfl rfl rfl (Nat.le_of_ble_eq_true rfl) (fun r S2 hp h hM hF => ?_)
      obtain ⟨rfl, hp⟩ := hp
      replace hp := hp.symm
      subst hp
      exact J.iret dX12_named_144 rfl (fin _ _ _ ⟨by simp (decide := true) [r_named, z1], by simp (decide := true) [r_named, z1]⟩ hM hF)
    · have z1 : c = 118 := Int32.toInt_inj.mp (q1.trans (by decide))
      refine J.tsIn (k := 118) 137 dX12_named_7 q1 (by decide) (by decide) rfl (by decide) ?_
      refine J.aload_n 138 dX12_named_137 rfl rfl ?_
      refine J.iload 140 dX12_named_138 rfl rfl ?_
      refine J.iload_n 141 dX12_named_140 rfl rfl ?_
      refine mc_211 hM hF (k_ofHanging (S := S) (m := m) (c := c) hN hn) rfl 144 dX12_named_141 rfl rfl rfl (Nat.le_of_ble_eq_true rfl) (fun r S2 hp h hM hF => ?_)
      obtain ⟨rfl, hp⟩ := hp
      replace hp := hp.symm
      subst hp
      exact J.iret dX12_named_144 rfl (fin _ _ _ ⟨by simp (decide := true) [r_named, z1], by simp (decide := true) [r_named, z1]⟩ hM hF)
    · have z1 : c = 119 := Int32.toInt_inj.mp (q1.trans (by decide))
      refine J.tsIn (k := 119) 96 dX12_named_7 q1 (by decide) (by decide) rfl (by decide) ?_
      refine J.aload_n 97 dX12_named_96 rfl rfl ?_
      refine mg_20 hM rfl 100 dX12_named_97 rfl ?_
      refine J.iload 102 dX12_named_100 rfl rfl ?_
      refine ml_ia hM ((m_hour t).toNatClampNeg) rfl rfl rfl rfl (by assumption) 103 dX12_named_102 rfl ?_
      exact J.iret dX12_named_103 rfl (fin _ _ _ ⟨by simp (decide := true) [r_named, z1], by simp (decide := true) [r_named, z1]⟩ hM hF)
def r_off (S : MS) (n : Nat) (l : Int32) : Int32 := if ¬ (0 ≤ l ∧ l < S.1 28) then -1 else if ¬ S.2 23 l.toNatClampNeg = 1 then -3 else r_hangN (S.1, u2 (u2 S.2 23 l.toNatClampNeg 0) 24 l.toNatClampNeg (-1)) (S.2 24 l.toNatClampNeg) 110 n
def s_off (S : MS) (l : Int32) : MS := if ¬ (0 ≤ l ∧ l < S.1 28) ∨ ¬ S.2 23 l.toNatClampNeg = 1 then S else (S.1, u2 (u2 S.2 23 l.toNatClampNeg 0) 24 l.toNatClampNeg (-1))
theorem k_off {S : MS} {l : Int32} {d : Nat} {n : Nat} (hN : S.1 28 = nI n) (hn : n ≤ 80) (hP : (0 ≤ l ∧ l < S.1 28) → vp_in l 80) : CM Y_X12_off (d + 1) [.int l] S (fun r S2 => r = some (.int (r_off S n l)) ∧ S2 = s_off S l) := by
  refine CM.of 1 rfl (fun _ => Nat.le_of_ble_eq_true rfl) (by simp [Value.category]) ?_
  intro G m0 ad h0 h post hM hF fin
  show J Y_X12_off (d + 1) G 0 0 0 [some (.ref m0), some (.int l), none] [] h post
  refine J.aload_n 1 dX12_off_0 rfl rfl ?_
  refine J.iload_n 2 dX12_off_1 rfl rfl ?_
  refine mc_228 hM hF (k_isLoad (S := S) (l := l)) rfl 5 dX12_off_2 rfl rfl rfl (Nat.le_of_ble_eq_true rfl) (fun r S2 hp h hM hF => ?_)
  obtain ⟨rfl, hp⟩ := hp
  replace hp := hp.symm
  subst hp
  refine J.if_ne 10 8 dX12_off_5 (by decide) rfl (fun c1 => ?_) (fun c1 => ?_)
  · skip
    refine J.aload_n 11 dX12_off_10 rfl rfl ?_
    refine mg_71 hM rfl 14 dX12_off_11 rfl ?_
    refine J.iload_n 15 dX12_off_14 rfl rfl ?_
    refine ml_ia hM l.toNatClampNeg rfl rfl rfl rfl (by first | assumption | exact hP (ib_n.mp (by assumption))) 16 dX12_off_15 rfl ?_
    refine J.iconst 1 17 dX12_off_16 rfl (by decide) ?_
    refine J.icmp_eq 23 20 dX12_off_17 (by decide) rfl (fun c2 => ?_) (fun c2 => ?_)
    · skip
      refine J.aload_n 24 dX12_off_23 rfl rfl ?_
      refine mg_74 hM rfl 27 dX12_off_24 rfl ?_
      refine J.iload_n 28 dX12_off_27 rfl rfl ?_
      refine ml_ia hM l.toNatClampNeg rfl rfl rfl rfl (by first | assumption | exact hP (ib_n.mp (by assumption))) 29 dX12_off_28 rfl ?_
      refine J.ist_2 30 dX12_off_29 rfl (by decide) ?_
      refine J.aload_n 31 dX12_off_30 rfl rfl ?_
      refine mg_71 hM rfl 34 dX12_off_31 rfl ?_
      refine J.iload_n 35 dX12_off_34 rfl rfl ?_
      refine J.iconst 0 36 dX12_off_35 rfl (by decide) ?_
      refine ml_is hM hF l.toNatClampNeg rfl rfl rfl (by first | assumption | exact hP (ib_n.mp (by assumption))) 37 dX12_off_36 rfl (fun h hM hF => ?_)
      refine J.aload_n 38 dX12_off_37 rfl rfl ?_
      refine mg_74 hM rfl 41 dX12_off_38 rfl ?_
      refine J.iload_n 42 dX12_off_41 rfl rfl ?_
      refine J.iconst (-1) 43 dX12_off_42 rfl (by decide) ?_
      refine ml_is hM hF l.toNatClampNeg rfl rfl rfl (by first | assumption | exact hP (ib_n.mp (by assumption))) 44 dX12_off_43 rfl (fun h hM hF => ?_)
      refine J.aload_n 45 dX12_off_44 rfl rfl ?_
      refine J.iload_n 46 dX12_off_45 rfl rfl ?_
      refine J.bipush 110 48 dX12_off_46 rfl (by decide) ?_
      refine mc_211 hM hF (k_ofHanging (S := (S.1, u2 (u2 S.2 23 l.toNatClampNeg 0) 24 l.toNatClampNeg (-1))) (m := S.2 24 l.toNatClampNeg) (c := 110) hN hn) rfl 51 dX12_off_48 rfl rfl rfl (Nat.le_of_ble_eq_true rfl) (fun r S2 hp h hM hF => ?_)
      obtain ⟨rfl, hp⟩ := hp
      replace hp := hp.symm
      subst hp
      exact J.iret dX12_off_51 rfl (fin _ _ _ ⟨by simp [r_off, s_off, ib_n.mp c1, c2], by simp [r_off, s_off, ib_n.mp c1, c2]⟩ hM hF)
    · skip
      refine J.bipush (-3) 22 dX12_off_20 rfl (by decide) ?_
      exact J.iret dX12_off_22 rfl (fin _ _ _ ⟨by simp [r_off, s_off, ib_n.mp c1, c2], by simp [r_off, s_off, ib_n.mp c1, c2]⟩ hM hF)
  · skip
    refine J.iconst (-1) 9 dX12_off_8 rfl (by decide) ?_
    exact J.iret dX12_off_9 rfl (fin _ _ _ ⟨by simp [r_off, s_off, ib_0.mp c1], by simp [r_off, s_off, ib_0.mp c1]⟩ hM hF)
def r_about (S : MS) (n : Nat) (m t : Int32) : Int32 := if ¬ (0 ≤ m ∧ m < S.1 11) then -9 else if t = 0 then S.2 9 m.toNatClampNeg else if t = 1 then S.2 10 m.toNatClampNeg else if t = 2 then r_hangN S m 110 n else if t = 3 then r_hangN S m 108 n else if t = 4 then r_liftOf S m 0 (m_hour (S.1 0)) else -9
theorem k_about {S : MS} {m : Int32} {t : Int32} {d : Nat} {n : Nat} (hN : S.1 28 = nI n) (hn : n ≤ 80) (hP : (0 ≤ m ∧ m < S.1 11) → vp_in m 4) (hH : vp_in (m_hour (S.1 0)) 12) : CM Y_X12_about (d + 1) [.int m, .int t] S (fun r S2 => r = some (.int (r_about S n m t)) ∧ S2 = S) := by
  refine CM.of 0 rfl (fun _ => Nat.le_of_ble_eq_true rfl) (by simp [Value.category]) ?_
  intro G m0 ad h0 h post hM hF fin
  show J Y_X12_about (d + 1) G 0 0 0 [some (.ref m0), some (.int m), some (.int t)] [] h post
  refine J.aload_n 1 dX12_about_0 rfl rfl ?_
  refine J.iload_n 2 dX12_about_1 rfl rfl ?_
  refine mc_215 hM hF (k_isMachine (S := S) (m := m)) rfl 5 dX12_about_2 rfl rfl rfl (Nat.le_of_ble_eq_true rfl) (fun r S2 hp h hM hF => ?_)
  obtain ⟨rfl, hp⟩ := hp
  replace hp := hp.symm
  subst hp
  refine J.if_ne 11 8 dX12_about_5 (by decide) rfl (fun c1 => ?_) (fun c1 => ?_)
  · skip
    refine J.iload_n 12 dX12_about_11 rfl rfl ?_
    by_cases c2 : (t).toInt < 0 ∨ 4 < (t).toInt
    · refine J.tsOut 92 dX12_about_12 c2 (by decide) ?_
      refine J.bipush (-9) 94 dX12_about_92 rfl (by decide) ?_
      exact J.iret dX12_about_94 rfl (fin _ _ _ ⟨by simp (decide := true) [r_about, ib_n.mp c1, sw_out c2 0 (by decide) (by decide), sw_out c2 1 (by decide) (by decide), sw_out c2 2 (by decide) (by decide), sw_out c2 3 (by decide) (by decide), sw_out c2 4 (by decide) (by decide)], by simp (decide := true) [r_about, ib_n.mp c1, sw_out c2 0 (by decide) (by decide), sw_out c2 1 (by decide) (by decide), sw_out c2 2 (by decide) (by decide), sw_out c2 3 (by decide) (by decide), sw_out c2 4 (by decide) (by decide)]⟩ hM hF)
    · have q2 : (t).toInt = 0 ∨ (t).toInt = 1 ∨ (t).toInt = 2 ∨ (t).toInt = 3 ∨ (t).toInt = 4 := by omega
      rcases q2 with q2 | q2 | q2 | q2 | q2
      · have z2 : t = 0 := Int32.toInt_inj.mp (q2.trans (by decide))
        refine J.tsIn (k := 0) 48 dX12_about_12 q2 (by decide) (by decide) rfl (by decide) ?_
        refine J.aload_n 49 dX12_about_48 rfl rfl ?_
        refine mg_35 hM rfl 52 dX12_about_49 rfl ?_
        refine J.iload_n 53 dX12_about_52 rfl rfl ?_
        refine ml_ia hM m.toNatClampNeg rfl rfl rfl rfl (by first | assumption | exact hP (ib_n.mp (by assumption))) 54 dX12_about_53 rfl ?_
        exact J.iret dX12_about_54 rfl (fin _ _ _ ⟨by simp (decide := true) [r_about, ib_n.mp c1, z2], by simp (decide := true) [r_about, ib_n.mp c1, z2]⟩ hM hF)
      · have z2 : t = 1 := Int32.toInt_inj.mp (q2.trans (by decide))
        refine J.tsIn (k := 1) 55 dX12_about_12 q2 (by decide) (by decide) rfl (by decide) ?_
        refine J.aload_n 56 dX12_about_55 rfl rfl ?_
        refine mg_38 hM rfl 59 dX12_about_56 rfl ?_
        refine J.iload_n 60 dX12_about_59 rfl rfl ?_
        refine ml_ia hM m.toNatClampNeg rfl rfl rfl rfl (by first | assumption | exact hP (ib_n.mp (by assumption))) 61 dX12_about_60 rfl ?_
        exact J.iret dX12_about_61 rfl (fin _ _ _ ⟨by simp (decide := true) [r_about, ib_n.mp c1, z2], by simp (decide := true) [r_about, ib_n.mp c1, z2]⟩ hM hF)
      · have z2 : t = 2 := Int32.toInt_inj.mp (q2.trans (by decide))
        refine J.tsIn (k := 2) 62 dX12_about_12 q2 (by decide) (by decide) rfl (by decide) ?_
        refine J.aload_n 63 dX12_about_62 rfl rfl ?_
        refine J.iload_n 64 dX12_about_63 rfl rfl ?_
        refine J.bipush 110 66 dX12_about_64 rfl (by decide) ?_
        refine mc_211 hM hF (k_ofHanging (S := S) (m := m) (c := 110) hN hn) rfl 69 dX12_about_66 rfl rfl rfl (Nat.le_of_ble_eq_true rfl) (fun r S2 hp h hM hF => ?_)
        obtain ⟨rfl, hp⟩ := hp
        replace hp := hp.symm
        subst hp
        exact J.iret dX12_about_69 rfl (fin _ _ _ ⟨by simp (decide := true) [r_about, ib_n.mp c1, z2], by simp (decide := true) [r_about, ib_n.mp c1, z2]⟩ hM hF)
      · have z2 : t = 3 := Int32.toInt_inj.mp (q2.trans (by decide))
        refine J.tsIn (k := 3) 70 dX12_about_12 q2 (by decide) (by decide) rfl (by decide) ?_
        refine J.aload_n 71 dX12_about_70 rfl rfl ?_
        refine J.iload_n 72 dX12_about_71 rfl rfl ?_
        refine J.bipush 108 74 dX12_about_72 rfl (by decide) ?_
        refine mc_211 hM hF (k_ofHanging (S := S) (m := m) (c := 108) hN hn) rfl 77 dX12_about_74 rfl rfl rfl (Nat.le_of_ble_eq_true rfl) (fun r S2 hp h hM hF => ?_)
        obtain ⟨rfl, hp⟩ := hp
        replace hp := hp.symm
        subst hp
        exact J.iret dX12_about_77 rfl (fin _ _ _ ⟨by simp (decide := true) [r_about, ib_n.mp c1, z2], by simp (decide := true) [r_about, ib_n.mp c1, z2]⟩ hM hF)
      · have z2 : t = 4 := Int32.toInt_inj.mp (q2.trans (by decide))
        refine J.tsIn (k := 4) 78 dX12_about_12 q2 (by decide) (by decide) rfl (by decide) ?_
        refine J.aload_n 79 dX12_about_78 rfl rfl ?_
        refine J.iload_n 80 dX12_about_79 rfl rfl ?_
        refine J.iconst 0 81 dX12_about_80 rfl (by decide) ?_
        refine J.aload_n 82 dX12_about_81 rfl rfl ?_
        refine mg_221 hM (x := S.1 0) rfl rfl 85 dX12_about_82 rfl ?_
        refine mc_207 (k_hourOf (m := S.1 0)) rfl 88 dX12_about_85 rfl rfl rfl (Nat.le_of_ble_eq_true rfl) ?_
        refine mc_243 hM hF (k_liftOf (S := S) (m := m) (p := 0) (x := m_hour (S.1 0)) (hP (ib_n.mp (by assumption))) (by first | assumption | (unfold vp_in; decide)) hH) rfl 91 dX12_about_88 rfl rfl rfl (Nat.le_of_ble_eq_true rfl) (fun r S2 hp h hM hF => ?_)
        obtain ⟨rfl, hp⟩ := hp
        replace hp := hp.symm
        subst hp
        exact J.iret dX12_about_91 rfl (fin _ _ _ ⟨by simp (decide := true) [r_about, ib_n.mp c1, z2], by simp (decide := true) [r_about, ib_n.mp c1, z2]⟩ hM hF)
  · skip
    refine J.bipush (-9) 10 dX12_about_8 rfl (by decide) ?_
    exact J.iret dX12_about_10 rfl (fin _ _ _ ⟨by simp (decide := true) [r_about, ib_0.mp c1], by simp (decide := true) [r_about, ib_0.mp c1]⟩ hM hF)
