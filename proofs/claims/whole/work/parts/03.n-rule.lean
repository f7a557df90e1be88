def s_rulN (T : MS) : Nat → MS
  | 0 => T
  | k + 1 => ((s_rulN T k).1, u2 (s_rulN T k).2 31 (60 * (s_rulN T k).1 33 + nI k).toNatClampNeg ((s_rulN T k).2 29 k))
theorem s_rulN_1 (T : MS) : ∀ k, (s_rulN T k).1 = T.1
  | 0 => rfl
  | k + 1 => s_rulN_1 T k
def r_rule (S : MS) (q : Nat) : Int32 := if S.1 33 = 10 then -2 else if 0 ≤ r_fault S q then -100 - r_fault S q else S.1 33 + 1 - 1
def s_rule (S : MS) (q : Nat) : MS := if S.1 33 = 10 then S else if 0 ≤ r_fault S q then (vf_upd S.1 30 0, S.2) else (vf_upd (s_rulN (vf_upd S.1 30 0, S.2) q).1 33 (S.1 33 + 1), u2 (s_rulN (vf_upd S.1 30 0, S.2) q).2 32 (S.1 33).toNatClampNeg (S.1 30))
theorem k_rule {S : MS} {d : Nat} {q r : Nat} (hN : S.1 30 = nI q) (hq : q ≤ 60) (hR : S.1 33 = nI r) (hr : r ≤ 10) : CM Y_X12_rule (d + 2) [] S (fun r S2 => r = some (.int (r_rule S q)) ∧ S2 = s_rule S q) := by
  refine CM.of 3 rfl (fun _ => Nat.le_of_ble_eq_true rfl) (by simp [Value.category]) ?_
  intro G m0 ad h0 h post hM hF fin
  show J Y_X12_rule (d + 2) G 0 0 0 [some (.ref m0), none, none, none] [] h post
  refine J.aload_n 1 dX12_rule_0 rfl rfl ?_
  refine mg_182 hM (x := S.1 33) rfl rfl 4 dX12_rule_1 rfl ?_
  refine J.bipush 10 6 dX12_rule_4 rfl (by decide) ?_
  refine J.icmp_ne 12 9 dX12_rule_6 (by decide) rfl (fun c1 => ?_) (fun c1 => ?_)
  · skip
    refine J.aload_n 13 dX12_rule_12 rfl rfl ?_
    refine mc_185 hM hF (k_fault (S := S)  hN hq) rfl 16 dX12_rule_13 rfl rfl rfl (Nat.le_of_ble_eq_true rfl) (fun r S2 hp h hM hF => ?_)
    obtain ⟨rfl, hp⟩ := hp
    replace hp := hp.symm
    subst hp
    refine J.ist_1 17 dX12_rule_16 rfl (by decide) ?_
    refine J.aload_n 18 dX12_rule_17 rfl rfl ?_
    refine mg_170 hM (x := S.1 30) rfl rfl 21 dX12_rule_18 rfl ?_
    refine J.ist_2 22 dX12_rule_21 rfl (by decide) ?_
    refine J.aload_n 23 dX12_rule_22 rfl rfl ?_
    refine J.iconst 0 24 dX12_rule_23 rfl (by decide) ?_
    refine mp_170 hM hF rfl 27 dX12_rule_24 rfl (fun h hM hF => ?_)
    refine J.iload_n 28 dX12_rule_27 rfl rfl ?_
    refine J.if_lt 36 31 dX12_rule_28 (by decide) rfl (fun c2 => ?_) (fun c2 => ?_)
    · skip
      refine J.iconst 0 37 dX12_rule_36 rfl (by decide) ?_
      refine J.ist_3 38 dX12_rule_37 rfl (by decide) ?_
      have hr9 : r ≤ 9 := Nat.le_of_lt_succ (Nat.lt_of_le_of_ne hr (fun z => c1 (by rw [hR, z]; rfl)))
      have loop38 : ∀ (j k : Nat) (x3 : Int32), k ≤ q → q + 1 ≤ k + j → x3 = nI k → ∀ Sx : MS, Sx = s_rulN (vf_upd S.1 30 0, S.2) k → ∀ h, MR m0 ad Sx h → MF m0 ad h0 h → J Y_X12_rule (d + 2) G 0 0 38 [some (.ref m0), some (.int (r_fault S q)), some (.int (S.1 30)), some (.int x3)] [] h post := by
        intro j
        induction j with
        | zero => intro k _ g1 g2; exact absurd g2 (by omega)
        | succ j ih =>
          intro k x3 g1 g2 e3 Sx eSx h hM hF
          have q3 : x3.toNatClampNeg = k := by rw [e3]; exact nI_clamp (by omega)
          have hx1 : Sx.1 = (vf_upd S.1 30 0, S.2).1 := by rw [eSx]; exact s_rulN_1 _ k
          have hx33 : Sx.1 33 = S.1 33 := by rw [hx1]; rfl
          have hin3 : vp_in (Sx.1 33) 10 := by rw [hx33, hR]; exact vp_in_nI (by omega) (by decide)
          refine J.iload_n 39 dX12_rule_38 rfl rfl ?_
          refine J.iload_n 40 dX12_rule_39 rfl rfl ?_
          refine J.icmp_ge 69 43 dX12_rule_40 (by decide) rfl (fun c3 => ?_) (fun c3 => ?_)
          · skip
            have hk : k = q := Nat.le_antisymm g1 ((nI_leI (by omega) (by omega)).mp (by rw [← hN, ← e3]; exact c3))
            refine J.aload_n 70 dX12_rule_69 rfl rfl ?_
            refine mg_92 hM rfl 73 dX12_rule_70 rfl ?_
            refine J.aload_n 74 dX12_rule_73 rfl rfl ?_
            refine mg_182 hM (x := Sx.1 33) rfl rfl 77 dX12_rule_74 rfl ?_
            refine J.iload_n 78 dX12_rule_77 rfl rfl ?_
            refine ml_is hM hF ((Sx.1 33).toNatClampNeg) rfl rfl rfl hin3 79 dX12_rule_78 rfl (fun h hM hF => ?_)
            refine J.aload_n 80 dX12_rule_79 rfl rfl ?_
            refine J.dup 81 dX12_rule_80 rfl rfl ?_
            refine mg_182 hM (x := Sx.1 33) rfl rfl 84 dX12_rule_81 rfl ?_
            refine J.iconst 1 85 dX12_rule_84 rfl (by decide) ?_
            refine J.iadd 86 dX12_rule_85 rfl ?_
            refine mp_182 hM hF rfl 89 dX12_rule_86 rfl (fun h hM hF => ?_)
            refine J.aload_n 90 dX12_rule_89 rfl rfl ?_
            refine mg_182 hM (x := (Sx.1 33) + 1) rfl rfl 93 dX12_rule_90 rfl ?_
            refine J.iconst 1 94 dX12_rule_93 rfl (by decide) ?_
            refine J.isub 95 dX12_rule_94 rfl ?_
            exact J.iret dX12_rule_95 rfl (fin _ _ _ ⟨by rw [hx33]; simp [r_rule, c1, c2, Int32.not_le.mpr c2, c3, Int32.not_lt.mpr c3], by rw [hx33, eSx, hk]; simp [s_rule, c1, c2, Int32.not_le.mpr c2, c3, Int32.not_lt.mpr c3]⟩ hM hF)
          · skip
            have hk : k < q := Nat.lt_of_not_le (fun z => c3 (by rw [hN, e3]; exact nI_le z (by omega)))
            have hin : vp_in x3 60 := by rw [e3]; exact vp_in_nI (by omega) (by decide)
            have hin2 : vp_in ((60 * (Sx.1 33)) + x3) 600 := by rw [hx33, e3, hR, show (60 : Int32) = nI 60 from rfl, pk_mul, nI_add]; exact vp_in_nI (by omega) (by decide)
            refine J.aload_n 44 dX12_rule_43 rfl rfl ?_
            refine mg_89 hM rfl 47 dX12_rule_44 rfl ?_
            refine J.bipush 60 49 dX12_rule_47 rfl (by decide) ?_
            refine J.aload_n 50 dX12_rule_49 rfl rfl ?_
            refine mg_182 hM (x := Sx.1 33) rfl rfl 53 dX12_rule_50 rfl ?_
            refine J.imul 54 dX12_rule_53 rfl ?_
            refine J.iload_n 55 dX12_rule_54 rfl rfl ?_
            refine J.iadd 56 dX12_rule_55 rfl ?_
            refine J.aload_n 57 dX12_rule_56 rfl rfl ?_
            refine mg_86 hM rfl 60 dX12_rule_57 rfl ?_
            refine J.iload_n 61 dX12_rule_60 rfl rfl ?_
            refine ml_ia hM k q3 (x := Sx.2 29 k) rfl rfl rfl (by assumption) 62 dX12_rule_61 rfl ?_
            refine ml_is hM hF (((60 * (Sx.1 33)) + x3).toNatClampNeg) rfl rfl rfl hin2 63 dX12_rule_62 rfl (fun h hM hF => ?_)
            refine J.iinc_3 1 66 dX12_rule_63 rfl (by decide) (by decide) ?_
            refine J.goto 38 dX12_rule_66 (by decide) ?_
            exact ih (k + 1) _ (by omega) (by omega)  (by rw [e3]; exact nI_1 k) _ (by rw [eSx, e3]; rfl) _ hM hF
      exact loop38 (q + 1) 0 _ (Nat.zero_le _) (by omega)  rfl _ rfl _ hM hF
    · skip
      refine J.bipush (-100) 33 dX12_rule_31 rfl (by decide) ?_
      refine J.iload_n 34 dX12_rule_33 rfl rfl ?_
      refine J.isub 35 dX12_rule_34 rfl ?_
      exact J.iret dX12_rule_35 rfl (fin _ _ _ ⟨by simp [r_rule, c1, c2, Int32.not_lt.mp c2], by simp [s_rule, c1, c2, Int32.not_lt.mp c2]⟩ hM hF)
  · skip
    refine J.bipush (-2) 11 dX12_rule_9 rfl (by decide) ?_
    exact J.iret dX12_rule_11 rfl (fin _ _ _ ⟨by simp [r_rule, c1], by simp [s_rule, c1]⟩ hM hF)
