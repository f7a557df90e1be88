theorem nI_sub1 {n : Nat} (h : 0 < n) : nI n - 1 = nI (n - 1) := by
  obtain ⟨m, rfl⟩ : ∃ m, n = m + 1 := ⟨n - 1, by omega⟩
  exact nI_m1
def arS (g : Nat → Int32) : Nat → (Nat → Int32) × Nat × Int32
  | 0 => (fun _ => 0, 0, 0)
  | k + 1 => (if (48 ≤ g k ∧ g k ≤ 57) ∧ ¬ (arS g k).2.2 = 0 ∧ 0 < (arS g k).2.1 then upd (arS g k).1 ((arS g k).2.1 - 1) ((arS g k).1 ((arS g k).2.1 - 1) * 10 + g k - 48) else if g k = 32 then (arS g k).1 else upd (arS g k).1 (arS g k).2.1 (stN (g k)),
      if (48 ≤ g k ∧ g k ≤ 57) ∧ ¬ (arS g k).2.2 = 0 ∧ 0 < (arS g k).2.1 then (arS g k).2.1 else if g k = 32 then (arS g k).2.1 else (arS g k).2.1 + 1,
      ib (48 ≤ g k ∧ g k ≤ 57))
theorem c_asRule {d : Nat} {G : Nat → Nat} {h : AH} {T B q : Nat} {g : Nat → Int32} (hq : q ≤ 60) (hT : h T = some (Ob 10 [.ref B, .int (nI q)])) (hB : h B = some (Ai 60 g)) : Ct Y_X9_asRule (d + 5) G 2 (4 + q) [.ref T] h (fun r h2 => ∃ p a, h p = none ∧ h a = none ∧ p ≠ a ∧ r = some (.ref a) ∧ h2 = hu (hu h p (Ai q (arS g q).1)) a (Ob 8 [.ref p, .int (nI (arS g q).2.1), .int (amN (arS g q).1 (arS g q).2.1), .int (ahN (arS g q).1 (arS g q).2.1)])) := by
  refine Ct.ofn 5 rfl (Nat.le_of_ble_eq_true rfl) (by simp [Value.category]) ?_
  generalize hpost : (fun (r : Option Value) (h2 : AH) => ∃ p a, h p = none ∧ h a = none ∧ p ≠ a ∧ r = some (.ref a) ∧ h2 = hu (hu h p (Ai q (arS g q).1)) a (Ob 8 [.ref p, .int (nI (arS g q).2.1), .int (amN (arS g q).1 (arS g q).2.1), .int (ahN (arS g q).1 (arS g q).2.1)])) = post
  show J Y_X9_asRule (d + 5) G 2 (4 + q) 0 [some (.ref T), none, none, none, none, none] [] h post
  refine J.aload_n 1 dX9_asRule_0 rfl rfl ?_
  refine gf_X9_15 rfl 4 dX9_asRule_1 rfl hT rfl ?_
  refine J.newi (N := q) 6 dX9_asRule_4 rfl wm_80 (nI_pos (by omega)) (nI_clamp (by omega)) (by omega) rfl rfl (fun p hp => ?_)
  have nT : T ≠ p := fun z => by rw [z, hp] at hT; cases hT
  have nB : B ≠ p := fun z => by rw [z, hp] at hB; cases hB
  have hT2 : ∀ f, hu h p (Ai q f) T = some (Ob 10 [.ref B, .int (nI q)]) := fun f => by rw [hu_n nT]; exact hT
  have hB2 : ∀ f, hu h p (Ai q f) B = some (Ai 60 g) := fun f => by rw [hu_n nB]; exact hB
  have hP2 : ∀ f, hu h p (Ai q f) p = some (Ai q f) := fun f => hu_s
  refine J.ast_1 7 dX9_asRule_6 rfl (by decide) ?_
  refine J.iconst 0 8 dX9_asRule_7 rfl (by decide) ?_
  refine J.ist_2 9 dX9_asRule_8 rfl (by decide) ?_
  refine J.iconst 0 10 dX9_asRule_9 rfl (by decide) ?_
  refine J.ist_3 11 dX9_asRule_10 rfl (by decide) ?_
  refine J.iconst 0 12 dX9_asRule_11 rfl (by decide) ?_
  refine J.ist_4 14 dX9_asRule_12 rfl (by decide) ?_
  have loop14 : ∀ (j k : Nat) (x2 x3 x4 : Int32), k ≤ q → q + 1 ≤ k + j → x4 = nI k → ∀ s : (Nat → Int32) × Nat, (arS g k = (s.1, s.2, x3)) → (x2 = nI s.2) → (s.2 ≤ k) → J Y_X9_asRule (d + 5) G 1 4 14 [some (.ref T), some (.ref p), some (.int x2), some (.int x3), some (.int x4), none] [] (hu h p (Ai q s.1)) post := by
    intro j
    induction j with
    | zero => intro k _ _ _ g1 g2; exact absurd g2 (by omega)
    | succ j ih =>
      intro k x2 x3 x4 g1 g2 e4 s eI e2 hz 
      have q4 : x4.toNatClampNeg = k := by rw [e4]; exact nI_clamp (by omega)
      refine J.iload 16 dX9_asRule_14 rfl rfl ?_
      refine J.aload_n 17 dX9_asRule_16 rfl rfl ?_
      refine gf_X9_15 rfl 20 dX9_asRule_17 rfl (hT2 _) rfl ?_
      refine J.icmp_ge 112 23 dX9_asRule_20 (by decide) rfl (fun c1 => ?_) (fun c1 => ?_)
      · skip
        have hk : k = q := Nat.le_antisymm g1 ((nI_leI (by omega) (by omega)).mp (by have z := c1; rw [e4] at z; exact z))
        refine nw_X9_30 rfl 115 dX9_asRule_112 rfl rfl rfl (fun a ha => ?_)
        have npa : p ≠ a := fun z => by rw [← z, hP2] at ha; cases ha
        refine J.dup 116 dX9_asRule_115 rfl rfl ?_
        refine J.aload_n 117 dX9_asRule_116 rfl rfl ?_
        refine J.iload_n 118 dX9_asRule_117 rfl rfl ?_
        rw [e2]
        refine cn_X9_32 rfl 121 (c_ruInit (t := q) (f := s.1) npa (hk ▸ hz) hq hu_s (by rw [hu_n npa]; exact hP2 _)) dX9_asRule_118 rfl rfl rfl (Nat.le_of_ble_eq_true rfl) (Nat.le_refl _) (Nat.le_refl _) (fun r h2 hp2 => ?_)
        obtain ⟨rfl, e9⟩ := hp2
        rw [hu_hu] at e9
        subst e9
        exact J.aret dX9_asRule_121 rfl (Or.inl ⟨_, rfl⟩) (Or.inr ⟨_, rfl⟩) (by rw [← hpost, ← hk, eI]; exact ⟨p, a, hp, (by rw [hu_n (Ne.symm npa)] at ha; exact ha), npa, rfl, rfl⟩)
      · skip
        have hk : k < q := Nat.lt_of_not_le (fun y => c1 (by rw [e4]; exact nI_le y (by omega)))
        have hin : vp_in x4 60 := by rw [e4]; exact vp_in_nI (by omega) (by decide)
        refine J.aload_n 24 dX9_asRule_23 rfl rfl ?_
        refine gf_X9_9 rfl 27 dX9_asRule_24 rfl (hT2 _) rfl ?_
        refine J.iload 29 dX9_asRule_27 rfl rfl ?_
        refine J.iald2 k q4 (x := g k) rfl 30 dX9_asRule_29 rfl (hB2 _) hin ?_
        refine cs_X9_19 rfl 33 (c_isDig (c := g k) _ _) dX9_asRule_30 rfl rfl rfl (Nat.le_of_ble_eq_true rfl) (Nat.zero_le _) (Nat.zero_le _) (fun r h2 hp => ?_)
        obtain ⟨rfl, rfl⟩ := hp
        refine J.ist_5 35 dX9_asRule_33 rfl (by decide) ?_
        refine J.iload 37 dX9_asRule_35 rfl rfl ?_
        refine J.if_eq 75 40 dX9_asRule_37 (by decide) rfl (fun c2 => ?_) (fun c2 => ?_)
        · skip
          have m1 : ¬ ((48 ≤ g k ∧ g k ≤ 57) ∧ ¬ x3 = 0 ∧ 0 < s.2) := fun z => ib_0.mp c2 z.1
          refine J.aload_n 76 dX9_asRule_75 rfl rfl ?_
          refine gf_X9_9 rfl 79 dX9_asRule_76 rfl (hT2 _) rfl ?_
          refine J.iload 81 dX9_asRule_79 rfl rfl ?_
          refine J.iald2 k q4 (x := g k) rfl 82 dX9_asRule_81 rfl (hB2 _) hin ?_
          refine J.bipush 32 84 dX9_asRule_82 rfl (by decide) ?_
          refine J.icmp_eq 103 87 dX9_asRule_84 (by decide) rfl (fun c3 => ?_) (fun c3 => ?_)
          · skip
            have m4 := c3
            refine J.iload 105 dX9_asRule_103 rfl rfl ?_
            refine J.ist_3 106 dX9_asRule_105 rfl (by decide) ?_
            refine J.iinc_4 1 109 dX9_asRule_106 rfl (by decide) (by decide) ?_
            refine J.goto 14 dX9_asRule_109 (by decide) ?_
            refine J.fg_5 ?_
            exact ih (k + 1) _ _ _ (by omega) (by omega) (by rw [e4]; exact nI_1 k) (s.1, s.2) (by rw [arS]; simp only [eI]; rw [if_neg m1, if_neg m1, if_pos m4, if_pos m4]) e2 (Nat.le_succ_of_le hz) 
          · skip
            have m4 := c3
            have q2 : x2.toNatClampNeg = s.2 := by rw [e2]; exact nI_clamp (by omega)
            have hz2 : vp_in x2 q := by rw [e2]; exact vp_in_nI (by omega) (by omega)
            refine J.aload_n 88 dX9_asRule_87 rfl rfl ?_
            refine J.iload_n 89 dX9_asRule_88 rfl rfl ?_
            refine J.aload_n 90 dX9_asRule_89 rfl rfl ?_
            refine gf_X9_9 rfl 93 dX9_asRule_90 rfl (hT2 _) rfl ?_
            refine J.iload 95 dX9_asRule_93 rfl rfl ?_
            refine J.iald2 k q4 (x := g k) rfl 96 dX9_asRule_95 rfl (hB2 _) hin ?_
            refine cs_X9_27 rfl 99 (c_stepOf (d := d) (b := g k)) dX9_asRule_96 rfl rfl rfl (Nat.le_of_ble_eq_true rfl) (Nat.zero_le _) (Nat.zero_le _) (fun r h2 hp => ?_)
            obtain ⟨rfl, rfl⟩ := hp
            refine J.iast2 s.2 q2 100 dX9_asRule_99 rfl (hP2 _) hz2 ?_
            rw [hu_hu]
            refine J.iinc_2 1 103 dX9_asRule_100 rfl (by decide) (by decide) ?_
            refine J.iload 105 dX9_asRule_103 rfl rfl ?_
            refine J.ist_3 106 dX9_asRule_105 rfl (by decide) ?_
            refine J.iinc_4 1 109 dX9_asRule_106 rfl (by decide) (by decide) ?_
            refine J.goto 14 dX9_asRule_109 (by decide) ?_
            refine J.fg_5 ?_
            exact ih (k + 1) _ _ _ (by omega) (by omega) (by rw [e4]; exact nI_1 k) (upd s.1 s.2 (stN (g k)), s.2 + 1) (by rw [arS]; simp only [eI]; rw [if_neg m1, if_neg m1, if_neg m4, if_neg m4]) (by rw [e2]; exact nI_1 s.2) (Nat.succ_le_succ hz) 
        · skip
          have m0 := ib_n.mp c2
          refine J.iload_n 41 dX9_asRule_40 rfl rfl ?_
          refine J.if_eq 75 44 dX9_asRule_41 (by decide) rfl (fun c4 => ?_) (fun c4 => ?_)
          · skip
            have m1 : ¬ ((48 ≤ g k ∧ g k ≤ 57) ∧ ¬ x3 = 0 ∧ 0 < s.2) := fun z => z.2.1 c4
            refine J.aload_n 76 dX9_asRule_75 rfl rfl ?_
            refine gf_X9_9 rfl 79 dX9_asRule_76 rfl (hT2 _) rfl ?_
            refine J.iload 81 dX9_asRule_79 rfl rfl ?_
            refine J.iald2 k q4 (x := g k) rfl 82 dX9_asRule_81 rfl (hB2 _) hin ?_
            refine J.bipush 32 84 dX9_asRule_82 rfl (by decide) ?_
            refine J.icmp_eq 103 87 dX9_asRule_84 (by decide) rfl (fun c5 => ?_) (fun c5 => ?_)
            · skip
              have m4 := c5
              refine J.iload 105 dX9_asRule_103 rfl rfl ?_
              refine J.ist_3 106 dX9_asRule_105 rfl (by decide) ?_
              refine J.iinc_4 1 109 dX9_asRule_106 rfl (by decide) (by decide) ?_
              refine J.goto 14 dX9_asRule_109 (by decide) ?_
              refine J.fg_5 ?_
              exact ih (k + 1) _ _ _ (by omega) (by omega) (by rw [e4]; exact nI_1 k) (s.1, s.2) (by rw [arS]; simp only [eI]; rw [if_neg m1, if_neg m1, if_pos m4, if_pos m4]) e2 (Nat.le_succ_of_le hz) 
            · skip
              have m4 := c5
              have q2 : x2.toNatClampNeg = s.2 := by rw [e2]; exact nI_clamp (by omega)
              have hz2 : vp_in x2 q := by rw [e2]; exact vp_in_nI (by omega) (by omega)
              refine J.aload_n 88 dX9_asRule_87 rfl rfl ?_
              refine J.iload_n 89 dX9_asRule_88 rfl rfl ?_
              refine J.aload_n 90 dX9_asRule_89 rfl rfl ?_
              refine gf_X9_9 rfl 93 dX9_asRule_90 rfl (hT2 _) rfl ?_
              refine J.iload 95 dX9_asRule_93 rfl rfl ?_
              refine J.iald2 k q4 (x := g k) rfl 96 dX9_asRule_95 rfl (hB2 _) hin ?_
              refine cs_X9_27 rfl 99 (c_stepOf (d := d) (b := g k)) dX9_asRule_96 rfl rfl rfl (Nat.le_of_ble_eq_true rfl) (Nat.zero_le _) (Nat.zero_le _) (fun r h2 hp => ?_)
              obtain ⟨rfl, rfl⟩ := hp
              refine J.iast2 s.2 q2 100 dX9_asRule_99 rfl (hP2 _) hz2 ?_
              rw [hu_hu]
              refine J.iinc_2 1 103 dX9_asRule_100 rfl (by decide) (by decide) ?_
              refine J.iload 105 dX9_asRule_103 rfl rfl ?_
              refine J.ist_3 106 dX9_asRule_105 rfl (by decide) ?_
              refine J.iinc_4 1 109 dX9_asRule_106 rfl (by decide) (by decide) ?_
              refine J.goto 14 dX9_asRule_109 (by decide) ?_
              refine J.fg_5 ?_
              exact ih (k + 1) _ _ _ (by omega) (by omega) (by rw [e4]; exact nI_1 k) (upd s.1 s.2 (stN (g k)), s.2 + 1) (by rw [arS]; simp only [eI]; rw [if_neg m1, if_neg m1, if_neg m4, if_neg m4]) (by rw [e2]; exact nI_1 s.2) (Nat.succ_le_succ hz) 
          · skip
            have m2 := c4
            refine J.iload_n 45 dX9_asRule_44 rfl rfl ?_
            refine J.if_le 75 48 dX9_asRule_45 (by decide) rfl (fun c6 => ?_) (fun c6 => ?_)
            · skip
              have m1 : ¬ ((48 ≤ g k ∧ g k ≤ 57) ∧ ¬ x3 = 0 ∧ 0 < s.2) := fun z => absurd (nI_lt z.2.2 (by omega)) (by rw [← e2]; exact Int32.not_lt.mpr c6)
              refine J.aload_n 76 dX9_asRule_75 rfl rfl ?_
              refine gf_X9_9 rfl 79 dX9_asRule_76 rfl (hT2 _) rfl ?_
              refine J.iload 81 dX9_asRule_79 rfl rfl ?_
              refine J.iald2 k q4 (x := g k) rfl 82 dX9_asRule_81 rfl (hB2 _) hin ?_
              refine J.bipush 32 84 dX9_asRule_82 rfl (by decide) ?_
              refine J.icmp_eq 103 87 dX9_asRule_84 (by decide) rfl (fun c7 => ?_) (fun c7 => ?_)
              · skip
                have m4 := c7
                refine J.iload 105 dX9_asRule_103 rfl rfl ?_
                refine J.ist_3 106 dX9_asRule_105 rfl (by decide) ?_
                refine J.iinc_4 1 109 dX9_asRule_106 rfl (by decide) (by decide) ?_
                refine J.goto 14 dX9_asRule_109 (by decide) ?_
                refine J.fg_5 ?_
                exact ih (k + 1) _ _ _ (by omega) (by omega) (by rw [e4]; exact nI_1 k) (s.1, s.2) (by rw [arS]; simp only [eI]; rw [if_neg m1, if_neg m1, if_pos m4, if_pos m4]) e2 (Nat.le_succ_of_le hz) 
              · skip
                have m4 := c7
                have q2 : x2.toNatClampNeg = s.2 := by rw [e2]; exact nI_clamp (by omega)
                have hz2 : vp_in x2 q := by rw [e2]; exact vp_in_nI (by omega) (by omega)
                refine J.aload_n 88 dX9_asRule_87 rfl rfl ?_
                refine J.iload_n 89 dX9_asRule_88 rfl rfl ?_
                refine J.aload_n 90 dX9_asRule_89 rfl rfl ?_
                refine gf_X9_9 rfl 93 dX9_asRule_90 rfl (hT2 _) rfl ?_
                refine J.iload 95 dX9_asRule_93 rfl rfl ?_
                refine J.iald2 k q4 (x := g k) rfl 96 dX9_asRule_95 rfl (hB2 _) hin ?_
                refine cs_X9_27 rfl 99 (c_stepOf (d := d) (b := g k)) dX9_asRule_96 rfl rfl rfl (Nat.le_of_ble_eq_true rfl) (Nat.zero_le _) (Nat.zero_le _) (fun r h2 hp => ?_)
                obtain ⟨rfl, rfl⟩ := hp
                refine J.iast2 s.2 q2 100 dX9_asRule_99 rfl (hP2 _) hz2 ?_
                rw [hu_hu]
                refine J.iinc_2 1 103 dX9_asRule_100 rfl (by decide) (by decide) ?_
                refine J.iload 105 dX9_asRule_103 rfl rfl ?_
                refine J.ist_3 106 dX9_asRule_105 rfl (by decide) ?_
                refine J.iinc_4 1 109 dX9_asRule_106 rfl (by decide) (by decide) ?_
                refine J.goto 14 dX9_asRule_109 (by decide) ?_
                refine J.fg_5 ?_
                exact ih (k + 1) _ _ _ (by omega) (by omega) (by rw [e4]; exact nI_1 k) (upd s.1 s.2 (stN (g k)), s.2 + 1) (by rw [arS]; simp only [eI]; rw [if_neg m1, if_neg m1, if_neg m4, if_neg m4]) (by rw [e2]; exact nI_1 s.2) (Nat.succ_le_succ hz) 
            · skip
              have m3 : 0 < s.2 := Nat.pos_of_ne_zero (fun y => c6 (by rw [e2, y]; exact Int32.le_refl _))
              have m1 : (48 ≤ g k ∧ g k ≤ 57) ∧ ¬ x3 = 0 ∧ 0 < s.2 := ⟨m0, m2, m3⟩
              have qm : (x2 - 1).toNatClampNeg = s.2 - 1 := by rw [e2, nI_sub1 m3]; exact nI_clamp (by omega)
              have hm : vp_in (x2 - 1) q := by rw [e2, nI_sub1 m3]; exact vp_in_nI (by omega) (by omega)
              refine J.aload_n 49 dX9_asRule_48 rfl rfl ?_
              refine J.iload_n 50 dX9_asRule_49 rfl rfl ?_
              refine J.iconst 1 51 dX9_asRule_50 rfl (by decide) ?_
              refine J.isub 52 dX9_asRule_51 rfl ?_
              refine J.aload_n 53 dX9_asRule_52 rfl rfl ?_
              refine J.iload_n 54 dX9_asRule_53 rfl rfl ?_
              refine J.iconst 1 55 dX9_asRule_54 rfl (by decide) ?_
              refine J.isub 56 dX9_asRule_55 rfl ?_
              refine J.iald2 (s.2 - 1) qm (x := s.1 (s.2 - 1)) rfl 57 dX9_asRule_56 rfl (hP2 _) hm ?_
              refine J.bipush 10 59 dX9_asRule_57 rfl (by decide) ?_
              refine J.imul 60 dX9_asRule_59 rfl ?_
              refine J.aload_n 61 dX9_asRule_60 rfl rfl ?_
              refine gf_X9_9 rfl 64 dX9_asRule_61 rfl (hT2 _) rfl ?_
              refine J.iload 66 dX9_asRule_64 rfl rfl ?_
              refine J.iald2 k q4 (x := g k) rfl 67 dX9_asRule_66 rfl (hB2 _) hin ?_
              refine J.iadd 68 dX9_asRule_67 rfl ?_
              refine J.bipush 48 70 dX9_asRule_68 rfl (by decide) ?_
              refine J.isub 71 dX9_asRule_70 rfl ?_
              refine J.iast2 (s.2 - 1) qm 72 dX9_asRule_71 rfl (hP2 _) hm ?_
              rw [hu_hu]
              refine J.goto 103 dX9_asRule_72 (by decide) ?_
              refine J.iload 105 dX9_asRule_103 rfl rfl ?_
              refine J.ist_3 106 dX9_asRule_105 rfl (by decide) ?_
              refine J.iinc_4 1 109 dX9_asRule_106 rfl (by decide) (by decide) ?_
              refine J.goto 14 dX9_asRule_109 (by decide) ?_
              refine J.fg_5 ?_
              exact ih (k + 1) _ _ _ (by omega) (by omega) (by rw [e4]; exact nI_1 k) (upd s.1 (s.2 - 1) (s.1 (s.2 - 1) * 10 + g k - 48), s.2) (by rw [arS]; simp only [eI]; rw [if_pos m1, if_pos m1]) e2 (Nat.le_succ_of_le hz) 
  exact loop14 (q + 1) 0 _ _ _ (Nat.zero_le _) (by omega) rfl (fun _ => 0, 0) rfl rfl (Nat.le_refl _) 
