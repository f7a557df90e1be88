theorem sw_out {x : Int32} {lo hi : Int} (c : x.toInt < lo ∨ hi < x.toInt) (y : Int32) (h1 : lo ≤ y.toInt) (h2 : y.toInt ≤ hi) : ¬ x = y := fun e => by subst e; omega
def r_hangN (S : MS) (m c : Int32) : Nat → Int32
  | 0 => 0
  | k + 1 => if m < 0 then (r_hangN S m c k) else (if (S.2 23 k) = 1 then (if (S.2 24 k) = m then (if c = 110 then ((r_hangN S m c k) + 1) else (if c = 108 then ((r_hangN S m c k) + (S.2 18 k)) else (if c = 114 then ((r_hangN S m c k) + (S.2 19 k)) else (if (r_hangN S m c k) ≤ (S.2 20 k) then (S.2 20 k) else (r_hangN S m c k))))) else (r_hangN S m c k)) else (r_hangN S m c k))
theorem k_ofHanging {S : MS} {m : Int32} {c : Int32} {d : Nat} {n : Nat} (hN : S.1 28 = nI n) (hn : n ≤ 80) : CM Y_X12_ofHanging d [.int m, .int c] S (fun r S2 => r = some (.int (r_hangN S m c n)) ∧ S2 = S) := by
  refine CM.of 2 rfl (fun _ => Nat.le_of_ble_eq_true rfl) (by simp [Value.category]) ?_
  intro G m0 ad h0 h post hM hF fin
  show J Y_X12_ofHanging d G 0 0 0 [some (.ref m0), some (.int m), some (.int c), none, none] [] h post
  refine J.iconst 0 1 dX12_ofHanging_0 rfl (by decide) ?_
  refine J.ist_3 2 dX12_ofHanging_1 rfl (by decide) ?_
  refine J.iconst 0 3 dX12_ofHanging_2 rfl (by decide) ?_
  refine J.ist_4 5 dX12_ofHanging_3 rfl (by decide) ?_
  have loop5 : ∀ (j k : Nat) (x3 x4 : Int32), k ≤ n → n + 1 ≤ k + j → x3 = r_hangN S m c k → x4 = nI k → ∀ h, MR m0 ad S h → MF m0 ad h0 h → J Y_X12_ofHanging d G 0 0 5 [some (.ref m0), some (.int m), some (.int c), some (.int x3), some (.int x4)] [] h post := by
    intro j
    induction j with
    | zero => intro k _ _ g1 g2; exact absurd g2 (by omega)
    | succ j ih =>
      intro k x3 x4 g1 g2 e3 e4 h hM hF
      have q4 : x4.toNatClampNeg = k := by rw [e4]; exact nI_clamp (by omega)
      refine J.iload 7 dX12_ofHanging_5 rfl rfl ?_
      refine J.aload_n 8 dX12_ofHanging_7 rfl rfl ?_
      refine mg_163 hM (x := S.1 28) rfl rfl 11 dX12_ofHanging_8 rfl ?_
      refine J.icmp_ge 117 14 dX12_ofHanging_11 (by decide) rfl (fun c1 => ?_) (fun c1 => ?_)
      · skip
        have hk : k = n := Nat.le_antisymm g1 ((nI_leI (by omega) (by omega)).mp (by rw [← hN, ← e4]; exact c1))
        refine J.iload_n 118 dX12_ofHanging_117 rfl rfl ?_
        exact J.iret dX12_ofHanging_118 rfl (fin _ _ _ ⟨by rw [e3, hk], rfl⟩ hM hF)
      · skip
        have hk : k < n := Nat.lt_of_not_le (fun z => c1 (by rw [hN, e4]; exact nI_le z (by omega)))
        have hin : vp_in x4 80 := by rw [e4]; exact vp_in_nI (by omega) (by decide)
        refine J.iload_n 15 dX12_ofHanging_14 rfl rfl ?_
        have K1 : ∀ (w1_3 : Int32), w1_3 = (if m < 0 then x3 else (if (S.2 23 k) = 1 then (if (S.2 24 k) = m then (if c = 110 then (x3 + 1) else (if c = 108 then (x3 + (S.2 18 k)) else (if c = 114 then (x3 + (S.2 19 k)) else (if x3 ≤ (S.2 20 k) then (S.2 20 k) else x3)))) else x3) else x3)) → ∀ h, MR m0 ad S h → MF m0 ad h0 h → J Y_X12_ofHanging d G 0 0 111 [some (.ref m0), some (.int m), some (.int c), some (.int w1_3), some (.int x4)] [] h post := by
          intro w1_3 ew1_3 h hM hF
          refine J.iinc_4 1 114 dX12_ofHanging_111 rfl (by decide) (by decide) ?_
          refine J.goto 5 dX12_ofHanging_114 (by decide) ?_
          exact ih (k + 1) _ _ (by omega) (by omega) (by rw [ew1_3, e3]; rfl) (by rw [e4]; exact nI_1 k) _ hM hF
        refine J.if_lt 111 18 dX12_ofHanging_15 (by decide) rfl (fun c2 => ?_) (fun c2 => ?_)
        · skip
          exact K1 _ (by simp [c1, Int32.not_le.mp c1, c2, Int32.not_le.mpr c2]) _ hM hF
        · skip
          refine J.aload_n 19 dX12_ofHanging_18 rfl rfl ?_
          refine mg_71 hM rfl 22 dX12_ofHanging_19 rfl ?_
          refine J.iload 24 dX12_ofHanging_22 rfl rfl ?_
          refine ml_ia hM k q4 rfl rfl rfl (by assumption) 25 dX12_ofHanging_24 rfl ?_
          refine J.iconst 1 26 dX12_ofHanging_25 rfl (by decide) ?_
          refine J.icmp_ne 111 29 dX12_ofHanging_26 (by decide) rfl (fun c3 => ?_) (fun c3 => ?_)
          · skip
            exact K1 _ (by simp [c1, Int32.not_le.mp c1, c2, Int32.not_lt.mp c2, c3]) _ hM hF
          · skip
            refine J.aload_n 30 dX12_ofHanging_29 rfl rfl ?_
            refine mg_74 hM rfl 33 dX12_ofHanging_30 rfl ?_
            refine J.iload 35 dX12_ofHanging_33 rfl rfl ?_
            refine ml_ia hM k q4 rfl rfl rfl (by assumption) 36 dX12_ofHanging_35 rfl ?_
            refine J.iload_n 37 dX12_ofHanging_36 rfl rfl ?_
            refine J.icmp_ne 111 40 dX12_ofHanging_37 (by decide) rfl (fun c4 => ?_) (fun c4 => ?_)
            · skip
              exact K1 _ (by simp [c1, Int32.not_le.mp c1, c2, Int32.not_lt.mp c2, c3, c4]) _ hM hF
            · skip
              refine J.iload_n 41 dX12_ofHanging_40 rfl rfl ?_
              refine J.bipush 110 43 dX12_ofHanging_41 rfl (by decide) ?_
              have K2 : ∀ (v2_0 : Int32), v2_0 = (if c = 110 then (x3 + 1) else (if c = 108 then (x3 + (S.2 18 k)) else (if c = 114 then (x3 + (S.2 19 k)) else (if x3 ≤ (S.2 20 k) then (S.2 20 k) else x3)))) → ∀ h, MR m0 ad S h → MF m0 ad h0 h → J Y_X12_ofHanging d G 0 0 110 [some (.ref m0), some (.int m), some (.int c), some (.int x3), some (.int x4)] [.int v2_0] h post := by
                intro v2_0 ev2_0 h hM hF
                refine J.ist_3 111 dX12_ofHanging_110 rfl (by decide) ?_
                exact K1 _ (by simp [c1, Int32.not_le.mp c1, c2, Int32.not_lt.mp c2, c3, c4, ev2_0]) _ hM hF
              refine J.icmp_ne 52 46 dX12_ofHanging_43 (by decide) rfl (fun c5 => ?_) (fun c5 => ?_)
              · skip
                refine J.iload_n 53 dX12_ofHanging_52 rfl rfl ?_
                refine J.bipush 108 55 dX12_ofHanging_53 rfl (by decide) ?_
                refine J.icmp_ne 70 58 dX12_ofHanging_55 (by decide) rfl (fun c6 => ?_) (fun c6 => ?_)
                · skip
                  refine J.iload_n 71 dX12_ofHanging_70 rfl rfl ?_
                  refine J.bipush 114 73 dX12_ofHanging_71 rfl (by decide) ?_
                  refine J.icmp_ne 88 76 dX12_ofHanging_73 (by decide) rfl (fun c7 => ?_) (fun c7 => ?_)
                  · skip
                    refine J.iload_n 89 dX12_ofHanging_88 rfl rfl ?_
                    refine J.aload_n 90 dX12_ofHanging_89 rfl rfl ?_
                    refine mg_62 hM rfl 93 dX12_ofHanging_90 rfl ?_
                    refine J.iload 95 dX12_ofHanging_93 rfl rfl ?_
                    refine ml_ia hM k q4 rfl rfl rfl (by assumption) 96 dX12_ofHanging_95 rfl ?_
                    refine J.icmp_le 103 99 dX12_ofHanging_96 (by decide) rfl (fun c8 => ?_) (fun c8 => ?_)
                    · skip
                      refine J.aload_n 104 dX12_ofHanging_103 rfl rfl ?_
                      refine mg_62 hM rfl 107 dX12_ofHanging_104 rfl ?_
                      refine J.iload 109 dX12_ofHanging_107 rfl rfl ?_
                      refine ml_ia hM k q4 rfl rfl rfl (by assumption) 110 dX12_ofHanging_109 rfl ?_
                      exact K2 _ (by simp [c1, Int32.not_le.mp c1, c2, Int32.not_lt.mp c2, c3, c4, c5, c6, c7, c8, Int32.not_lt.mpr c8]) _ hM hF
                    · skip
                      refine J.iload_n 100 dX12_ofHanging_99 rfl rfl ?_
                      refine J.goto 110 dX12_ofHanging_100 (by decide) ?_
                      exact K2 _ (by simp [c1, Int32.not_le.mp c1, c2, Int32.not_lt.mp c2, c3, c4, c5, c6, c7, c8, Int32.not_le.mp c8]) _ hM hF
                  · skip
                    refine J.iload_n 77 dX12_ofHanging_76 rfl rfl ?_
                    refine J.aload_n 78 dX12_ofHanging_77 rfl rfl ?_
                    refine mg_59 hM rfl 81 dX12_ofHanging_78 rfl ?_
                    refine J.iload 83 dX12_ofHanging_81 rfl rfl ?_
                    refine ml_ia hM k q4 rfl rfl rfl (by assumption) 84 dX12_ofHanging_83 rfl ?_
                    refine J.iadd 85 dX12_ofHanging_84 rfl ?_
                    refine J.goto 110 dX12_ofHanging_85 (by decide) ?_
                    exact K2 _ (by simp [c1, Int32.not_le.mp c1, c2, Int32.not_lt.mp c2, c3, c4, c5, c6, c7]) _ hM hF
                · skip
                  refine J.iload_n 59 dX12_ofHanging_58 rfl rfl ?_
                  refine J.aload_n 60 dX12_ofHanging_59 rfl rfl ?_
                  refine mg_56 hM rfl 63 dX12_ofHanging_60 rfl ?_
                  refine J.iload 65 dX12_ofHanging_63 rfl rfl ?_
                  refine ml_ia hM k q4 rfl rfl rfl (by assumption) 66 dX12_ofHanging_65 rfl ?_
                  refine J.iadd 67 dX12_ofHanging_66 rfl ?_
                  refine J.goto 110 dX12_ofHanging_67 (by decide) ?_
                  exact K2 _ (by simp [c1, Int32.not_le.mp c1, c2, Int32.not_lt.mp c2, c3, c4, c5, c6]) _ hM hF
              · skip
                refine J.iload_n 47 dX12_ofHanging_46 rfl rfl ?_
                refine J.iconst 1 48 dX12_ofHanging_47 rfl (by decide) ?_
                refine J.iadd 49 dX12_ofHanging_48 rfl ?_
                refine J.goto 110 dX12_ofHanging_49 (by decide) ?_
                exact K2 _ (by simp [c1, Int32.not_le.mp c1, c2, Int32.not_lt.mp c2, c3, c4, c5]) _ hM hF
  exact loop5 (n + 1) 0 _ _ (Nat.zero_le _) (by omega) rfl rfl _ hM hF
