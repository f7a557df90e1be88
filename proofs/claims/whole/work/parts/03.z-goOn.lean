theorem gA_v {a b e : Int32} : (if a < 0 then (1 : Int32) else (if b ≤ e then 0 else 1)) = if a < 0 then 1 else if e < b then 1 else 0 := by
  by_cases h : b ≤ e
  · rw [if_pos h, if_neg (Int32.not_lt.mpr h)]
  · rw [if_neg h, if_pos (Int32.not_le.mp h)]
theorem k_goOn0 {n u L d : Nat} {m y : Int32} : ∀ (S : MS) (k a : Nat) (hf l e : Int32), k + 0 = L → gH S n u L y → a ≤ 2000 → CM Y_X12_goOn (d + 4) [.int (nI k), .int m, .int y, .int (nI a), .int hf, .int l, .int e] S (fun r S2 => r = none ∧ gR k S S2 ∧ gB S2 = gF S n u L y 0 (gB S) (S.2 52) (S.2 54) a hf l e) := by
    intro S k a hf l e hkL hH ha
    refine CM.of 4 rfl (fun _ => Nat.le_of_ble_eq_true rfl) (by simp [Value.category]) ?_
    intro G m0 ad h0 h post hM hF fin
    obtain ⟨⟨hN, hn⟩, ⟨hU, hu⟩, hr, ⟨h51, hL5⟩, hy, ⟨rs, hrs, ers⟩, hP⟩ := id hH
    have hkL0 : k = L := hkL
    show J Y_X12_goOn (d + 4) G 0 0 0 [some (.ref m0), some (.int (nI k)), some (.int m), some (.int y), some (.int (nI a)), some (.int hf), some (.int l), some (.int e), none, none, none, none] [] h post
    have K107 : ∀ x8 : Int32, (x8 = 0 ↔ ¬ gC L (gB S) (S.2 52) e) → ∀ h, MR m0 ad S h → MF m0 ad h0 h → J Y_X12_goOn (d + 4) G 0 0 107 [some (.ref m0), some (.int (nI k)), some (.int m), some (.int y), some (.int (nI a)), some (.int hf), some (.int l), some (.int e), some (.int x8), none, none, none] [] h post := by
      intro x8 h8 h hM hF
      refine J.iload 109 dX12_goOn_107 rfl rfl ?_
      refine J.if_eq 152 112 dX12_goOn_109 (by decide) rfl (fun c1 => ?_) (fun c1 => ?_)
      · skip
        have hc := h8.mp c1
        exact J.vret dX12_goOn_152 rfl (fin _ _ _ ⟨rfl, gR.refl, (gLeaf_f hc).symm⟩ hM hF)
      · skip
        have hc := fun z => c1 (h8.mpr z)
        refine J.aload_n 113 dX12_goOn_112 rfl rfl ?_
        refine J.iload_n 114 dX12_goOn_113 rfl rfl ?_
        refine mp_277 hM hF rfl 117 dX12_goOn_114 rfl (fun h hM hF => ?_)
        refine J.aload_n 118 dX12_goOn_117 rfl rfl ?_
        refine J.iload 120 dX12_goOn_118 rfl rfl ?_
        refine mp_280 hM hF rfl 123 dX12_goOn_120 rfl (fun h hM hF => ?_)
        refine J.iconst 0 124 dX12_goOn_123 rfl (by decide) ?_
        refine J.ist_9 126 dX12_goOn_124 rfl (by decide) ?_
        have loop126 : ∀ (j3 k3 : Nat) (x93 : Int32), k3 ≤ k → k + 1 ≤ k3 + j3 → x93 = nI k3 → ∀ Sx : MS, (Sx = (vf_upd (vf_upd S.1 57 (nI k)) 56 e, ur S.2 53 (cpy (S.2 52) (S.2 53) k3))) → ∀ h, MR m0 ad Sx h → MF m0 ad h0 h → J Y_X12_goOn (d + 4) G 0 0 126 [some (.ref m0), some (.int (nI k)), some (.int m), some (.int y), some (.int (nI a)), some (.int hf), some (.int l), some (.int e), some (.int x8), some (.int x93), none, none] [] h post := by
          intro j3
          induction j3 with
          | zero => intro k _ g1 g2; exact absurd g2 (by omega)
          | succ j3 ih3 =>
            intro k3 x93 g13 g23 e93 Sx eSx h hM hF
            have q93 : x93.toNatClampNeg = k3 := by rw [e93]; exact nI_clamp (by omega)
            refine J.iload 128 dX12_goOn_126 rfl rfl ?_
            refine J.iload_n 129 dX12_goOn_128 rfl rfl ?_
            refine J.icmp_ge 152 132 dX12_goOn_129 (by decide) rfl (fun c2 => ?_) (fun c2 => ?_)
            · skip
              have hk3 : k3 = k := Nat.le_antisymm g13 ((nI_leI (by omega) (by omega)).mp (by have z := c2; rw [e93] at z; exact z))
              exact J.vret dX12_goOn_152 rfl (fin _ _ _ ⟨rfl, ⟨fun j j1 j2 j3 => by rw [eSx]; show vf_upd (vf_upd S.1 57 (nI k)) 56 e j = _; rw [vf_upd, if_neg j2, vf_upd, if_neg j3], fun j j1 j2 j3 => by rw [eSx]; exact ur_n j3, fun i hi => by rw [eSx]; rfl⟩, by
                refine Eq.trans ?_ (gLeaf_t (Classical.byContradiction hc)).symm
                rw [eSx, hk3, hkL0]
                rfl⟩ hM hF)
            · skip
              have hk3 : k3 < k := Nat.lt_of_not_le (fun y => c2 (by rw [e93]; exact nI_le y (by omega)))
              have hin3 : vp_in x93 5 := by rw [e93]; exact vp_in_nI (by omega) (by decide)
              refine J.aload_n 133 dX12_goOn_132 rfl rfl ?_
              refine mg_135 hM rfl 136 dX12_goOn_133 rfl ?_
              refine J.iload 138 dX12_goOn_136 rfl rfl ?_
              refine J.aload_n 139 dX12_goOn_138 rfl rfl ?_
              refine mg_132 hM rfl 142 dX12_goOn_139 rfl ?_
              refine J.iload 144 dX12_goOn_142 rfl rfl ?_
              refine ml_ia hM k3 q93 (x := S.2 52 k3) (by rw [eSx]; rfl) rfl rfl (by assumption) 145 dX12_goOn_144 rfl ?_
              refine ml_is hM hF k3 q93 rfl rfl (by assumption) 146 dX12_goOn_145 rfl (fun h hM hF => ?_)
              refine J.iinc_9 1 149 dX12_goOn_146 rfl (by decide) (by decide) ?_
              refine J.goto 126 dX12_goOn_149 (by decide) ?_
              exact ih3 (k3 + 1) _ (by omega) (by omega) (by rw [e93]; exact nI_1 k3) _ (by rw [eSx]; exact Prod.ext rfl cpy_s) _ hM hF
        exact loop126 (k + 1) 0 _ (Nat.zero_le _) (by omega) rfl (vf_upd (vf_upd S.1 57 (nI k)) 56 e, S.2) (Prod.ext rfl cpy_0.symm) _ hM hF
    refine J.iload_n 1 dX12_goOn_0 rfl rfl ?_
    refine J.aload_n 2 dX12_goOn_1 rfl rfl ?_
    refine mg_274 hM (x := S.1 51) rfl rfl 5 dX12_goOn_2 rfl ?_
    refine J.icmp_ne 153 8 dX12_goOn_5 (by decide) rfl (fun c3 => ?_) (fun c3 => ?_)
    · skip
      exact absurd (by rw [h51, hkL0]) c3
    · skip
      refine J.aload_n 9 dX12_goOn_8 rfl rfl ?_
      refine mg_277 hM (x := S.1 57) rfl rfl 12 dX12_goOn_9 rfl ?_
      have K1 : ∀ (v1_0 : Int32), v1_0 = (if (S.1 57) < 0 then 1 else (if (S.1 56) ≤ e then 0 else 1)) → ∀ h, MR m0 ad S h → MF m0 ad h0 h → J Y_X12_goOn (d + 4) G 0 0 29 [some (.ref m0), some (.int (nI k)), some (.int m), some (.int y), some (.int (nI a)), some (.int hf), some (.int l), some (.int e), none, none, none, none] [.int v1_0] h post := by
        intro v1_0 ev1_0 h hM hF
        refine J.ist_8 31 dX12_goOn_29 rfl (by decide) ?_
        refine J.iload 33 dX12_goOn_31 rfl rfl ?_
        refine J.if_ne 107 36 dX12_goOn_33 (by decide) rfl (fun c4 => ?_) (fun c4 => ?_)
        · skip
          have hv1 : v1_0 = if (gB S).1 < 0 then 1 else if e < (gB S).2.1 then 1 else 0 := ev1_0.trans gA_v
          exact K107 _ (by first | exact gA_1 hv1 (by assumption) | exact gA_b hv1 (by assumption) (by assumption) | exact gA_c hv1 (by assumption) (by first | (rw [← hkL0, ← hk2]; exact hI) | exact absurd (by rw [e92]; exact nI_lt hk2 (by omega)) (Int32.not_lt.mpr (by assumption))) | exact gA_d hv1 (by assumption) (hkL0 ▸ hk2) hI (by assumption) (by assumption) | exact gA_e (by assumption) (hkL0 ▸ hk2) hI (Int32.not_le.mp (by assumption))) _ hM hF
        · skip
          have hv1 : v1_0 = if (gB S).1 < 0 then 1 else if e < (gB S).2.1 then 1 else 0 := ev1_0.trans gA_v
          refine J.iload 38 dX12_goOn_36 rfl rfl ?_
          refine J.aload_n 39 dX12_goOn_38 rfl rfl ?_
          refine mg_280 hM (x := S.1 56) rfl rfl 42 dX12_goOn_39 rfl ?_
          refine J.icmp_ne 107 45 dX12_goOn_42 (by decide) rfl (fun c5 => ?_) (fun c5 => ?_)
          · skip
            exact K107 _ (by first | exact gA_1 hv1 (by assumption) | exact gA_b hv1 (by assumption) (by assumption) | exact gA_c hv1 (by assumption) (by first | (rw [← hkL0, ← hk2]; exact hI) | exact absurd (by rw [e92]; exact nI_lt hk2 (by omega)) (Int32.not_lt.mpr (by assumption))) | exact gA_d hv1 (by assumption) (hkL0 ▸ hk2) hI (by assumption) (by assumption) | exact gA_e (by assumption) (hkL0 ▸ hk2) hI (Int32.not_le.mp (by assumption))) _ hM hF
          · skip
            refine J.iconst 0 46 dX12_goOn_45 rfl (by decide) ?_
            refine J.ist_9 48 dX12_goOn_46 rfl (by decide) ?_
            have loop48 : ∀ (j2 k2 : Nat) (x92 : Int32), k2 ≤ k → k + 1 ≤ k2 + j2 → x92 = nI k2 → (∀ i, i < k2 → S.2 52 i = S.2 53 i) → ∀ h, MR m0 ad S h → MF m0 ad h0 h → J Y_X12_goOn (d + 4) G 0 0 48 [some (.ref m0), some (.int (nI k)), some (.int m), some (.int y), some (.int (nI a)), some (.int hf), some (.int l), some (.int e), some (.int v1_0), some (.int x92), none, none] [] h post := by
              intro j2
              induction j2 with
              | zero => intro k _ g1 g2; exact absurd g2 (by omega)
              | succ j2 ih2 =>
                intro k2 x92 g12 g22 e92 hI h hM hF
                have q92 : x92.toNatClampNeg = k2 := by rw [e92]; exact nI_clamp (by omega)
                refine J.iload 50 dX12_goOn_48 rfl rfl ?_
                refine J.iload_n 51 dX12_goOn_50 rfl rfl ?_
                refine J.icmp_ge 77 54 dX12_goOn_51 (by decide) rfl (fun c6 => ?_) (fun c6 => ?_)
                · skip
                  have hk2 : k2 = k := Nat.le_antisymm g12 ((nI_leI (by omega) (by omega)).mp (by have z := c6; rw [e92] at z; exact z))
                  refine J.iload 79 dX12_goOn_77 rfl rfl ?_
                  refine J.iload_n 80 dX12_goOn_79 rfl rfl ?_
                  refine J.icmp_ge 104 83 dX12_goOn_80 (by decide) rfl (fun c7 => ?_) (fun c7 => ?_)
                  · skip
                    refine J.iconst 0 105 dX12_goOn_104 rfl (by decide) ?_
                    refine J.ist_8 107 dX12_goOn_105 rfl (by decide) ?_
                    refine J.fg_9 ?_
                    exact K107 _ (by first | exact gA_1 hv1 (by assumption) | exact gA_b hv1 (by assumption) (by assumption) | exact gA_c hv1 (by assumption) (by first | (rw [← hkL0, ← hk2]; exact hI) | exact absurd (by rw [e92]; exact nI_lt hk2 (by omega)) (Int32.not_lt.mpr (by assumption))) | exact gA_d hv1 (by assumption) (hkL0 ▸ hk2) hI (by assumption) (by assumption) | exact gA_e (by assumption) (hkL0 ▸ hk2) hI (Int32.not_le.mp (by assumption))) _ hM hF
                  · skip
                    exact absurd c6 c7
                · skip
                  have hk2 : k2 < k := Nat.lt_of_not_le (fun y => c6 (by rw [e92]; exact nI_le y (by omega)))
                  have hin2 : vp_in x92 5 := by rw [e92]; exact vp_in_nI (by omega) (by decide)
                  refine J.aload_n 55 dX12_goOn_54 rfl rfl ?_
                  refine mg_132 hM rfl 58 dX12_goOn_55 rfl ?_
                  refine J.iload 60 dX12_goOn_58 rfl rfl ?_
                  refine ml_ia hM k2 q92 (x := S.2 52 k2) rfl rfl rfl (by assumption) 61 dX12_goOn_60 rfl ?_
                  refine J.aload_n 62 dX12_goOn_61 rfl rfl ?_
                  refine mg_135 hM rfl 65 dX12_goOn_62 rfl ?_
                  refine J.iload 67 dX12_goOn_65 rfl rfl ?_
                  refine ml_ia hM k2 q92 (x := S.2 53 k2) rfl rfl rfl (by assumption) 68 dX12_goOn_67 rfl ?_
                  refine J.icmp_ne 77 71 dX12_goOn_68 (by decide) rfl (fun c8 => ?_) (fun c8 => ?_)
                  · skip
                    refine J.iload 79 dX12_goOn_77 rfl rfl ?_
                    refine J.iload_n 80 dX12_goOn_79 rfl rfl ?_
                    refine J.icmp_ge 104 83 dX12_goOn_80 (by decide) rfl (fun c9 => ?_) (fun c9 => ?_)
                    · skip
                      exact absurd c9 c6
                    · skip
                      refine J.aload_n 84 dX12_goOn_83 rfl rfl ?_
                      refine mg_132 hM rfl 87 dX12_goOn_84 rfl ?_
                      refine J.iload 89 dX12_goOn_87 rfl rfl ?_
                      refine ml_ia hM k2 q92 (x := S.2 52 k2) rfl rfl rfl (by assumption) 90 dX12_goOn_89 rfl ?_
                      refine J.aload_n 91 dX12_goOn_90 rfl rfl ?_
                      refine mg_135 hM rfl 94 dX12_goOn_91 rfl ?_
                      refine J.iload 96 dX12_goOn_94 rfl rfl ?_
                      refine ml_ia hM k2 q92 (x := S.2 53 k2) rfl rfl rfl (by assumption) 97 dX12_goOn_96 rfl ?_
                      refine J.icmp_ge 104 100 dX12_goOn_97 (by decide) rfl (fun c10 => ?_) (fun c10 => ?_)
                      · skip
                        refine J.iconst 0 105 dX12_goOn_104 rfl (by decide) ?_
                        refine J.ist_8 107 dX12_goOn_105 rfl (by decide) ?_
                        refine J.fg_9 ?_
                        exact K107 _ (by first | exact gA_1 hv1 (by assumption) | exact gA_b hv1 (by assumption) (by assumption) | exact gA_c hv1 (by assumption) (by first | (rw [← hkL0, ← hk2]; exact hI) | exact absurd (by rw [e92]; exact nI_lt hk2 (by omega)) (Int32.not_lt.mpr (by assumption))) | exact gA_d hv1 (by assumption) (hkL0 ▸ hk2) hI (by assumption) (by assumption) | exact gA_e (by assumption) (hkL0 ▸ hk2) hI (Int32.not_le.mp (by assumption))) _ hM hF
                      · skip
                        refine J.iconst 1 101 dX12_goOn_100 rfl (by decide) ?_
                        refine J.goto 105 dX12_goOn_101 (by decide) ?_
                        refine J.ist_8 107 dX12_goOn_105 rfl (by decide) ?_
                        refine J.fg_9 ?_
                        exact K107 _ (by first | exact gA_1 hv1 (by assumption) | exact gA_b hv1 (by assumption) (by assumption) | exact gA_c hv1 (by assumption) (by first | (rw [← hkL0, ← hk2]; exact hI) | exact absurd (by rw [e92]; exact nI_lt hk2 (by omega)) (Int32.not_lt.mpr (by assumption))) | exact gA_d hv1 (by assumption) (hkL0 ▸ hk2) hI (by assumption) (by assumption) | exact gA_e (by assumption) (hkL0 ▸ hk2) hI (Int32.not_le.mp (by assumption))) _ hM hF
                  · skip
                    refine J.iinc_9 1 74 dX12_goOn_71 rfl (by decide) (by decide) ?_
                    refine J.goto 48 dX12_goOn_74 (by decide) ?_
                    exact ih2 (k2 + 1) _ (by omega) (by omega) (by rw [e92]; exact nI_1 k2) (lt_s hI (by assumption)) _ hM hF
            exact loop48 (k + 1) 0 _ (Nat.zero_le _) (by omega) rfl lt_0 _ hM hF
      refine J.if_lt 24 15 dX12_goOn_12 (by decide) rfl (fun c11 => ?_) (fun c11 => ?_)
      · skip
        refine J.iconst 1 25 dX12_goOn_24 rfl (by decide) ?_
        refine J.goto 29 dX12_goOn_25 (by decide) ?_
        exact K1 _ (by first | (simp only [if_pos c3, if_pos c11]; done) | (simp only [if_pos c3, if_pos c11]; rfl) | (simp [c3, c11, Int32.not_le.mpr c11]; done) | contradiction) _ hM hF
      · skip
        refine J.iload 17 dX12_goOn_15 rfl rfl ?_
        refine J.aload_n 18 dX12_goOn_17 rfl rfl ?_
        refine mg_280 hM (x := S.1 56) rfl rfl 21 dX12_goOn_18 rfl ?_
        refine J.icmp_ge 28 24 dX12_goOn_21 (by decide) rfl (fun c12 => ?_) (fun c12 => ?_)
        · skip
          refine J.iconst 0 29 dX12_goOn_28 rfl (by decide) ?_
          exact K1 _ (by first | (simp only [if_pos c3, if_neg c11, if_pos c12]; done) | (simp only [if_pos c3, if_neg c11, if_pos c12]; rfl) | (simp [c3, c11, Int32.not_lt.mp c11, c12, Int32.not_lt.mpr c12]; done) | contradiction) _ hM hF
        · skip
          refine J.iconst 1 25 dX12_goOn_24 rfl (by decide) ?_
          refine J.goto 29 dX12_goOn_25 (by decide) ?_
          exact K1 _ (by first | (simp only [if_pos c3, if_neg c11, if_neg c12]; done) | (simp only [if_pos c3, if_neg c11, if_neg c12]; rfl) | (simp [c3, c11, Int32.not_lt.mp c11, c12, Int32.not_le.mp c12]; done) | contradiction) _ hM hF
theorem thr4 {t w r : Nat} : nI t + 2 * nI w + 2 + nI r = nI (t + 2 * w + 2 + r) := by
  have e : (2 : Int32) * nI w = nI (2 * w) := (Int32.ofNat_mul 2 w).symm
  rw [e, nI_add, ← nI_add (t + 2 * w + 2) r]
  congr 1
  exact nI_add (t + 2 * w) 2
theorem fsA_gt {S : MS} {n u t : Nat} {y p f l : Int32} (h : 720 < t) : fsA S n u y p f l (722 - t) t = t := by
  cases e : 722 - t with
  | zero => rfl
  | succ j => rw [fsA, if_pos h]
theorem fsA_hit {S : MS} {n u t : Nat} {y p f l : Int32} (h : t ≤ 720) (hm : ¬ mBi S n u y p (nI t) f l = 0) : fsA S n u y p f l (722 - t) t = t := by
  rw [show 722 - t = (722 - (t + 1)) + 1 from by omega, fsA, if_neg (by omega), if_neg hm]
theorem fsA_next {S : MS} {n u t : Nat} {y p f l : Int32} (h : t ≤ 720) (hm : mBi S n u y p (nI t) f l = 0) : fsA S n u y p f l (722 - t) t = fsA S n u y p f l (722 - (t + 1)) (t + 1) := by
  rw [show 722 - t = (722 - (t + 1)) + 1 from by omega, fsA, if_neg (by omega), if_pos hm]
theorem fsA_le (S : MS) (n u : Nat) (y p f l : Int32) : ∀ j a, fsA S n u y p f l j a ≤ a + j
  | 0, _ => Nat.le_refl _
  | j + 1, a => by
    have := fsA_le S n u y p f l j (a + 1)
    simp only [fsA]
    split
    · omega
    · split <;> omega
theorem gB_p {X Y : MS} (h : pR X Y) : gB Y = gB X := by
  unfold gB
  rw [h.1 57 (by decide), h.1 56 (by decide), h.2 53 (by decide)]
theorem gR_p {k : Nat} {S X Y : MS} (h : gR k S X) (h2 : pR X Y) : gR k S Y := by
  refine ⟨fun j j1 j2 j3 => (h2.1 j j1).trans (h.1 j j1 j2 j3), fun j j1 j2 j3 => (h2.2 j j1).trans (h.2.1 j j1 j2 j3), fun i hi => ?_⟩
  rw [h2.2 52 (by decide)]
  exact h.2.2 i hi
theorem gR_rec {k k1 : Nat} {S X Y T : MS} {p : Int32} (h : gR k S X) (h2 : pR X Y) (h3 : gR (k + 1) (Y.1, u2 (u2 Y.2 54 k1 1) 52 k p) T) (h0 : S.2 54 k1 = 0) : gR k S (T.1, u2 T.2 54 k1 0) := by
  refine ⟨fun j j1 j2 j3 => (h3.1 j j1 j2 j3).trans ((h2.1 j j1).trans (h.1 j j1 j2 j3)), fun j j1 j2 j3 => ?_, fun i hi => ?_⟩
  · show u2 T.2 54 k1 0 j = _
    by_cases e : j = 54
    · subst e
      rw [u2_s, h3.2.1 54 j1 j2 j3]
      show upd (u2 (u2 Y.2 54 k1 1) 52 k p 54) k1 0 = _
      rw [u2_n (by decide), u2_s, h2.2 54 (by decide), h.2.1 54 j1 j2 j3]
      funext i
      by_cases q : i = k1
      · rw [q, pk_us, h0]
      · rw [pk_un q, pk_un q]
    · rw [u2_n e, h3.2.1 j j1 j2 j3]
      show u2 (u2 Y.2 54 k1 1) 52 k p j = _
      rw [u2_n j2, u2_n e, h2.2 j j1]
      exact h.2.1 j j1 j2 j3
  · show u2 T.2 54 k1 0 52 i = _
    rw [u2_n (by decide), h3.2.2 i (by omega)]
    show u2 (u2 Y.2 54 k1 1) 52 k p 52 i = _
    rw [u2_s, pk_un (by omega), u2_n (by decide), h2.2 52 (by decide)]
    exact h.2.2 i hi
theorem k_goOn {n u L d : Nat} {m y : Int32} : ∀ (f : Nat) (S : MS) (k a : Nat) (hf l e : Int32), k + f = L → gH S n u L y → a ≤ 2000 → CM Y_X12_goOn (d + 4 + f) [.int (nI k), .int m, .int y, .int (nI a), .int hf, .int l, .int e] S (fun r S2 => r = none ∧ gR k S S2 ∧ gB S2 = gF S n u L y f (gB S) (S.2 52) (S.2 54) a hf l e) := by
  intro f
  induction f with
  | zero => exact k_goOn0
  | succ f IH =>
    intro S k a hf l e hkL hH ha
    refine CM.of 4 rfl (fun _ => Nat.le_of_ble_eq_true rfl) (by simp [Value.category]) ?_
    intro G m0 ad h0 h post hM hF fin
    obtain ⟨⟨hN, hn⟩, ⟨hU, hu⟩, hr, ⟨h51, hL5⟩, hy, ⟨rs, hrs, ers⟩, hP⟩ := id hH
    show J Y_X12_goOn (d + 4 + f + 1) G 0 0 0 [some (.ref m0), some (.int (nI k)), some (.int m), some (.int y), some (.int (nI a)), some (.int hf), some (.int l), some (.int e), none, none, none, none] [] h post
    refine J.iload_n 1 dX12_goOn_0 rfl rfl ?_
    refine J.aload_n 2 dX12_goOn_1 rfl rfl ?_
    refine mg_274 hM (x := S.1 51) rfl rfl 5 dX12_goOn_2 rfl ?_
    refine J.icmp_ne 153 8 dX12_goOn_5 (by decide) rfl (fun c1 => ?_) (fun c1 => ?_)
    · skip
      refine J.iconst 0 154 dX12_goOn_153 rfl (by decide) ?_
      refine J.ist_8 156 dX12_goOn_154 rfl (by decide) ?_
      have loop156 : ∀ (j1 k1 : Nat) (x81 : Int32), k1 ≤ L → L + 1 ≤ k1 + j1 → x81 = nI k1 → ∀ Sx : MS, (gR k S Sx) → (gB Sx = gL S n u y (gF S n u L y f) k (S.2 52) (S.2 54) a hf l (gB S) k1) → ∀ h, MR m0 ad Sx h → MF m0 ad h0 h → J Y_X12_goOn (d + 4 + f + 1) G 0 0 156 [some (.ref m0), some (.int (nI k)), some (.int m), some (.int y), some (.int (nI a)), some (.int hf), some (.int l), some (.int e), some (.int x81), none, none, none] [] h post := by
        intro j1
        induction j1 with
        | zero => intro k _ g1 g2; exact absurd g2 (by omega)
        | succ j1 ih1 =>
          intro k1 x81 g11 g21 e81 Sx hg hB h hM hF
          have q81 : x81.toNatClampNeg = k1 := by rw [e81]; exact nI_clamp (by omega)
          refine J.iload 158 dX12_goOn_156 rfl rfl ?_
          refine J.aload_n 159 dX12_goOn_158 rfl rfl ?_
          refine mg_274 hM (x := S.1 51) (hg.1 51 (by decide) (by decide) (by decide)) rfl 162 dX12_goOn_159 rfl ?_
          refine J.icmp_ge 312 165 dX12_goOn_162 (by decide) rfl (fun c2 => ?_) (fun c2 => ?_)
          · skip
            have hk1 : k1 = L := Nat.le_antisymm g11 ((nI_leI (by omega) (by omega)).mp (by have z := c2; rw [e81, h51] at z; exact z))
            exact J.vret dX12_goOn_312 rfl (fin _ _ _ ⟨rfl, hg, by rw [hB, hk1, gF, show L - (f + 1) = k from by omega]⟩ hM hF)
          · skip
            have hk1 : k1 < L := Nat.lt_of_not_le (fun y => c2 (by rw [e81, h51]; exact nI_le y (by omega)))
            have hin1 : vp_in x81 5 := by rw [e81]; exact vp_in_nI (by omega) (by decide)
            refine J.aload_n 166 dX12_goOn_165 rfl rfl ?_
            refine mg_138 hM rfl 169 dX12_goOn_166 rfl ?_
            refine J.iload 171 dX12_goOn_169 rfl rfl ?_
            refine ml_za hM k1 q81 (x := S.2 54 k1) (congrFun (hg.2.1 54 (by decide) (by decide) (by decide)) _) rfl rfl (by assumption) 172 dX12_goOn_171 rfl ?_
            refine J.if_ne 306 175 dX12_goOn_172 (by decide) rfl (fun c3 => ?_) (fun c3 => ?_)
            · skip
              refine J.iinc_8 1 309 dX12_goOn_306 rfl (by decide) (by decide) ?_
              refine J.goto 156 dX12_goOn_309 (by decide) ?_
              exact ih1 (k1 + 1) _ (by omega) (by omega) (by rw [e81]; exact nI_1 k1) _ hg (by rw [gL, gT, if_neg (fun z => absurd z.1 (by assumption)), ← hB]) _ hM hF
            · skip
              refine J.aload_n 176 dX12_goOn_175 rfl rfl ?_
              refine mg_129 hM rfl 179 dX12_goOn_176 rfl ?_
              refine J.iload 181 dX12_goOn_179 rfl rfl ?_
              refine ml_ia hM k1 q81 (x := S.2 50 k1) (congrFun (hg.2.1 50 (by decide) (by decide) (by decide)) _) rfl rfl (by assumption) 182 dX12_goOn_181 rfl ?_
              refine J.ist_9 184 dX12_goOn_182 rfl (by decide) ?_
              refine J.iload 186 dX12_goOn_184 rfl rfl ?_
              refine J.ist_10 188 dX12_goOn_186 rfl (by decide) ?_
              have K218 : ∀ t : Nat, t = fsA S n u y (S.2 50 k1) hf l (722 - a) a → (t ≤ 720 → mB0 S y (S.2 50 k1) (nI t) hf l) → ∀ Sy : MS, pR Sx Sy → ∀ h, MR m0 ad Sy h → MF m0 ad h0 h → J Y_X12_goOn (d + 4 + f + 1) G 0 0 218 [some (.ref m0), some (.int (nI k)), some (.int m), some (.int y), some (.int (nI a)), some (.int hf), some (.int l), some (.int e), some (.int x81), some (.int (S.2 50 k1)), some (.int (nI t)), none] [] h post := by
                intro t ht hm0 Sy hpy h hM hF
                refine J.iload 220 dX12_goOn_218 rfl rfl ?_
                refine J.sipush 720 223 dX12_goOn_220 rfl (by decide) ?_
                refine J.icmp_gt 306 226 dX12_goOn_223 (by decide) rfl (fun c4 => ?_) (fun c4 => ?_)
                · skip
                  have ht7 : ¬ t ≤ 720 := fun z => absurd (nI_le z (by decide)) (Int32.not_le.mpr c4)
                  refine J.iinc_8 1 309 dX12_goOn_306 rfl (by decide) (by decide) ?_
                  refine J.goto 156 dX12_goOn_309 (by decide) ?_
                  refine J.fg_9 ?_
                  refine J.fg_10 ?_
                  exact ih1 (k1 + 1) _ (by omega) (by omega) (by rw [e81]; exact nI_1 k1) _ (gR_p hg hpy) (by rw [gL, gT, if_neg (fun z => absurd z.2 (by rw [← ht]; exact ht7)), ← hB]; exact gB_p hpy) _ hM hF
                · skip
                  have ht7 : t ≤ 720 := by
                    rcases Nat.lt_or_ge 720 t with z | z
                    · exact absurd (nI_lt z (by have := fsA_le S n u y (S.2 50 k1) hf l (722 - a) a; omega)) c4
                    · exact z
                  obtain ⟨wy, hwy, ewy⟩ := (hP k1 hk1).2
                  have hZ1 : ∀ j, j ≠ 35 → j ≠ 56 → j ≠ 57 → Sy.1 j = S.1 j := fun j j1 j2 j3 => (hpy.1 j j1).trans (hg.1 j j1 j2 j3)
                  have hZ2 : ∀ j, j ≠ 34 → j ≠ 52 → j ≠ 53 → j ≠ 54 → (u2 (u2 Sy.2 54 k1 1) 52 k (S.2 50 k1)) j = S.2 j := fun j j1 j2 j3 j4 => by rw [u2_n j2, u2_n j4, hpy.2 j j1]; exact hg.2.1 j j1 j2 j3
                  have ethr : (nI t + 2 * S.2 2 (S.2 50 k1).toNatClampNeg + 2) + S.2 13 y.toNatClampNeg = nI (t + 2 * wy + 2 + rs) := by rw [ewy, ers]; exact thr4
                  have kgo : CM Y_X12_goOn (d + 4 + f) [.int (nI k + 1), .int m, .int y, .int ((nI t + 2 * S.2 2 (S.2 50 k1).toNatClampNeg + 2) + S.2 13 y.toNatClampNeg), .int (hf + (nI t + 2 * S.2 2 (S.2 50 k1).toNatClampNeg + 2) - nI t), .int (l - 4 * S.2 2 (S.2 50 k1).toNatClampNeg), .int (nI t + 2 * S.2 2 (S.2 50 k1).toNatClampNeg + 2)] (Sy.1, u2 (u2 Sy.2 54 k1 1) 52 k (S.2 50 k1)) (fun r S2 => r = none ∧ gR (k + 1) (Sy.1, u2 (u2 Sy.2 54 k1 1) 52 k (S.2 50 k1)) S2 ∧ gB S2 = gF S n u L y f (gL S n u y (gF S n u L y f) k (S.2 52) (S.2 54) a hf l (gB S) k1) (upd (S.2 52) k (S.2 50 k1)) (upd (S.2 54) k1 1) ((nI t + 2 * S.2 2 (S.2 50 k1).toNatClampNeg + 2) + S.2 13 y.toNatClampNeg).toNatClampNeg (hf + (nI t + 2 * S.2 2 (S.2 50 k1).toNatClampNeg + 2) - nI t) (l - 4 * S.2 2 (S.2 50 k1).toNatClampNeg) (nI t + 2 * S.2 2 (S.2 50 k1).toNatClampNeg + 2)) := by
                    rw [nI_1, ethr]
                    refine (IH (Sy.1, u2 (u2 Sy.2 54 k1 1) 52 k (S.2 50 k1)) (k + 1) (t + 2 * wy + 2 + rs) (hf + (nI t + 2 * S.2 2 (S.2 50 k1).toNatClampNeg + 2) - nI t) (l - 4 * S.2 2 (S.2 50 k1).toNatClampNeg) (nI t + 2 * S.2 2 (S.2 50 k1).toNatClampNeg + 2) (by omega) (hH.of hZ1 hZ2) (by omega)).weaken (fun r S2 z => ⟨z.1, z.2.1, ?_⟩)
                    have e1 : gB (Sy.1, u2 (u2 Sy.2 54 k1 1) 52 k (S.2 50 k1)) = gL S n u y (gF S n u L y f) k (S.2 52) (S.2 54) a hf l (gB S) k1 := by rw [← hB]; exact Eq.trans (show _ = gB Sy from rfl) (gB_p hpy)
                    have e2 : u2 (u2 Sy.2 54 k1 1) 52 k (S.2 50 k1) 54 = upd (S.2 54) k1 1 := by rw [u2_n (by decide), u2_s, hpy.2 54 (by decide), hg.2.1 54 (by decide) (by decide) (by decide)]
                    rw [z.2.2, gF_lo (S := S) (T := (Sy.1, u2 (u2 Sy.2 54 k1 1) 52 k (S.2 50 k1))) (fun j hj => hZ2 j (by omega) (by omega) (by omega) (by omega)) (hZ2 50 (by decide) (by decide) (by decide) (by decide)), e1]
                    show gF S n u L y f _ (u2 (u2 Sy.2 54 k1 1) 52 k (S.2 50 k1) 52) (u2 (u2 Sy.2 54 k1 1) 52 k (S.2 50 k1) 54) _ _ _ _ = _
                    rw [e2, nI_clamp (by omega)]
                    refine gF_ext (by omega) (fun i hi => ?_)
                    rw [u2_s, u2_n (by decide), hpy.2 52 (by decide)]
                    by_cases q : i = k
                    · rw [q, pk_us, pk_us]
                    · rw [pk_un q, pk_un q]
                      exact hg.2.2 i (by omega)
                  refine J.iload 228 dX12_goOn_226 rfl rfl ?_
                  refine J.iconst 2 229 dX12_goOn_228 rfl (by decide) ?_
                  refine J.aload_n 230 dX12_goOn_229 rfl rfl ?_
                  refine mg_13 hM rfl 233 dX12_goOn_230 rfl ?_
                  refine J.iload 235 dX12_goOn_233 rfl rfl ?_
                  refine ml_ia hM ((S.2 50 k1).toNatClampNeg) rfl (x := S.2 2 ((S.2 50 k1).toNatClampNeg)) (congrFun ((hpy.2 2 (by decide)).trans (hg.2.1 2 (by decide) (by decide) (by decide))) _) rfl rfl (hP k1 hk1).1 236 dX12_goOn_235 rfl ?_
                  refine J.imul 237 dX12_goOn_236 rfl ?_
                  refine J.iadd 238 dX12_goOn_237 rfl ?_
                  refine J.iconst 2 239 dX12_goOn_238 rfl (by decide) ?_
                  refine J.iadd 240 dX12_goOn_239 rfl ?_
                  refine J.ist_11 242 dX12_goOn_240 rfl (by decide) ?_
                  refine J.aload_n 243 dX12_goOn_242 rfl rfl ?_
                  refine mg_138 hM rfl 246 dX12_goOn_243 rfl ?_
                  refine J.iload 248 dX12_goOn_246 rfl rfl ?_
                  refine J.iconst 1 249 dX12_goOn_248 rfl (by decide) ?_
                  refine ml_zs hM hF k1 q81 (Or.inr rfl) rfl rfl (by assumption) 250 dX12_goOn_249 rfl (fun h hM hF => ?_)
                  refine J.aload_n 251 dX12_goOn_250 rfl rfl ?_
                  refine mg_132 hM rfl 254 dX12_goOn_251 rfl ?_
                  refine J.iload_n 255 dX12_goOn_254 rfl rfl ?_
                  refine J.iload 257 dX12_goOn_255 rfl rfl ?_
                  refine ml_is hM hF k (nI_clamp (by omega)) rfl rfl (show vp_in (nI k) 5 from vp_in_nI (by omega) (by decide)) 258 dX12_goOn_257 rfl (fun h hM hF => ?_)
                  refine J.aload_n 259 dX12_goOn_258 rfl rfl ?_
                  refine J.iload_n 260 dX12_goOn_259 rfl rfl ?_
                  refine J.iconst 1 261 dX12_goOn_260 rfl (by decide) ?_
                  refine J.iadd 262 dX12_goOn_261 rfl ?_
                  refine J.iload_n 263 dX12_goOn_262 rfl rfl ?_
                  refine J.iload_n 264 dX12_goOn_263 rfl rfl ?_
                  refine J.iload 266 dX12_goOn_264 rfl rfl ?_
                  refine J.aload_n 267 dX12_goOn_266 rfl rfl ?_
                  refine mg_44 hM rfl 270 dX12_goOn_267 rfl ?_
                  refine J.iload_n 271 dX12_goOn_270 rfl rfl ?_
                  refine ml_ia hM y.toNatClampNeg rfl (x := S.2 13 y.toNatClampNeg) (congrFun ((hpy.2 13 (by decide)).trans (hg.2.1 13 (by decide) (by decide) (by decide))) _) rfl rfl hy 272 dX12_goOn_271 rfl ?_
                  refine J.iadd 273 dX12_goOn_272 rfl ?_
                  refine J.iload 275 dX12_goOn_273 rfl rfl ?_
                  refine J.iload 277 dX12_goOn_275 rfl rfl ?_
                  refine J.iadd 278 dX12_goOn_277 rfl ?_
                  refine J.iload 280 dX12_goOn_278 rfl rfl ?_
                  refine J.isub 281 dX12_goOn_280 rfl ?_
                  refine J.iload 283 dX12_goOn_281 rfl rfl ?_
                  refine J.iconst 4 284 dX12_goOn_283 rfl (by decide) ?_
                  refine J.aload_n 285 dX12_goOn_284 rfl rfl ?_
                  refine mg_13 hM rfl 288 dX12_goOn_285 rfl ?_
                  refine J.iload 290 dX12_goOn_288 rfl rfl ?_
                  refine ml_ia hM ((S.2 50 k1).toNatClampNeg) rfl (x := S.2 2 ((S.2 50 k1).toNatClampNeg)) (congrFun ((hpy.2 2 (by decide)).trans (hg.2.1 2 (by decide) (by decide) (by decide))) _) rfl rfl (hP k1 hk1).1 291 dX12_goOn_290 rfl ?_
                  refine J.imul 292 dX12_goOn_291 rfl ?_
                  refine J.isub 293 dX12_goOn_292 rfl ?_
                  refine J.iload 295 dX12_goOn_293 rfl rfl ?_
                  refine mc_287 hM hF kgo rfl 298 dX12_goOn_295 rfl rfl rfl (Nat.le_of_ble_eq_true rfl) (fun r T295 hp h hM hF => ?_)
                  obtain ⟨rfl, hq295⟩ := hp
                  refine J.aload_n 299 dX12_goOn_298 rfl rfl ?_
                  refine mg_138 hM rfl 302 dX12_goOn_299 rfl ?_
                  refine J.iload 304 dX12_goOn_302 rfl rfl ?_
                  refine J.iconst 0 305 dX12_goOn_304 rfl (by decide) ?_
                  refine ml_zs hM hF k1 q81 (Or.inl rfl) rfl rfl (by assumption) 306 dX12_goOn_305 rfl (fun h hM hF => ?_)
                  refine J.iinc_8 1 309 dX12_goOn_306 rfl (by decide) (by decide) ?_
                  refine J.goto 156 dX12_goOn_309 (by decide) ?_
                  refine J.fg_9 ?_
                  refine J.fg_10 ?_
                  refine J.fg_11 ?_
                  exact ih1 (k1 + 1) _ (by omega) (by omega) (by rw [e81]; exact nI_1 k1) _ (gR_rec hg hpy hq295.1 (by assumption)) (by rw [gL, gT, if_pos ⟨by assumption, by rw [← ht]; exact ht7⟩, ← ht]; exact hq295.2) _ hM hF
              have loop188 : ∀ (jj t : Nat), 1 ≤ jj → (t ≤ 720 → 722 ≤ t + jj) → t ≤ 2000 + 722 → fsA S n u y (S.2 50 k1) hf l (722 - t) t = fsA S n u y (S.2 50 k1) hf l (722 - a) a → ∀ Sy : MS, pR Sx Sy → ∀ h, MR m0 ad Sy h → MF m0 ad h0 h → J Y_X12_goOn (d + 4 + f + 1) G 0 0 188 [some (.ref m0), some (.int (nI k)), some (.int m), some (.int y), some (.int (nI a)), some (.int hf), some (.int l), some (.int e), some (.int x81), some (.int (S.2 50 k1)), some (.int (nI t)), none] [] h post := by
                intro jj
                induction jj with
                | zero => intro t g; omega
                | succ jj ihj =>
                  intro t g1 g2 g3 hA Sy hpy h hM hF
                  refine J.iload 190 dX12_goOn_188 rfl rfl ?_
                  refine J.sipush 720 193 dX12_goOn_190 rfl (by decide) ?_
                  refine J.icmp_gt 218 196 dX12_goOn_193 (by decide) rfl (fun c5 => ?_) (fun c5 => ?_)
                  · skip
                    have ht7 : 720 < t := Nat.lt_of_not_le (fun z => absurd (nI_le z (by decide)) (Int32.not_le.mpr c5))
                    exact K218 t (by rw [← hA]; exact (fsA_gt ht7).symm) (fun z => absurd z (by omega)) _ hpy _ hM hF
                  · skip
                    have ht7 : t ≤ 720 := Nat.le_of_not_lt (fun z => c5 (nI_lt z (by omega)))
                    have kmb := k_mB2 (S := S) (T := Sy) (p := (S.2 50 k1)) (f := hf) (l := l) (y := y) (t := t) (d := d + 1 + f) (L := L) hH ⟨(hpy.1 28 (by decide)).trans (hg.1 28 (by decide) (by decide) (by decide)), (hpy.1 33 (by decide)).trans (hg.1 33 (by decide) (by decide) (by decide))⟩ (fun j hj => (hpy.2 j (by omega)).trans (hg.2.1 j (by omega) (by omega) (by omega))) (hP k1 hk1).1 (by omega)
                    rw [show d + 1 + f + 3 = d + 4 + f from by omega] at kmb
                    refine J.aload_n 197 dX12_goOn_196 rfl rfl ?_
                    refine J.iload_n 198 dX12_goOn_197 rfl rfl ?_
                    refine J.iload 200 dX12_goOn_198 rfl rfl ?_
                    refine J.iload 202 dX12_goOn_200 rfl rfl ?_
                    refine J.iload 204 dX12_goOn_202 rfl rfl ?_
                    refine J.iload 206 dX12_goOn_204 rfl rfl ?_
                    refine mc_283 hM hF kmb rfl 209 dX12_goOn_206 rfl rfl rfl (Nat.le_of_ble_eq_true rfl) (fun r T206 hp h hM hF => ?_)
                    obtain ⟨rfl, hq206⟩ := hp
                    refine J.if_ne 218 212 dX12_goOn_209 (by decide) rfl (fun c6 => ?_) (fun c6 => ?_)
                    · skip
                      exact K218 t (by rw [← hA]; exact (fsA_hit ht7 (by assumption)).symm) (fun _ => (mBi_n.mp (by assumption)).1) _ (hpy.trans hq206) _ hM hF
                    · skip
                      refine J.iinc_10 1 215 dX12_goOn_212 rfl (by decide) (by decide) ?_
                      refine J.goto 188 dX12_goOn_215 (by decide) ?_
                      rw [nI_1]
                      exact ihj (t + 1) (by omega) (by omega) (by omega) (by rw [← hA]; exact (fsA_next ht7 (by assumption)).symm) _ (hpy.trans hq206) _ hM hF
              exact loop188 (722 - a + 1) a (by omega) (by omega) (by omega) rfl _ pR.refl _ hM hF
      exact loop156 (L + 1) 0 _ (Nat.zero_le _) (by omega) rfl S gR.refl rfl _ hM hF
    · skip
      exact absurd ((nI_eq (by omega) (by omega)).mp (c1.trans h51)) (by omega)
