def mB0 (S : MS) (y p t f l : Int32) : Prop := t + 2 * S.2 2 p.toNatClampNeg + 2 ≤ 720 ∧ 4 * S.2 2 p.toNatClampNeg + 10 ≤ l ∧ f + (t + 2 * S.2 2 p.toNatClampNeg + 2) - t ≤ S.2 12 y.toNatClampNeg
def mB (S : MS) (n u : Nat) (y p t f l : Int32) : Prop := mB0 S y p t f l ∧ ∀ i, i < u → ¬ rEv S n i t p (-1) f = 0
noncomputable def mBi (S : MS) (n k : Nat) (y p t f l : Int32) : Int32 := @ib (mB S n k y p t f l) (Classical.propDecidable _)
theorem mBi_0 {S : MS} {n k : Nat} {y p t f l : Int32} : mBi S n k y p t f l = 0 ↔ ¬ mB S n k y p t f l := @ib_0 _ (Classical.propDecidable _)
theorem mBi_n {S : MS} {n k : Nat} {y p t f l : Int32} : ¬ mBi S n k y p t f l = 0 ↔ mB S n k y p t f l := @ib_n _ (Classical.propDecidable _)
theorem mBi_01 {S : MS} {n k : Nat} {y p t f l : Int32} : mBi S n k y p t f l = 0 ∨ mBi S n k y p t f l = 1 := @ib_01 _ (Classical.propDecidable _)
theorem mBi_t {S : MS} {n k : Nat} {y p t f l : Int32} (h : mB S n k y p t f l) : mBi S n k y p t f l = 1 := @ib_t _ (Classical.propDecidable _) h
theorem mBi_f {S : MS} {n k : Nat} {y p t f l : Int32} (h : ¬ mB S n k y p t f l) : mBi S n k y p t f l = 0 := @ib_f _ (Classical.propDecidable _) h
theorem mBi_s {S : MS} {n k : Nat} {y p t f l x : Int32} (hx : x = mBi S n k y p t f l) (h0 : ¬ x = 0) : (if rEv S n k t p (-1) f = 0 then 0 else 1) = mBi S n (k + 1) y p t f l := by
  have hm := mBi_n.mp (hx ▸ h0)
  by_cases e : rEv S n k t p (-1) f = 0
  · rw [if_pos e, mBi_f (fun z => z.2 k (by omega) e)]
  · rw [if_neg e, mBi_t]
    refine ⟨hm.1, fun i hi => ?_⟩
    by_cases q : i = k
    · rw [q]; exact e
    · exact hm.2 i (by omega)
theorem mBi_e {S : MS} {n k u : Nat} {y p t f l x : Int32} (hx : x = mBi S n k y p t f l) (h0 : x = 0) (hk : k ≤ u) : x = mBi S n u y p t f l := by
  rw [h0, mBi_f]
  intro z
  exact mBi_0.mp (hx ▸ h0) ⟨z.1, fun i hi => z.2 i (by omega)⟩
theorem mBi_i {S : MS} {n : Nat} {y p t f l x : Int32} (hx : x = if 720 < t + 2 * S.2 2 p.toNatClampNeg + 2 then 0 else if l < 4 * S.2 2 p.toNatClampNeg + 10 then 0 else if S.2 12 y.toNatClampNeg < f + (t + 2 * S.2 2 p.toNatClampNeg + 2) - t then 0 else 1) : x = mBi S n 0 y p t f l := by
  rw [hx]
  by_cases e1 : 720 < t + 2 * S.2 2 p.toNatClampNeg + 2
  · rw [if_pos e1, mBi_f (fun z => absurd z.1.1 (Int32.not_le.mpr e1))]
  · by_cases e2 : l < 4 * S.2 2 p.toNatClampNeg + 10
    · rw [if_neg e1, if_pos e2, mBi_f (fun z => absurd z.1.2.1 (Int32.not_le.mpr e2))]
    · by_cases e3 : S.2 12 y.toNatClampNeg < f + (t + 2 * S.2 2 p.toNatClampNeg + 2) - t
      · rw [if_neg e1, if_neg e2, if_pos e3, mBi_f (fun z => absurd z.1.2.2 (Int32.not_le.mpr e3))]
      · rw [if_neg e1, if_neg e2, if_neg e3, mBi_t ⟨⟨Int32.not_lt.mp e1, Int32.not_lt.mp e2, Int32.not_lt.mp e3⟩, fun i hi => absurd hi (Nat.not_lt_zero _)⟩]
theorem k_mayBegin {S : MS} {y p t f l : Int32} {d n u : Nat} (hN : S.1 28 = nI n) (hn : n ≤ 80) (hU : S.1 33 = nI u) (hu : u ≤ 10) (hr : rOK S u) (hp : vp_in p 12) (hy : vp_in y 6) (ht : vp_in (m_hour t) 12) : CM Y_X12_mayBegin (d + 3) [.int y, .int p, .int t, .int f, .int l] S (fun r S2 => r = some (.int (mBi S n u y p t f l)) ∧ pR S S2) := by
  refine CM.of 3 rfl (fun _ => Nat.le_of_ble_eq_true rfl) (by simp [Value.category]) ?_
  intro G m0 ad h0 h post hM hF fin
  show J Y_X12_mayBegin (d + 3) G 0 0 0 [some (.ref m0), some (.int y), some (.int p), some (.int t), some (.int f), some (.int l), none, none, none] [] h post
  refine J.iload_n 1 dX12_mayBegin_0 rfl rfl ?_
  refine J.iconst 2 2 dX12_mayBegin_1 rfl (by decide) ?_
  refine J.aload_n 3 dX12_mayBegin_2 rfl rfl ?_
  refine mg_13 hM rfl 6 dX12_mayBegin_3 rfl ?_
  refine J.iload_n 7 dX12_mayBegin_6 rfl rfl ?_
  refine ml_ia hM p.toNatClampNeg rfl (x := S.2 2 p.toNatClampNeg) rfl rfl rfl hp 8 dX12_mayBegin_7 rfl ?_
  refine J.imul 9 dX12_mayBegin_8 rfl ?_
  refine J.iadd 10 dX12_mayBegin_9 rfl ?_
  refine J.iconst 2 11 dX12_mayBegin_10 rfl (by decide) ?_
  refine J.iadd 12 dX12_mayBegin_11 rfl ?_
  refine J.ist_6 14 dX12_mayBegin_12 rfl (by decide) ?_
  refine J.iload 16 dX12_mayBegin_14 rfl rfl ?_
  refine J.sipush 720 19 dX12_mayBegin_16 rfl (by decide) ?_
  have K1 : ∀ (v1_0 : Int32), v1_0 = (if 720 < ((t + (2 * (S.2 2 p.toNatClampNeg))) + 2) then 0 else (if l < ((4 * (S.2 2 p.toNatClampNeg)) + 10) then 0 else (if (S.2 12 y.toNatClampNeg) < ((f + ((t + (2 * (S.2 2 p.toNatClampNeg))) + 2)) - t) then 0 else 1))) → ∀ h, MR m0 ad S h → MF m0 ad h0 h → J Y_X12_mayBegin (d + 3) G 0 0 59 [some (.ref m0), some (.int y), some (.int p), some (.int t), some (.int f), some (.int l), some (.int ((t + (2 * (S.2 2 p.toNatClampNeg))) + 2)), none, none] [.int v1_0] h post := by
    intro v1_0 ev1_0 h hM hF
    refine J.ist_7 61 dX12_mayBegin_59 rfl (by decide) ?_
    refine J.iconst 0 62 dX12_mayBegin_61 rfl (by decide) ?_
    refine J.ist_8 64 dX12_mayBegin_62 rfl (by decide) ?_
    have loop64 : ∀ (j k : Nat) (x7 x8 : Int32), k ≤ u → u + 1 ≤ k + j → x8 = nI k → ∀ Sx : MS, (x7 = mBi S n k y p t f l) → (pR S Sx) → ∀ h, MR m0 ad Sx h → MF m0 ad h0 h → J Y_X12_mayBegin (d + 3) G 0 0 64 [some (.ref m0), some (.int y), some (.int p), some (.int t), some (.int f), some (.int l), some (.int ((t + (2 * (S.2 2 p.toNatClampNeg))) + 2)), some (.int x7), some (.int x8)] [] h post := by
      intro j
      induction j with
      | zero => intro k _ _ g1 g2; exact absurd g2 (by omega)
      | succ j ih =>
        intro k x7 x8 g1 g2 e8 Sx e7 hR h hM hF
        have q8 : x8.toNatClampNeg = k := by rw [e8]; exact nI_clamp (by omega)
        refine J.iload 66 dX12_mayBegin_64 rfl rfl ?_
        refine J.aload_n 67 dX12_mayBegin_66 rfl rfl ?_
        refine mg_182 hM (x := S.1 33) (hR.1 33 (by decide)) rfl 70 dX12_mayBegin_67 rfl ?_
        refine J.icmp_ge 105 73 dX12_mayBegin_70 (by decide) rfl (fun c1 => ?_) (fun c1 => ?_)
        · skip
          have hk : k = u := Nat.le_antisymm g1 ((nI_leI (by omega) (by omega)).mp (by have z := c1; rw [e8, hU] at z; exact z))
          refine J.iload 107 dX12_mayBegin_105 rfl rfl ?_
          exact J.zret dX12_mayBegin_107 rfl (by rw [e7]; exact mBi_01) (fin _ _ _ ⟨by rw [e7, hk], hR⟩ hM hF)
        · skip
          have hk : k < u := Nat.lt_of_not_le (fun y => c1 (by rw [e8, hU]; exact nI_le y (by omega)))
          have hin : vp_in x8 10 := by rw [e8]; exact vp_in_nI (by omega) (by decide)
          refine J.iload 75 dX12_mayBegin_73 rfl rfl ?_
          refine J.if_eq 105 78 dX12_mayBegin_75 (by decide) rfl (fun c2 => ?_) (fun c2 => ?_)
          · skip
            refine J.iload 107 dX12_mayBegin_105 rfl rfl ?_
            exact J.zret dX12_mayBegin_107 rfl (by rw [e7]; exact mBi_01) (fin _ _ _ ⟨by rw [← mBi_e e7 (by assumption) g1], hR⟩ hM hF)
          · skip
            have kw := k_rEv (S := S) (T := Sx) (n := n) (u := u) (i := k) (d := d) (t := t) (p := p) (m := -1) (f := f) hR hN hn hr hu hk hp ht
            rw [← e8] at kw
            refine J.aload_n 79 dX12_mayBegin_78 rfl rfl ?_
            refine J.iload 81 dX12_mayBegin_79 rfl rfl ?_
            refine J.iload_n 82 dX12_mayBegin_81 rfl rfl ?_
            refine J.iload_n 83 dX12_mayBegin_82 rfl rfl ?_
            refine J.iconst (-1) 84 dX12_mayBegin_83 rfl (by decide) ?_
            refine J.iload 86 dX12_mayBegin_84 rfl rfl ?_
            refine mc_224 hM hF kw rfl 89 dX12_mayBegin_86 rfl rfl rfl (Nat.le_of_ble_eq_true rfl) (fun r T86 hp h hM hF => ?_)
            obtain ⟨rfl, hq86⟩ := hp
            have K2 : ∀ (v2_0 : Int32), v2_0 = (if (rEv S n k t p (-1) f) = 0 then 0 else 1) → ∀ h, MR m0 ad T86 h → MF m0 ad h0 h → J Y_X12_mayBegin (d + 3) G 0 0 97 [some (.ref m0), some (.int y), some (.int p), some (.int t), some (.int f), some (.int l), some (.int ((t + (2 * (S.2 2 p.toNatClampNeg))) + 2)), some (.int x7), some (.int x8)] [.int v2_0] h post := by
              intro v2_0 ev2_0 h hM hF
              refine J.ist_7 99 dX12_mayBegin_97 rfl (by decide) ?_
              refine J.iinc_8 1 102 dX12_mayBegin_99 rfl (by decide) (by decide) ?_
              refine J.goto 64 dX12_mayBegin_102 (by decide) ?_
              exact ih (k + 1) _ _ (by omega) (by omega) (by rw [e8]; exact nI_1 k) _ (by rw [ev2_0]; exact mBi_s e7 (by assumption)) hq86 _ hM hF
            refine J.if_eq 96 92 dX12_mayBegin_89 (by decide) rfl (fun c3 => ?_) (fun c3 => ?_)
            · skip
              refine J.iconst 0 97 dX12_mayBegin_96 rfl (by decide) ?_
              exact K2 _ (by first | (simp only [if_neg c1, if_neg c2, if_pos c3]; done) | (simp only [if_neg c1, if_neg c2, if_pos c3]; rfl) | (simp [c1, Int32.not_le.mp c1, c2, c3]; done) | contradiction) _ hM hF
            · skip
              refine J.iconst 1 93 dX12_mayBegin_92 rfl (by decide) ?_
              refine J.goto 97 dX12_mayBegin_93 (by decide) ?_
              exact K2 _ (by first | (simp only [if_neg c1, if_neg c2, if_neg c3]; done) | (simp only [if_neg c1, if_neg c2, if_neg c3]; rfl) | (simp [c1, Int32.not_le.mp c1, c2, c3]; done) | contradiction) _ hM hF
    exact loop64 (u + 1) 0 _ _ (Nat.zero_le _) (by omega) rfl S (mBi_i (by assumption)) pR.refl _ hM hF
  refine J.icmp_gt 58 22 dX12_mayBegin_19 (by decide) rfl (fun c4 => ?_) (fun c4 => ?_)
  · skip
    refine J.iconst 0 59 dX12_mayBegin_58 rfl (by decide) ?_
    exact K1 _ (by first | (simp only [if_pos c4]; done) | (simp only [if_pos c4]; rfl) | (simp [c4, Int32.not_le.mpr c4]; done) | contradiction) _ hM hF
  · skip
    refine J.iconst 4 23 dX12_mayBegin_22 rfl (by decide) ?_
    refine J.aload_n 24 dX12_mayBegin_23 rfl rfl ?_
    refine mg_13 hM rfl 27 dX12_mayBegin_24 rfl ?_
    refine J.iload_n 28 dX12_mayBegin_27 rfl rfl ?_
    refine ml_ia hM p.toNatClampNeg rfl (x := S.2 2 p.toNatClampNeg) rfl rfl rfl hp 29 dX12_mayBegin_28 rfl ?_
    refine J.imul 30 dX12_mayBegin_29 rfl ?_
    refine J.bipush 10 32 dX12_mayBegin_30 rfl (by decide) ?_
    refine J.iadd 33 dX12_mayBegin_32 rfl ?_
    refine J.iload 35 dX12_mayBegin_33 rfl rfl ?_
    refine J.icmp_gt 58 38 dX12_mayBegin_35 (by decide) rfl (fun c5 => ?_) (fun c5 => ?_)
    · skip
      refine J.iconst 0 59 dX12_mayBegin_58 rfl (by decide) ?_
      exact K1 _ (by first | (simp only [if_neg c4, if_pos c5]; done) | (simp only [if_neg c4, if_pos c5]; rfl) | (simp [c4, Int32.not_lt.mp c4, c5, Int32.not_le.mpr c5]; done) | contradiction) _ hM hF
    · skip
      refine J.iload 40 dX12_mayBegin_38 rfl rfl ?_
      refine J.iload 42 dX12_mayBegin_40 rfl rfl ?_
      refine J.iadd 43 dX12_mayBegin_42 rfl ?_
      refine J.iload_n 44 dX12_mayBegin_43 rfl rfl ?_
      refine J.isub 45 dX12_mayBegin_44 rfl ?_
      refine J.aload_n 46 dX12_mayBegin_45 rfl rfl ?_
      refine mg_41 hM rfl 49 dX12_mayBegin_46 rfl ?_
      refine J.iload_n 50 dX12_mayBegin_49 rfl rfl ?_
      refine ml_ia hM y.toNatClampNeg rfl (x := S.2 12 y.toNatClampNeg) rfl rfl rfl hy 51 dX12_mayBegin_50 rfl ?_
      refine J.icmp_gt 58 54 dX12_mayBegin_51 (by decide) rfl (fun c6 => ?_) (fun c6 => ?_)
      · skip
        refine J.iconst 0 59 dX12_mayBegin_58 rfl (by decide) ?_
        exact K1 _ (by first | (simp only [if_neg c4, if_neg c5, if_pos c6]; done) | (simp only [if_neg c4, if_neg c5, if_pos c6]; rfl) | (simp [c4, Int32.not_lt.mp c4, c5, Int32.not_lt.mp c5, c6, Int32.not_le.mpr c6]; done) | contradiction) _ hM hF
      · skip
        refine J.iconst 1 55 dX12_mayBegin_54 rfl (by decide) ?_
        refine J.goto 59 dX12_mayBegin_55 (by decide) ?_
        exact K1 _ (by first | (simp only [if_neg c4, if_neg c5, if_neg c6]; done) | (simp only [if_neg c4, if_neg c5, if_neg c6]; rfl) | (simp [c4, Int32.not_lt.mp c4, c5, Int32.not_lt.mp c5, c6, Int32.not_lt.mp c6]; done) | contradiction) _ hM hF
