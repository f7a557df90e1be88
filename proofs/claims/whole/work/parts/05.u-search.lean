def afB (S : MS) (wn : Nat → Option Nat) : Nat → Int32
  | 0 => 0
  | k + 1 => afB S wn k + 4 * S.2 2 (wf wn k)
def afM (S : MS) (wn : Nat → Option Nat) : Nat → Int32
  | 0 => 0
  | k + 1 => afM S wn k + (2 * S.2 2 (wf wn k) + 2)
def lmL (S X : MS) (wn : Nat → Option Nat) : Nat → Int32
  | 0 => 0
  | k + 1 => lmL S X wn k + (if X.2 7 k = 0 then X.1 5 + (2 * S.2 2 (wf wn k) + 2) else 0)
abbrev a_aff (S : MS) (wn : Nat → Option Nat) (n m y : Nat) : Prop := afB S wn n + 10 ≤ S.2 9 m ∧ S.2 14 y + afM S wn n ≤ S.2 12 y
abbrev a_same (X : MS) (wn : Nat → Option Nat) (i : Nat) : Prop := 0 < i ∧ X.2 7 (i - 1) = 0 ∧ wf wn (i - 1) = wf wn i
theorem c_afford {G : Nat → Nat} {O : Nat → Prop} {ad : Nat → Nat → Nat} {S X : MS} {L : Nat → List Nat} {wn : Nat → Option Nat} {sl : Nat → Nat} {fl : Nat} {h : AH} {d : Nat} {m y n : Nat} (hK : KR G O ad S X L wn sl fl h) (hsz : X.1 3 = nI n) (hn5 : n ≤ 5) (hwn : ∀ i, i < n → wn i = some (wf wn i) ∧ wf wn i < (L 0).length) (hm : m < (L 1).length) (hy : y < (L 2).length) : Ct Y_X3_canAfford (d + 1) G 0 0 [.ref (ad 14 0), .ref (ad 4 m), .ref (ad 5 y)] h (fun r h2 => r = some (.int (ib (a_aff S wn n m y))) ∧ h2 = h) := by
  refine Ct.ofn 3 rfl (Nat.le_of_ble_eq_true rfl) (by simp [Value.category]) ?_
  generalize hpost : (fun (r : Option Value) (h2 : AH) => r = some (.int (ib (a_aff S wn n m y))) ∧ h2 = h) = post
  show J Y_X3_canAfford (d + 1) G 0 0 0 [some (.ref (ad 14 0)), some (.ref (ad 4 m)), some (.ref (ad 5 y)), none, none, none] [] h post
  refine J.iconst 0 1 dX3_canAfford_0 rfl (by decide) ?_
  refine J.ist_3 2 dX3_canAfford_1 rfl (by decide) ?_
  refine J.iconst 0 3 dX3_canAfford_2 rfl (by decide) ?_
  refine J.ist_4 5 dX3_canAfford_3 rfl (by decide) ?_
  refine J.iconst 0 6 dX3_canAfford_5 rfl (by decide) ?_
  refine J.ist_5 8 dX3_canAfford_6 rfl (by decide) ?_
  have loop8 : ∀ (j k : Nat) (x3 x4 x5 : Int32), k ≤ n → n + 1 ≤ k + j → x5 = nI k → (x3 = afB S wn k) → (x4 = afM S wn k) → J Y_X3_canAfford (d + 1) G 0 0 8 [some (.ref (ad 14 0)), some (.ref (ad 4 m)), some (.ref (ad 5 y)), some (.int x3), some (.int x4), some (.int x5)] [] h post := by
    intro j
    induction j with
    | zero => intro k _ _ _ g1 g2; exact absurd g2 (by omega)
    | succ j ih =>
      intro k x3 x4 x5 g1 g2 e5 e3 e4 
      have q5 : x5.toNatClampNeg = k := by rw [e5]; exact nI_clamp (by omega)
      refine J.iload 10 dX3_canAfford_8 rfl rfl ?_
      refine J.aload_n 11 dX3_canAfford_10 rfl rfl ?_
      refine gf_X3_28 rfl 14 dX3_canAfford_11 rfl (hK.sea) (v := .int (X.1 3)) rfl ?_
      refine J.icmp_ge 53 17 dX3_canAfford_14 (by decide) rfl (fun c1 => ?_) (fun c1 => ?_)
      · skip
        have hk : k = n := Nat.le_antisymm g1 ((nI_leI (by omega) (by omega)).mp (by have z := c1; rw [e5, hsz] at z; exact z))
        refine J.iload_n 54 dX3_canAfford_53 rfl rfl ?_
        refine J.bipush 10 56 dX3_canAfford_54 rfl (by decide) ?_
        refine J.iadd 57 dX3_canAfford_56 rfl ?_
        refine J.aload_n 58 dX3_canAfford_57 rfl rfl ?_
        refine gf_X3_42 rfl 61 dX3_canAfford_58 rfl (hK.mach hm) (v := .int (S.2 9 m)) rfl ?_
        refine J.icmp_gt 82 64 dX3_canAfford_61 (by decide) rfl (fun c2 => ?_) (fun c2 => ?_)
        · skip
          refine J.iconst 0 83 dX3_canAfford_82 rfl (by decide) ?_
          exact J.zret dX3_canAfford_83 rfl (Or.inl rfl) (by rw [← hpost]; exact ⟨congrArg (fun z => some (Value.int z)) (ib_f (show ¬ a_aff S wn n m y from fun z => Int32.not_le.mpr c2 (by rw [e3, hk]; exact z.1))).symm, rfl⟩)
        · skip
          refine J.aload_n 65 dX3_canAfford_64 rfl rfl ?_
          refine gf_X3_47 rfl 68 dX3_canAfford_65 rfl (hK.pil hy) (v := .int (S.2 14 y)) rfl ?_
          refine J.iload 70 dX3_canAfford_68 rfl rfl ?_
          refine J.iadd 71 dX3_canAfford_70 rfl ?_
          refine J.aload_n 72 dX3_canAfford_71 rfl rfl ?_
          refine gf_X3_52 rfl 75 dX3_canAfford_72 rfl (hK.pil hy) (v := .int (S.2 12 y)) rfl ?_
          refine J.icmp_gt 82 78 dX3_canAfford_75 (by decide) rfl (fun c3 => ?_) (fun c3 => ?_)
          · skip
            refine J.iconst 0 83 dX3_canAfford_82 rfl (by decide) ?_
            exact J.zret dX3_canAfford_83 rfl (Or.inl rfl) (by rw [← hpost]; exact ⟨congrArg (fun z => some (Value.int z)) (ib_f (show ¬ a_aff S wn n m y from fun z => Int32.not_le.mpr c3 (by rw [e4, hk]; exact z.2))).symm, rfl⟩)
          · skip
            refine J.iconst 1 79 dX3_canAfford_78 rfl (by decide) ?_
            refine J.goto 83 dX3_canAfford_79 (by decide) ?_
            exact J.zret dX3_canAfford_83 rfl (Or.inr rfl) (by rw [← hpost]; exact ⟨congrArg (fun z => some (Value.int z)) (ib_t (show a_aff S wn n m y from ⟨by rw [← hk, ← e3]; exact Int32.not_lt.mp c2, by rw [← hk, ← e4]; exact Int32.not_lt.mp c3⟩)).symm, rfl⟩)
      · skip
        have hk : k < n := Nat.lt_of_not_le (fun y => c1 (by rw [e5, hsz]; exact nI_le y (by omega)))
        have hin : vp_in x5 5 := by rw [e5]; exact vp_in_nI (by omega) (by decide)
        refine J.iload_n 18 dX3_canAfford_17 rfl rfl ?_
        refine J.iconst 4 19 dX3_canAfford_18 rfl (by decide) ?_
        refine J.aload_n 20 dX3_canAfford_19 rfl rfl ?_
        refine gf_X3_11 rfl 23 dX3_canAfford_20 rfl (hK.sea) (v := .ref (ad 17 0)) rfl ?_
        refine J.iload 25 dX3_canAfford_23 rfl rfl ?_
        refine J.aald2 k q5 (v := ad 3 (wf wn k)) (show (wn k).map (ad 3) = _ from by rw [(hwn k hk).1]; rfl) 26 dX3_canAfford_25 rfl hK.wanted (by assumption) ?_
        refine gf_X3_35 rfl 29 dX3_canAfford_26 rfl (hK.place (hwn k hk).2) (v := .int (S.2 2 (wf wn k))) rfl ?_
        refine J.imul 30 dX3_canAfford_29 rfl ?_
        refine J.iadd 31 dX3_canAfford_30 rfl ?_
        refine J.ist_3 32 dX3_canAfford_31 rfl (by decide) ?_
        refine J.iload 34 dX3_canAfford_32 rfl rfl ?_
        refine J.aload_n 35 dX3_canAfford_34 rfl rfl ?_
        refine gf_X3_11 rfl 38 dX3_canAfford_35 rfl (hK.sea) (v := .ref (ad 17 0)) rfl ?_
        refine J.iload 40 dX3_canAfford_38 rfl rfl ?_
        refine J.aald2 k q5 (v := ad 3 (wf wn k)) (show (wn k).map (ad 3) = _ from by rw [(hwn k hk).1]; rfl) 41 dX3_canAfford_40 rfl hK.wanted (by assumption) ?_
        refine cv_X3_38 rfl 44 (c_there (p := wf wn k) hK (hwn k hk).2) dX3_canAfford_41 rfl (hK.place (hwn k hk).2) rfl rfl (Nat.le_of_ble_eq_true rfl) (Nat.zero_le _) (Nat.zero_le _) (fun r h2 hp => ?_)
        obtain ⟨rfl, rfl⟩ := hp
        refine J.iadd 45 dX3_canAfford_44 rfl ?_
        refine J.ist_4 47 dX3_canAfford_45 rfl (by decide) ?_
        refine J.iinc_5 1 50 dX3_canAfford_47 rfl (by decide) (by decide) ?_
        refine J.goto 8 dX3_canAfford_50 (by decide) ?_
        exact ih (k + 1) _ _ _ (by omega) (by omega) (by rw [e5]; exact nI_1 k) (by rw [afB, e3]) (by rw [afM, e4]) 
  exact loop8 (n + 1) 0 _ _ _ (Nat.zero_le _) (by omega) rfl rfl rfl 
theorem c_left {G : Nat → Nat} {O : Nat → Prop} {ad : Nat → Nat → Nat} {S X : MS} {L : Nat → List Nat} {wn : Nat → Option Nat} {sl : Nat → Nat} {fl : Nat} {h : AH} {d : Nat} {n : Nat} (hK : KR G O ad S X L wn sl fl h) (hsz : X.1 3 = nI n) (hn5 : n ≤ 5) (hwn : ∀ i, i < n → wn i = some (wf wn i) ∧ wf wn i < (L 0).length) : Ct Y_X3_leastMinutesLeft (d + 1) G 0 0 [.ref (ad 14 0)] h (fun r h2 => r = some (.int (lmL S X wn n)) ∧ h2 = h) := by
  refine Ct.ofn 2 rfl (Nat.le_of_ble_eq_true rfl) (by simp [Value.category]) ?_
  generalize hpost : (fun (r : Option Value) (h2 : AH) => r = some (.int (lmL S X wn n)) ∧ h2 = h) = post
  show J Y_X3_leastMinutesLeft (d + 1) G 0 0 0 [some (.ref (ad 14 0)), none, none] [] h post
  refine J.iconst 0 1 dX3_leastMinutesLeft_0 rfl (by decide) ?_
  refine J.ist_1 2 dX3_leastMinutesLeft_1 rfl (by decide) ?_
  refine J.iconst 0 3 dX3_leastMinutesLeft_2 rfl (by decide) ?_
  refine J.ist_2 4 dX3_leastMinutesLeft_3 rfl (by decide) ?_
  have loop4 : ∀ (j k : Nat) (x1 x2 : Int32), k ≤ n → n + 1 ≤ k + j → x2 = nI k → (x1 = lmL S X wn k) → J Y_X3_leastMinutesLeft (d + 1) G 0 0 4 [some (.ref (ad 14 0)), some (.int x1), some (.int x2)] [] h post := by
    intro j
    induction j with
    | zero => intro k _ _ g1 g2; exact absurd g2 (by omega)
    | succ j ih =>
      intro k x1 x2 g1 g2 e2 e1 
      have q2 : x2.toNatClampNeg = k := by rw [e2]; exact nI_clamp (by omega)
      refine J.iload_n 5 dX3_leastMinutesLeft_4 rfl rfl ?_
      refine J.aload_n 6 dX3_leastMinutesLeft_5 rfl rfl ?_
      refine gf_X3_28 rfl 9 dX3_leastMinutesLeft_6 rfl (hK.sea) (v := .int (X.1 3)) rfl ?_
      refine J.icmp_ge 48 12 dX3_leastMinutesLeft_9 (by decide) rfl (fun c1 => ?_) (fun c1 => ?_)
      · skip
        have hk : k = n := Nat.le_antisymm g1 ((nI_leI (by omega) (by omega)).mp (by have z := c1; rw [e2, hsz] at z; exact z))
        refine J.iload_n 49 dX3_leastMinutesLeft_48 rfl rfl ?_
        exact J.iret dX3_leastMinutesLeft_49 rfl (by rw [← hpost]; exact ⟨by rw [e1, hk], rfl⟩)
      · skip
        have hk : k < n := Nat.lt_of_not_le (fun y => c1 (by rw [e2, hsz]; exact nI_le y (by omega)))
        have hin : vp_in x2 5 := by rw [e2]; exact vp_in_nI (by omega) (by decide)
        refine J.iload_n 13 dX3_leastMinutesLeft_12 rfl rfl ?_
        refine J.aload_n 14 dX3_leastMinutesLeft_13 rfl rfl ?_
        refine gf_X3_17 rfl 17 dX3_leastMinutesLeft_14 rfl (hK.sea) (v := .ref (ad 16 0)) rfl ?_
        refine J.iload_n 18 dX3_leastMinutesLeft_17 rfl rfl ?_
        refine J.zald2 k q2 (x := X.2 7 k) rfl 19 dX3_leastMinutesLeft_18 rfl hK.taken (by assumption) ?_
        refine J.if_eq 26 22 dX3_leastMinutesLeft_19 (by decide) rfl (fun c2 => ?_) (fun c2 => ?_)
        · skip
          refine J.aload_n 27 dX3_leastMinutesLeft_26 rfl rfl ?_
          refine gf_X3_58 rfl 30 dX3_leastMinutesLeft_27 rfl (hK.sea) (v := .int (X.1 5)) rfl ?_
          refine J.aload_n 31 dX3_leastMinutesLeft_30 rfl rfl ?_
          refine gf_X3_11 rfl 34 dX3_leastMinutesLeft_31 rfl (hK.sea) (v := .ref (ad 17 0)) rfl ?_
          refine J.iload_n 35 dX3_leastMinutesLeft_34 rfl rfl ?_
          refine J.aald2 k q2 (v := ad 3 (wf wn k)) (show (wn k).map (ad 3) = _ from by rw [(hwn k hk).1]; rfl) 36 dX3_leastMinutesLeft_35 rfl hK.wanted (by assumption) ?_
          refine cv_X3_38 rfl 39 (c_there (p := wf wn k) hK (hwn k hk).2) dX3_leastMinutesLeft_36 rfl (hK.place (hwn k hk).2) rfl rfl (Nat.le_of_ble_eq_true rfl) (Nat.zero_le _) (Nat.zero_le _) (fun r h2 hp => ?_)
          obtain ⟨rfl, rfl⟩ := hp
          refine J.iadd 40 dX3_leastMinutesLeft_39 rfl ?_
          refine J.iadd 41 dX3_leastMinutesLeft_40 rfl ?_
          refine J.ist_1 42 dX3_leastMinutesLeft_41 rfl (by decide) ?_
          refine J.iinc_2 1 45 dX3_leastMinutesLeft_42 rfl (by decide) (by decide) ?_
          refine J.goto 4 dX3_leastMinutesLeft_45 (by decide) ?_
          exact ih (k + 1) _ _ (by omega) (by omega) (by rw [e2]; exact nI_1 k) (by rw [lmL, e1, if_pos c2]) 
        · skip
          refine J.iconst 0 23 dX3_leastMinutesLeft_22 rfl (by decide) ?_
          refine J.goto 40 dX3_leastMinutesLeft_23 (by decide) ?_
          refine J.iadd 41 dX3_leastMinutesLeft_40 rfl ?_
          refine J.ist_1 42 dX3_leastMinutesLeft_41 rfl (by decide) ?_
          refine J.iinc_2 1 45 dX3_leastMinutesLeft_42 rfl (by decide) (by decide) ?_
          refine J.goto 4 dX3_leastMinutesLeft_45 (by decide) ?_
          exact ih (k + 1) _ _ (by omega) (by omega) (by rw [e2]; exact nI_1 k) (by rw [lmL, e1, if_neg c2]) 
  exact loop4 (n + 1) 0 _ _ (Nat.zero_le _) (by omega) rfl rfl 
theorem c_same {G : Nat → Nat} {O : Nat → Prop} {ad : Nat → Nat → Nat} {S X : MS} {L : Nat → List Nat} {wn : Nat → Option Nat} {sl : Nat → Nat} {fl : Nat} {h : AH} {d : Nat} {i n : Nat} (hK : KR G O ad S X L wn sl fl h) (hsz : X.1 3 = nI n) (hn5 : n ≤ 5) (hwn : ∀ i, i < n → wn i = some (wf wn i) ∧ wf wn i < (L 0).length) (hi : i < n) (hb0 : (L 0).length ≤ 12) : Ct Y_X3_isSameAsUntaken d G 0 0 [.ref (ad 14 0), .int (nI i)] h (fun r h2 => r = some (.int (ib (a_same X wn i))) ∧ h2 = h) := by
  refine Ct.ofn 0 rfl (Nat.le_of_ble_eq_true rfl) (by simp [Value.category]) ?_
  generalize hpost : (fun (r : Option Value) (h2 : AH) => r = some (.int (ib (a_same X wn i))) ∧ h2 = h) = post
  show J Y_X3_isSameAsUntaken d G 0 0 0 [some (.ref (ad 14 0)), some (.int (nI i))] [] h post
  have q1 : (nI i).toNatClampNeg = i := nI_clamp (by omega)
  have n1 : vp_in (nI i) 5 := vp_in_nI (by omega) (by decide)
  have w1 := (hwn i hi).2
  have w2 := (hwn (i - 1) (by omega)).2
  refine J.iload_n 1 dX3_isSameAsUntaken_0 rfl rfl ?_
  refine J.if_le 42 4 dX3_isSameAsUntaken_1 (by decide) rfl (fun c1 => ?_) (fun c1 => ?_)
  · skip
    refine J.iconst 0 43 dX3_isSameAsUntaken_42 rfl (by decide) ?_
    exact J.zret dX3_isSameAsUntaken_43 rfl (Or.inl rfl) (by rw [← hpost]; exact ⟨congrArg (fun z => some (Value.int z)) (ib_f (show ¬ a_same X wn i from fun z => absurd c1 (Int32.not_le.mpr ((nI_ltI (a := 0) (by decide) (by omega)).mpr z.1)))).symm, rfl⟩)
  · skip
    have hpos : 0 < i := Nat.pos_of_ne_zero (fun z => c1 (by rw [z]; decide))
    have em : nI i - 1 = nI (i - 1) := by rw [show i = i - 1 + 1 by omega, nI_m1, show i - 1 + 1 - 1 = i - 1 by omega]
    have q2 : (nI i - 1).toNatClampNeg = i - 1 := by rw [em]; exact nI_clamp (by omega)
    have n2 : vp_in (nI i - 1) 5 := by rw [em]; exact vp_in_nI (by omega) (by decide)
    refine J.aload_n 5 dX3_isSameAsUntaken_4 rfl rfl ?_
    refine gf_X3_17 rfl 8 dX3_isSameAsUntaken_5 rfl (hK.sea) (v := .ref (ad 16 0)) rfl ?_
    refine J.iload_n 9 dX3_isSameAsUntaken_8 rfl rfl ?_
    refine J.iconst 1 10 dX3_isSameAsUntaken_9 rfl (by decide) ?_
    refine J.isub 11 dX3_isSameAsUntaken_10 rfl ?_
    refine J.zald2 (i - 1) q2 (x := X.2 7 (i - 1)) rfl 12 dX3_isSameAsUntaken_11 rfl hK.taken n2 ?_
    refine J.if_ne 42 15 dX3_isSameAsUntaken_12 (by decide) rfl (fun c2 => ?_) (fun c2 => ?_)
    · skip
      refine J.iconst 0 43 dX3_isSameAsUntaken_42 rfl (by decide) ?_
      exact J.zret dX3_isSameAsUntaken_43 rfl (Or.inl rfl) (by rw [← hpost]; exact ⟨congrArg (fun z => some (Value.int z)) (ib_f (show ¬ a_same X wn i from fun z => c2 (by rw [← z.2.1]))).symm, rfl⟩)
    · skip
      refine J.aload_n 16 dX3_isSameAsUntaken_15 rfl rfl ?_
      refine gf_X3_11 rfl 19 dX3_isSameAsUntaken_16 rfl (hK.sea) (v := .ref (ad 17 0)) rfl ?_
      refine J.iload_n 20 dX3_isSameAsUntaken_19 rfl rfl ?_
      refine J.iconst 1 21 dX3_isSameAsUntaken_20 rfl (by decide) ?_
      refine J.isub 22 dX3_isSameAsUntaken_21 rfl ?_
      refine J.aald2 (i - 1) q2 (v := ad 3 (wf wn (i - 1))) (show (wn (i - 1)).map (ad 3) = _ from by rw [(hwn (i - 1) (by omega)).1]; rfl) 23 dX3_isSameAsUntaken_22 rfl hK.wanted n2 ?_
      refine gf_X3_32 rfl 26 dX3_isSameAsUntaken_23 rfl (hK.place (hwn (i - 1) (by omega)).2) (v := .int (nI (wf wn (i - 1)))) rfl ?_
      refine J.aload_n 27 dX3_isSameAsUntaken_26 rfl rfl ?_
      refine gf_X3_11 rfl 30 dX3_isSameAsUntaken_27 rfl (hK.sea) (v := .ref (ad 17 0)) rfl ?_
      refine J.iload_n 31 dX3_isSameAsUntaken_30 rfl rfl ?_
      refine J.aald2 i q1 (v := ad 3 (wf wn i)) (show (wn i).map (ad 3) = _ from by rw [(hwn i (by omega)).1]; rfl) 32 dX3_isSameAsUntaken_31 rfl hK.wanted n1 ?_
      refine gf_X3_32 rfl 35 dX3_isSameAsUntaken_32 rfl (hK.place (hwn i (by omega)).2) (v := .int (nI (wf wn i))) rfl ?_
      refine J.icmp_ne 42 38 dX3_isSameAsUntaken_35 (by decide) rfl (fun c3 => ?_) (fun c3 => ?_)
      · skip
        refine J.iconst 0 43 dX3_isSameAsUntaken_42 rfl (by decide) ?_
        exact J.zret dX3_isSameAsUntaken_43 rfl (Or.inl rfl) (by rw [← hpost]; exact ⟨congrArg (fun z => some (Value.int z)) (ib_f (show ¬ a_same X wn i from fun z => c3 (by rw [z.2.2]))).symm, rfl⟩)
      · skip
        refine J.iconst 1 39 dX3_isSameAsUntaken_38 rfl (by decide) ?_
        refine J.goto 43 dX3_isSameAsUntaken_39 (by decide) ?_
        exact J.zret dX3_isSameAsUntaken_43 rfl (Or.inr rfl) (by rw [← hpost]; exact ⟨congrArg (fun z => some (Value.int z)) (ib_t (show a_same X wn i from ⟨by omega, by assumption, (nI_eq (by omega) (by omega)).mp (by assumption)⟩)).symm, rfl⟩)
