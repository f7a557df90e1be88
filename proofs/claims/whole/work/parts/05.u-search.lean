def afB (S : MS) (wn : Nat → Option Nat) : Nat → Int32
  | 0 => 0
  | k + 1 => afB S wn k + 4 * S.2 2 (wf wn k)
def afM (S : MS) (wn : Nat → Option Nat) : Nat → Int32
  | 0 => 0
  | k + 1 => afM S wn k + (2 * S.2 2 (wf wn k) + 2)
def lmT (S : MS) (tk : Nat → Int32) (rr : Int32) (wn : Nat → Option Nat) : Nat → Int32
  | 0 => 0
  | k + 1 => lmT S tk rr wn k + (if tk k = 0 then rr + (2 * S.2 2 (wf wn k) + 2) else 0)
/-- the places that are taken, as bits -/
def tkS (T i : Nat) : Nat := T ||| (1 : Nat) <<< i
def tkf (T : Nat) : Nat → Int32 := fun i => if T.testBit i then 1 else 0
theorem tk_at {T i : Nat} (hT : T < 32) (hi : i < 5) : ((nI T >>> (nI i &&& 31)) &&& 1 = 1) ↔ ¬ tkf T i = 0 := by
  have key : ∀ (a : Fin 32) (b : Fin 5), ((nI a.1 >>> (nI b.1 &&& 31)) &&& 1 = 1) ↔ ¬ tkf a.1 b.1 = 0 := by decide +kernel
  exact key ⟨T, hT⟩ ⟨i, hi⟩
theorem tk_or {T i : Nat} (hT : T < 32) (hi : i < 5) : nI T ||| ((1 : Int32) <<< (nI i &&& 31)) = nI (tkS T i) ∧ tkS T i < 32 := by
  have key : ∀ (a : Fin 32) (b : Fin 5), nI a.1 ||| ((1 : Int32) <<< (nI b.1 &&& 31)) = nI (tkS a.1 b.1) ∧ tkS a.1 b.1 < 32 := by decide +kernel
  exact key ⟨T, hT⟩ ⟨i, hi⟩
theorem tkf_or {T i : Nat} : tkf (tkS T i) = upd (tkf T) i 1 := by
  funext j
  by_cases e : j = i
  · subst e
    rw [pk_us, tkf, tkS, if_pos]
    rw [Nat.testBit_or, Nat.one_shiftLeft, Nat.testBit_two_pow_self, Bool.or_true]
  · rw [pk_un e, tkf, tkf, tkS, Nat.testBit_or, Nat.one_shiftLeft, Nat.testBit_two_pow_of_ne (fun z => e z.symm), Bool.or_false]
theorem tkf_0 {i : Nat} : tkf 0 i = 0 := by
  rw [tkf, Nat.zero_testBit]
  rfl
abbrev a_aff (S : MS) (wn : Nat → Option Nat) (n m y : Nat) : Prop := afB S wn n + 10 ≤ S.2 9 m ∧ S.2 14 y + afM S wn n ≤ S.2 12 y
abbrev sameT (tk : Nat → Int32) (wn : Nat → Option Nat) (i : Nat) : Prop := 0 < i ∧ tk (i - 1) = 0 ∧ wf wn (i - 1) = wf wn i
theorem c_isTaken {G : Nat → Nat} {O : Nat → Prop} {ad : Nat → Nat → Nat} {S X : MS} {L : Nat → List Nat} {wn : Nat → Option Nat} {sl : Nat → Nat} {fl : Nat} {h : AH} {d : Nat} {T i : Nat} (hK : KR G O ad S X L wn sl fl h) (hT : T < 32) (hi : i < 5) : Ct Y_X3_isTaken d G 0 0 [.int (nI T), .int (nI i)] h (fun r h2 => r = some (.int (ib (¬ tkf T i = 0))) ∧ h2 = h) := by
  refine Ct.ofn 0 rfl (Nat.le_of_ble_eq_true rfl) (by simp [Value.category]) ?_
  generalize hpost : (fun (r : Option Value) (h2 : AH) => r = some (.int (ib (¬ tkf T i = 0))) ∧ h2 = h) = post
  show J Y_X3_isTaken d G 0 0 0 [some (.int (nI T)), some (.int (nI i))] [] h post
  refine J.iload_n 1 dX3_isTaken_0 rfl rfl ?_
  refine J.iload_n 2 dX3_isTaken_1 rfl rfl ?_
  refine J.ishr 3 dX3_isTaken_2 rfl ?_
  refine J.iconst 1 4 dX3_isTaken_3 rfl (by decide) ?_
  refine J.iand 5 dX3_isTaken_4 rfl ?_
  refine J.iconst 1 6 dX3_isTaken_5 rfl (by decide) ?_
  refine J.icmp_ne 13 9 dX3_isTaken_6 (by decide) rfl (fun c1 => ?_) (fun c1 => ?_)
  · skip
    refine J.iconst 0 14 dX3_isTaken_13 rfl (by decide) ?_
    exact J.zret dX3_isTaken_14 rfl (Or.inl rfl) (by rw [← hpost]; exact ⟨congrArg (fun z => some (Value.int z)) (ib_f (fun z => c1 ((tk_at hT hi).mpr z))).symm, rfl⟩)
  · skip
    refine J.iconst 1 10 dX3_isTaken_9 rfl (by decide) ?_
    refine J.goto 14 dX3_isTaken_10 (by decide) ?_
    exact J.zret dX3_isTaken_14 rfl (Or.inr rfl) (by rw [← hpost]; exact ⟨congrArg (fun z => some (Value.int z)) (ib_t ((tk_at hT hi).mp c1)).symm, rfl⟩)
theorem c_afford {G : Nat → Nat} {O : Nat → Prop} {ad : Nat → Nat → Nat} {S X : MS} {L : Nat → List Nat} {wn : Nat → Option Nat} {sl : Nat → Nat} {fl : Nat} {h : AH} {d : Nat} {m y n : Nat} (hK : KR G O ad S X L wn sl fl h) (hsz : X.1 3 = nI n) (hn5 : n ≤ 5) (hwn : ∀ i, i < n → wn i = some (wf wn i) ∧ wf wn i < (L 0).length) (hm : m < (L 1).length) (hy : y < (L 2).length) : Ct Y_X3_canAfford (d + 1) G 0 0 [.ref (ad 14 0), .ref (ad 4 m), .ref (ad 5 y)] h (fun r h2 => r = some (.int (ib (a_aff S wn n m y))) ∧ h2 = h) := by
  refine Ct.ofn 3 rfl (Nat.le_of_ble_eq_true rfl) (by simp [Value.category]) ?_
  generalize hpost : (fun (r : Option Value) (h2 : AH) => r = some (.int (ib (a_aff S wn n m y))) ∧ h2 = h) = post
  show J Y_X3_canAfford (d + 1) G 0 0 0 [some (.ref (ad 14 0)), some (.ref (ad 4 m)), some (.ref (ad 5 y)), none, none, none] [] h post
  refine J.iconst 0 1 dX3_canAfford_0 rfl (by decide) ?_
  refine J.ist_3 2 dX3_canAfford_1 rfl (by decide) ?_
  refine J.iconst 0 3 dX3_canAfford_2 rfl (by decide) ?_
  refine J.ist_4 5 dX3_canAfford_3 rfl (by decide) ?_
  refine J.iconst 0 6 dX3_canAfford_5 rfl (by decide) ?_
  refine J.ist_5 8 dX3_canAfford_6 rfl (by decide) ?_
  have loop8 : ∀ (j k : Nat) (x3 x4 x5 : Int32), k ≤ n → n + 1 ≤ k + j → x5 = nI k → (x3 = afB S wn k) → (x4 = afM S wn k) → J Y_X3_canAfford (d + 1) G 0 0 8 [some (.ref (ad 14 0)), some (.ref (ad 4 m)), some (.ref (ad 5 y)), some (.int x3), some (.int x4), some (.int x5)] [] h post := by
    intro j
    induction j with
    | zero => intro k _ _ _ g1 g2; exact absurd g2 (by omega)
    | succ j ih =>
      intro k x3 x4 x5 g1 g2 e5 e3 e4 
      have q5 : x5.toNatClampNeg = k := by rw [e5]; exact nI_clamp (by omega)
      refine J.iload 10 dX3_canAfford_8 rfl rfl ?_
      refine J.aload_n 11 dX3_canAfford_10 rfl rfl ?_
      refine gf_X3_27 rfl 14 dX3_canAfford_11 rfl (hK.sea) (v := .int (X.1 3)) rfl ?_
      refine J.icmp_ge 53 17 dX3_canAfford_14 (by decide) rfl (fun c1 => ?_) (fun c1 => ?_)
      · skip
        have hk : k = n := Nat.le_antisymm g1 ((nI_leI (by omega) (by omega)).mp (by have z := c1; rw [e5, hsz] at z; exact z))
        refine J.iload_n 54 dX3_canAfford_53 rfl rfl ?_
        refine J.bipush 10 56 dX3_canAfford_54 rfl (by decide) ?_
        refine J.iadd 57 dX3_canAfford_56 rfl ?_
        refine J.aload_n 58 dX3_canAfford_57 rfl rfl ?_
        refine gf_X3_41 rfl 61 dX3_canAfford_58 rfl (hK.mach hm) (v := .int (S.2 9 m)) rfl ?_
        refine J.icmp_gt 82 64 dX3_canAfford_61 (by decide) rfl (fun c2 => ?_) (fun c2 => ?_)
        · skip
          refine J.iconst 0 83 dX3_canAfford_82 rfl (by decide) ?_
          exact J.zret dX3_canAfford_83 rfl (Or.inl rfl) (by rw [← hpost]; exact ⟨congrArg (fun z => some (Value.int z)) (ib_f (show ¬ a_aff S wn n m y from fun z => Int32.not_le.mpr c2 (by rw [e3, hk]; exact z.1))).symm, rfl⟩)
        · skip
          refine J.aload_n 65 dX3_canAfford_64 rfl rfl ?_
          refine gf_X3_46 rfl 68 dX3_canAfford_65 rfl (hK.pil hy) (v := .int (S.2 14 y)) rfl ?_
          refine J.iload 70 dX3_canAfford_68 rfl rfl ?_
          refine J.iadd 71 dX3_canAfford_70 rfl ?_
          refine J.aload_n 72 dX3_canAfford_71 rfl rfl ?_
          refine gf_X3_51 rfl 75 dX3_canAfford_72 rfl (hK.pil hy) (v := .int (S.2 12 y)) rfl ?_
          refine J.icmp_gt 82 78 dX3_canAfford_75 (by decide) rfl (fun c3 => ?_) (fun c3 => ?_)
          · skip
            refine J.iconst 0 83 dX3_canAfford_82 rfl (by decide) ?_
            exact J.zret dX3_canAfford_83 rfl (Or.inl rfl) (by rw [← hpost]; exact ⟨congrArg (fun z => some (Value.int z)) (ib_f (show ¬ a_aff S wn n m y from fun z => Int32.not_le.mpr c3 (by rw [e4, hk]; exact z.2))).symm, rfl⟩)
          · skip
            refine J.iconst 1 79 dX3_canAfford_78 rfl (by decide) ?_
            refine J.goto 83 dX3_canAfford_79 (by decide) ?_
            exact J.zret dX3_canAfford_83 rfl (Or.inr rfl) (by rw [← hpost]; exact ⟨congrArg (fun z => some (Value.int z)) (ib_t (show a_aff S wn n m y from ⟨by rw [← hk, ← e3]; exact Int32.not_lt.mp c2, by rw [← hk, ← e4]; exact Int32.not_lt.mp c3⟩)).symm, rfl⟩)
      · skip
        have hk : k < n := Nat.lt_of_not_le (fun y => c1 (by rw [e5, hsz]; exact nI_le y (by omega)))
        have hin : vp_in x5 5 := by rw [e5]; exact vp_in_nI (by omega) (by decide)
        refine J.iload_n 18 dX3_canAfford_17 rfl rfl ?_
        refine J.iconst 4 19 dX3_canAfford_18 rfl (by decide) ?_
        refine J.aload_n 20 dX3_canAfford_19 rfl rfl ?_
        refine gf_X3_11 rfl 23 dX3_canAfford_20 rfl (hK.sea) (v := .ref (ad 17 0)) rfl ?_
        refine J.iload 25 dX3_canAfford_23 rfl rfl ?_
        refine J.aald2 k q5 (v := ad 3 (wf wn k)) (show (wn k).map (ad 3) = _ from by rw [(hwn k hk).1]; rfl) 26 dX3_canAfford_25 rfl hK.wanted (by assumption) ?_
        refine gf_X3_34 rfl 29 dX3_canAfford_26 rfl (hK.place (hwn k hk).2) (v := .int (S.2 2 (wf wn k))) rfl ?_
        refine J.imul 30 dX3_canAfford_29 rfl ?_
        refine J.iadd 31 dX3_canAfford_30 rfl ?_
        refine J.ist_3 32 dX3_canAfford_31 rfl (by decide) ?_
        refine J.iload 34 dX3_canAfford_32 rfl rfl ?_
        refine J.aload_n 35 dX3_canAfford_34 rfl rfl ?_
        refine gf_X3_11 rfl 38 dX3_canAfford_35 rfl (hK.sea) (v := .ref (ad 17 0)) rfl ?_
        refine J.iload 40 dX3_canAfford_38 rfl rfl ?_
        refine J.aald2 k q5 (v := ad 3 (wf wn k)) (show (wn k).map (ad 3) = _ from by rw [(hwn k hk).1]; rfl) 41 dX3_canAfford_40 rfl hK.wanted (by assumption) ?_
        refine cv_X3_37 rfl 44 (c_there (p := wf wn k) hK (hwn k hk).2) dX3_canAfford_41 rfl (hK.place (hwn k hk).2) rfl rfl (Nat.le_of_ble_eq_true rfl) (Nat.zero_le _) (Nat.zero_le _) (fun r h2 hp => ?_)
        obtain ⟨rfl, rfl⟩ := hp
        refine J.iadd 45 dX3_canAfford_44 rfl ?_
        refine J.ist_4 47 dX3_canAfford_45 rfl (by decide) ?_
        refine J.iinc_5 1 50 dX3_canAfford_47 rfl (by decide) (by decide) ?_
        refine J.goto 8 dX3_canAfford_50 (by decide) ?_
        exact ih (k + 1) _ _ _ (by omega) (by omega) (by rw [e5]; exact nI_1 k) (by rw [afB, e3]) (by rw [afM, e4]) 
  exact loop8 (n + 1) 0 _ _ _ (Nat.zero_le _) (by omega) rfl rfl rfl 
theorem c_left {G : Nat → Nat} {O : Nat → Prop} {ad : Nat → Nat → Nat} {S X : MS} {L : Nat → List Nat} {wn : Nat → Option Nat} {sl : Nat → Nat} {fl : Nat} {h : AH} {d : Nat} {T n : Nat} (hK : KR G O ad S X L wn sl fl h) (hsz : X.1 3 = nI n) (hn5 : n ≤ 5) (hwn : ∀ i, i < n → wn i = some (wf wn i) ∧ wf wn i < (L 0).length) (hT : T < 32) : Ct Y_X3_leastMinutesLeft (d + 1) G 0 0 [.ref (ad 14 0), .int (nI T)] h (fun r h2 => r = some (.int (lmT S (tkf T) (X.1 5) wn n)) ∧ h2 = h) := by
  refine Ct.ofn 2 rfl (Nat.le_of_ble_eq_true rfl) (by simp [Value.category]) ?_
  generalize hpost : (fun (r : Option Value) (h2 : AH) => r = some (.int (lmT S (tkf T) (X.1 5) wn n)) ∧ h2 = h) = post
  show J Y_X3_leastMinutesLeft (d + 1) G 0 0 0 [some (.ref (ad 14 0)), some (.int (nI T)), none, none] [] h post
  refine J.iconst 0 1 dX3_leastMinutesLeft_0 rfl (by decide) ?_
  refine J.ist_2 2 dX3_leastMinutesLeft_1 rfl (by decide) ?_
  refine J.iconst 0 3 dX3_leastMinutesLeft_2 rfl (by decide) ?_
  refine J.ist_3 4 dX3_leastMinutesLeft_3 rfl (by decide) ?_
  have loop4 : ∀ (j k : Nat) (x2 x3 : Int32), k ≤ n → n + 1 ≤ k + j → x3 = nI k → (x2 = lmT S (tkf T) (X.1 5) wn k) → J Y_X3_leastMinutesLeft (d + 1) G 0 0 4 [some (.ref (ad 14 0)), some (.int (nI T)), some (.int x2), some (.int x3)] [] h post := by
    intro j
    induction j with
    | zero => intro k _ _ g1 g2; exact absurd g2 (by omega)
    | succ j ih =>
      intro k x2 x3 g1 g2 e3 e2 
      have q3 : x3.toNatClampNeg = k := by rw [e3]; exact nI_clamp (by omega)
      refine J.iload_n 5 dX3_leastMinutesLeft_4 rfl rfl ?_
      refine J.aload_n 6 dX3_leastMinutesLeft_5 rfl rfl ?_
      refine gf_X3_27 rfl 9 dX3_leastMinutesLeft_6 rfl (hK.sea) (v := .int (X.1 3)) rfl ?_
      refine J.icmp_ge 47 12 dX3_leastMinutesLeft_9 (by decide) rfl (fun c1 => ?_) (fun c1 => ?_)
      · skip
        have hk : k = n := Nat.le_antisymm g1 ((nI_leI (by omega) (by omega)).mp (by have z := c1; rw [e3, hsz] at z; exact z))
        refine J.iload_n 48 dX3_leastMinutesLeft_47 rfl rfl ?_
        exact J.iret dX3_leastMinutesLeft_48 rfl (by rw [← hpost]; exact ⟨by rw [e2, hk], rfl⟩)
      · skip
        have hk : k < n := Nat.lt_of_not_le (fun y => c1 (by rw [e3, hsz]; exact nI_le y (by omega)))
        have hin : vp_in x3 5 := by rw [e3]; exact vp_in_nI (by omega) (by decide)
        refine J.iload_n 13 dX3_leastMinutesLeft_12 rfl rfl ?_
        refine J.iload_n 14 dX3_leastMinutesLeft_13 rfl rfl ?_
        refine J.iload_n 15 dX3_leastMinutesLeft_14 rfl rfl ?_
        have kt := c_isTaken (d := d) (T := T) (i := k) hK hT (by omega)
        rw [← e3] at kt
        refine cs_X3_68 rfl 18 kt dX3_leastMinutesLeft_15 rfl rfl rfl (Nat.le_of_ble_eq_true rfl) (Nat.zero_le _) (Nat.zero_le _) (fun r h2 hp => ?_)
        obtain ⟨rfl, rfl⟩ := hp
        refine J.if_eq 25 21 dX3_leastMinutesLeft_18 (by decide) rfl (fun c2 => ?_) (fun c2 => ?_)
        · skip
          refine J.aload_n 26 dX3_leastMinutesLeft_25 rfl rfl ?_
          refine gf_X3_57 rfl 29 dX3_leastMinutesLeft_26 rfl (hK.sea) (v := .int (X.1 5)) rfl ?_
          refine J.aload_n 30 dX3_leastMinutesLeft_29 rfl rfl ?_
          refine gf_X3_11 rfl 33 dX3_leastMinutesLeft_30 rfl (hK.sea) (v := .ref (ad 17 0)) rfl ?_
          refine J.iload_n 34 dX3_leastMinutesLeft_33 rfl rfl ?_
          refine J.aald2 k q3 (v := ad 3 (wf wn k)) (show (wn k).map (ad 3) = _ from by rw [(hwn k hk).1]; rfl) 35 dX3_leastMinutesLeft_34 rfl hK.wanted (by assumption) ?_
          refine cv_X3_37 rfl 38 (c_there (p := wf wn k) hK (hwn k hk).2) dX3_leastMinutesLeft_35 rfl (hK.place (hwn k hk).2) rfl rfl (Nat.le_of_ble_eq_true rfl) (Nat.zero_le _) (Nat.zero_le _) (fun r h2 hp => ?_)
          obtain ⟨rfl, rfl⟩ := hp
          refine J.iadd 39 dX3_leastMinutesLeft_38 rfl ?_
          refine J.iadd 40 dX3_leastMinutesLeft_39 rfl ?_
          refine J.ist_2 41 dX3_leastMinutesLeft_40 rfl (by decide) ?_
          refine J.iinc_3 1 44 dX3_leastMinutesLeft_41 rfl (by decide) (by decide) ?_
          refine J.goto 4 dX3_leastMinutesLeft_44 (by decide) ?_
          exact ih (k + 1) _ _ (by omega) (by omega) (by rw [e3]; exact nI_1 k) (by rw [lmT, e2, if_pos (Classical.byContradiction (ib_0.mp c2))]) 
        · skip
          refine J.iconst 0 22 dX3_leastMinutesLeft_21 rfl (by decide) ?_
          refine J.goto 39 dX3_leastMinutesLeft_22 (by decide) ?_
          refine J.iadd 40 dX3_leastMinutesLeft_39 rfl ?_
          refine J.ist_2 41 dX3_leastMinutesLeft_40 rfl (by decide) ?_
          refine J.iinc_3 1 44 dX3_leastMinutesLeft_41 rfl (by decide) (by decide) ?_
          refine J.goto 4 dX3_leastMinutesLeft_44 (by decide) ?_
          exact ih (k + 1) _ _ (by omega) (by omega) (by rw [e3]; exact nI_1 k) (by rw [lmT, e2, if_neg (ib_n.mp c2)]) 
  exact loop4 (n + 1) 0 _ _ (Nat.zero_le _) (by omega) rfl rfl 
theorem c_same {G : Nat → Nat} {O : Nat → Prop} {ad : Nat → Nat → Nat} {S X : MS} {L : Nat → List Nat} {wn : Nat → Option Nat} {sl : Nat → Nat} {fl : Nat} {h : AH} {d : Nat} {T i n : Nat} (hK : KR G O ad S X L wn sl fl h) (hsz : X.1 3 = nI n) (hn5 : n ≤ 5) (hwn : ∀ i, i < n → wn i = some (wf wn i) ∧ wf wn i < (L 0).length) (hi : i < n) (hb0 : (L 0).length ≤ 12) (hT : T < 32) : Ct Y_X3_isSameAsUntaken (d + 1) G 0 0 [.ref (ad 14 0), .int (nI T), .int (nI i)] h (fun r h2 => r = some (.int (ib (sameT (tkf T) wn i))) ∧ h2 = h) := by
  refine Ct.ofn 0 rfl (Nat.le_of_ble_eq_true rfl) (by simp [Value.category]) ?_
  generalize hpost : (fun (r : Option Value) (h2 : AH) => r = some (.int (ib (sameT (tkf T) wn i))) ∧ h2 = h) = post
  show J Y_X3_isSameAsUntaken (d + 1) G 0 0 0 [some (.ref (ad 14 0)), some (.int (nI T)), some (.int (nI i))] [] h post
  have q1 : (nI i).toNatClampNeg = i := nI_clamp (by omega)
  have n1 : vp_in (nI i) 5 := vp_in_nI (by omega) (by decide)
  have w1 := (hwn i hi).2
  have w2 := (hwn (i - 1) (by omega)).2
  refine J.iload_n 1 dX3_isSameAsUntaken_0 rfl rfl ?_
  refine J.if_le 41 4 dX3_isSameAsUntaken_1 (by decide) rfl (fun c1 => ?_) (fun c1 => ?_)
  · skip
    refine J.iconst 0 42 dX3_isSameAsUntaken_41 rfl (by decide) ?_
    exact J.zret dX3_isSameAsUntaken_42 rfl (Or.inl rfl) (by rw [← hpost]; exact ⟨congrArg (fun z => some (Value.int z)) (ib_f (show ¬ sameT (tkf T) wn i from fun z => absurd c1 (Int32.not_le.mpr ((nI_ltI (a := 0) (by decide) (by omega)).mpr z.1)))).symm, rfl⟩)
  · skip
    have hpos : 0 < i := Nat.pos_of_ne_zero (fun z => c1 (by rw [z]; decide))
    have em : nI i - 1 = nI (i - 1) := by rw [show i = i - 1 + 1 by omega, nI_m1, show i - 1 + 1 - 1 = i - 1 by omega]
    have q2 : (nI i - 1).toNatClampNeg = i - 1 := by rw [em]; exact nI_clamp (by omega)
    have n2 : vp_in (nI i - 1) 5 := by rw [em]; exact vp_in_nI (by omega) (by decide)
    refine J.iload_n 5 dX3_isSameAsUntaken_4 rfl rfl ?_
    refine J.iload_n 6 dX3_isSameAsUntaken_5 rfl rfl ?_
    refine J.iconst 1 7 dX3_isSameAsUntaken_6 rfl (by decide) ?_
    refine J.isub 8 dX3_isSameAsUntaken_7 rfl ?_
    have kt := c_isTaken (d := d) (T := T) (i := i - 1) hK hT (by omega)
    rw [← em] at kt
    refine cs_X3_68 rfl 11 kt dX3_isSameAsUntaken_8 rfl rfl rfl (Nat.le_of_ble_eq_true rfl) (Nat.zero_le _) (Nat.zero_le _) (fun r h2 hp => ?_)
    obtain ⟨rfl, rfl⟩ := hp
    refine J.if_ne 41 14 dX3_isSameAsUntaken_11 (by decide) rfl (fun c2 => ?_) (fun c2 => ?_)
    · skip
      refine J.iconst 0 42 dX3_isSameAsUntaken_41 rfl (by decide) ?_
      exact J.zret dX3_isSameAsUntaken_42 rfl (Or.inl rfl) (by rw [← hpost]; exact ⟨congrArg (fun z => some (Value.int z)) (ib_f (show ¬ sameT (tkf T) wn i from fun z => ib_n.mp c2 z.2.1)).symm, rfl⟩)
    · skip
      have hu0 : tkf T (i - 1) = 0 := Classical.byContradiction (ib_0.mp c2)
      refine J.aload_n 15 dX3_isSameAsUntaken_14 rfl rfl ?_
      refine gf_X3_11 rfl 18 dX3_isSameAsUntaken_15 rfl (hK.sea) (v := .ref (ad 17 0)) rfl ?_
      refine J.iload_n 19 dX3_isSameAsUntaken_18 rfl rfl ?_
      refine J.iconst 1 20 dX3_isSameAsUntaken_19 rfl (by decide) ?_
      refine J.isub 21 dX3_isSameAsUntaken_20 rfl ?_
      refine J.aald2 (i - 1) q2 (v := ad 3 (wf wn (i - 1))) (show (wn (i - 1)).map (ad 3) = _ from by rw [(hwn (i - 1) (by omega)).1]; rfl) 22 dX3_isSameAsUntaken_21 rfl hK.wanted n2 ?_
      refine gf_X3_31 rfl 25 dX3_isSameAsUntaken_22 rfl (hK.place (hwn (i - 1) (by omega)).2) (v := .int (nI (wf wn (i - 1)))) rfl ?_
      refine J.aload_n 26 dX3_isSameAsUntaken_25 rfl rfl ?_
      refine gf_X3_11 rfl 29 dX3_isSameAsUntaken_26 rfl (hK.sea) (v := .ref (ad 17 0)) rfl ?_
      refine J.iload_n 30 dX3_isSameAsUntaken_29 rfl rfl ?_
      refine J.aald2 i q1 (v := ad 3 (wf wn i)) (show (wn i).map (ad 3) = _ from by rw [(hwn i (by omega)).1]; rfl) 31 dX3_isSameAsUntaken_30 rfl hK.wanted n1 ?_
      refine gf_X3_31 rfl 34 dX3_isSameAsUntaken_31 rfl (hK.place (hwn i (by omega)).2) (v := .int (nI (wf wn i))) rfl ?_
      refine J.icmp_ne 41 37 dX3_isSameAsUntaken_34 (by decide) rfl (fun c3 => ?_) (fun c3 => ?_)
      · skip
        refine J.iconst 0 42 dX3_isSameAsUntaken_41 rfl (by decide) ?_
        exact J.zret dX3_isSameAsUntaken_42 rfl (Or.inl rfl) (by rw [← hpost]; exact ⟨congrArg (fun z => some (Value.int z)) (ib_f (show ¬ sameT (tkf T) wn i from fun z => c3 (by rw [z.2.2]))).symm, rfl⟩)
      · skip
        refine J.iconst 1 38 dX3_isSameAsUntaken_37 rfl (by decide) ?_
        refine J.goto 42 dX3_isSameAsUntaken_38 (by decide) ?_
        exact J.zret dX3_isSameAsUntaken_42 rfl (Or.inr rfl) (by rw [← hpost]; exact ⟨congrArg (fun z => some (Value.int z)) (ib_t (show sameT (tkf T) wn i from ⟨by omega, by assumption, (nI_eq (by omega) (by omega)).mp (by assumption)⟩)).symm, rfl⟩)
