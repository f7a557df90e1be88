def pkW (S : MS) (i : Nat) : Int32 := S.2 18 (S.2 59 i).toNatClampNeg
def pkM (S : MS) (i : Nat) : Int32 := S.2 19 (S.2 59 i).toNatClampNeg
def pkA (S : MS) (i : Nat) : Int32 := ib (S.2 20 (S.2 59 i).toNatClampNeg = 1 ∨ S.2 20 (S.2 59 i).toNatClampNeg = 3)
def pH (X g : Nat → Int32) (n x0 : Int32) : Nat → Int32
  | 0 => x0
  | j + 1 => if g j = n then pH X g n x0 j + X j else pH X g n x0 j
def pAl (g : Nat → Int32) (n : Int32) : Nat → Int32
  | 0 => 1
  | j + 1 => if g j = n then 0 else pAl g n j
def pFt (A g : Nat → Int32) (n : Int32) : Nat → Int32
  | 0 => 1
  | j + 1 => if g j = n then (if pFt A g n j = 0 then 0 else if A j = 0 then 1 else 0) else pFt A g n j
def fitI (x5 x6 x7 x8 al lift : Int32) : Int32 := if x8 = 0 then 0 else if x7 = 0 then (if al = 0 then (if lift < x5 then 0 else if 9 < x6 then 0 else 1) else 0) else if lift < x5 then 0 else if 9 < x6 then 0 else 1
def fitS (W M A g : Nat → Int32) (a : Nat) (n lift : Int32) : Int32 := fitI (pH W g n (W a) a) (pH M g n (M a) a) (pAl g n a) (pFt A g n a) (A a) lift
def pkL (W M A g : Nat → Int32) (a : Nat) (lift : Int32) (rc : (Nat → Int32) → Bool) : Nat → Nat → Bool
  | 0, _ => false
  | j + 1, n => if ¬ fitS W M A g a (nI n) lift = 0 ∧ rc (upd g a (nI n)) = true then true else if pAl g (nI n) a = 0 then pkL W M A g a lift rc j (n + 1) else false
def pkF (W M A : Nat → Int32) (pm N : Nat) (lift : Int32) : Nat → (Nat → Int32) → Bool
  | 0, _ => true
  | f + 1, g => pkL W M A g (pm - (f + 1)) lift (pkF W M A pm N lift f) N 0
def pkR (a : Nat) (S T : MS) : Prop := T.1 = S.1 ∧ (∀ j, j ≠ 58 → T.2 j = S.2 j) ∧ ∀ i, i < a → T.2 58 i = S.2 58 i
theorem pH_ext {X g g2 : Nat → Int32} {n x : Int32} : ∀ {a : Nat}, (∀ i, i < a → g2 i = g i) → pH X g2 n x a = pH X g n x a
  | 0, _ => rfl
  | a + 1, h => by
    have ih := pH_ext (X := X) (n := n) (x := x) (a := a) (fun i hi => h i (by omega))
    simp only [pH, ih, h a (by omega)]
theorem pAl_ext {g g2 : Nat → Int32} {n : Int32} : ∀ {a : Nat}, (∀ i, i < a → g2 i = g i) → pAl g2 n a = pAl g n a
  | 0, _ => rfl
  | a + 1, h => by
    have ih := pAl_ext (n := n) (a := a) (fun i hi => h i (by omega))
    simp only [pAl, ih, h a (by omega)]
theorem pFt_ext {A g g2 : Nat → Int32} {n : Int32} : ∀ {a : Nat}, (∀ i, i < a → g2 i = g i) → pFt A g2 n a = pFt A g n a
  | 0, _ => rfl
  | a + 1, h => by
    have ih := pFt_ext (A := A) (n := n) (a := a) (fun i hi => h i (by omega))
    simp only [pFt, ih, h a (by omega)]
theorem fitS_ext {W M A g g2 : Nat → Int32} {a : Nat} {n lift : Int32} (h : ∀ i, i < a → g2 i = g i) : fitS W M A g2 a n lift = fitS W M A g a n lift := by
  simp only [fitS, pH_ext h, pAl_ext h, pFt_ext h]
theorem pkL_ext {W M A g g2 : Nat → Int32} {a : Nat} {lift : Int32} {rc : (Nat → Int32) → Bool} (h : ∀ i, i < a → g2 i = g i) (hr : ∀ x, rc (upd g2 a x) = rc (upd g a x)) : ∀ j n, pkL W M A g2 a lift rc j n = pkL W M A g a lift rc j n
  | 0, _ => rfl
  | j + 1, n => by
    simp only [pkL, fitS_ext h, pAl_ext h, hr, pkL_ext h hr j (n + 1)]
theorem pkF_ext {W M A : Nat → Int32} {pm N : Nat} {lift : Int32} : ∀ {f : Nat} {g g2 : Nat → Int32}, f ≤ pm → (∀ i, i < pm - f → g2 i = g i) → pkF W M A pm N lift f g2 = pkF W M A pm N lift f g
  | 0, _, _, _, _ => rfl
  | f + 1, g, g2, hf, h => by
    simp only [pkF]
    refine pkL_ext h (fun x => pkF_ext (by omega) (fun i hi => ?_)) N 0
    by_cases e : i = pm - (f + 1)
    · rw [e, pk_us, pk_us]
    · rw [pk_un e, pk_un e]
      exact h i (by omega)
theorem pkW_of {S T : MS} (h : ∀ j, j ≠ 58 → T.2 j = S.2 j) : pkW T = pkW S ∧ pkM T = pkM S ∧ pkA T = pkA S := by
  refine ⟨funext fun i => ?_, funext fun i => ?_, funext fun i => ?_⟩
  · simp only [pkW, h 18 (by decide), h 59 (by decide)]
  · simp only [pkM, h 19 (by decide), h 59 (by decide)]
  · simp only [pkA, h 20 (by decide), h 59 (by decide)]
theorem k_alone2 {S T : MS} {i d : Nat} (h : ∀ j, j ≠ 58 → T.2 j = S.2 j) (hl : vp_in (S.2 59 i) 80) : CM Y_X12_isAlone d [.int (S.2 59 i)] T (fun r S2 => r = some (.int (pkA S i)) ∧ S2 = T) := by
  have z := k_isAlone (S := T) (l := S.2 59 i) (d := d) hl
  rw [h 20 (by decide)] at z
  exact z
theorem pkR.step {S T U : MS} {a : Nat} {x : Int32} (h : pkR a S T) (h2 : pkR (a + 1) (T.1, u2 T.2 58 a x) U) : pkR a S U := by
  obtain ⟨p1, p2, p3⟩ := h
  obtain ⟨q1, q2, q3⟩ := h2
  refine ⟨q1.trans p1, fun j hj => ?_, fun i hi => ?_⟩
  · rw [q2 j hj]
    exact (u2_n hj).trans (p2 j hj)
  · rw [q3 i (by omega)]
    show u2 T.2 58 a x 58 i = _
    rw [u2_s, pk_un (by omega)]
    exact p3 i hi
theorem k_packs {pm N d : Nat} {lift : Int32} (hpm : pm ≤ 9) (hNN : N ≤ 9) : ∀ (f : Nat) (S : MS) (a : Nat), a + f = pm → S.1 60 = nI pm → (∀ i, i < pm → vp_in (S.2 59 i) 80) → CM Y_X12_packs (d + 1 + f) [.int (nI a), .int (nI N), .int lift] S (fun r S2 => r = some (.int (ib (pkF (pkW S) (pkM S) (pkA S) pm N lift f (S.2 58) = true))) ∧ pkR a S S2) := by
  intro f
  induction f with
  | zero =>
    intro S a hap hM1 hv
    refine CM.of 6 rfl (fun _ => Nat.le_of_ble_eq_true rfl) (by simp [Value.category]) ?_
    intro G m0 ad h0 h post hM hF fin
    show J Y_X12_packs (d + 1) G 0 0 0 [some (.ref m0), some (.int (nI a)), some (.int (nI N)), some (.int lift), none, none, none, none, none, none] [] h post
    refine J.iload_n 1 dX12_packs_0 rfl rfl ?_
    refine J.aload_n 2 dX12_packs_1 rfl rfl ?_
    refine mg_265 hM (x := S.1 60) rfl rfl 5 dX12_packs_2 rfl ?_
    refine J.icmp_ne 10 8 dX12_packs_5 (by decide) rfl (fun c1 => ?_) (fun c1 => ?_)
    · skip
      exact absurd (by rw [hM1, ← hap]; rfl) c1
    · skip
      refine J.iconst 1 9 dX12_packs_8 rfl (by decide) ?_
      exact J.zret dX12_packs_9 rfl (Or.inr rfl) (fin _ _ _ ⟨rfl, rfl, fun _ _ => rfl, fun _ _ => rfl⟩ hM hF)
  | succ f IH =>
    intro S a hap hM1 hv
    refine CM.of 6 rfl (fun _ => Nat.le_of_ble_eq_true rfl) (by simp [Value.category]) ?_
    intro G m0 ad h0 h post hM hF fin
    have hF1 : pkF (pkW S) (pkM S) (pkA S) pm N lift (f + 1) (S.2 58) = pkL (pkW S) (pkM S) (pkA S) (S.2 58) a lift (pkF (pkW S) (pkM S) (pkA S) pm N lift f) N 0 := by rw [pkF, show pm - (f + 1) = a from by omega]
    show J Y_X12_packs (d + 1 + f + 1) G 0 0 0 [some (.ref m0), some (.int (nI a)), some (.int (nI N)), some (.int lift), none, none, none, none, none, none] [] h post
    refine J.iload_n 1 dX12_packs_0 rfl rfl ?_
    refine J.aload_n 2 dX12_packs_1 rfl rfl ?_
    refine mg_265 hM (x := S.1 60) rfl rfl 5 dX12_packs_2 rfl ?_
    refine J.icmp_ne 10 8 dX12_packs_5 (by decide) rfl (fun c1 => ?_) (fun c1 => ?_)
    · skip
      refine J.iconst 0 11 dX12_packs_10 rfl (by decide) ?_
      refine J.ist_4 13 dX12_packs_11 rfl (by decide) ?_
      have loop13 : ∀ (j k : Nat) (x4 : Int32), k ≤ N → N + 1 ≤ k + j → x4 = nI k → ∀ Sx : MS, (pkR a S Sx) → (pkL (pkW S) (pkM S) (pkA S) (S.2 58) a lift (pkF (pkW S) (pkM S) (pkA S) pm N lift f) (N - k) k = pkL (pkW S) (pkM S) (pkA S) (S.2 58) a lift (pkF (pkW S) (pkM S) (pkA S) pm N lift f) N 0) → ∀ h, MR m0 ad Sx h → MF m0 ad h0 h → J Y_X12_packs (d + 1 + f + 1) G 0 0 13 [some (.ref m0), some (.int (nI a)), some (.int (nI N)), some (.int lift), some (.int x4), none, none, none, none, none] [] h post := by
        intro j
        induction j with
        | zero => intro k _ g1 g2; exact absurd g2 (by omega)
        | succ j ih =>
          intro k x4 g1 g2 e4 Sx hR hL h hM hF
          have q4 : x4.toNatClampNeg = k := by rw [e4]; exact nI_clamp (by omega)
          refine J.iload 15 dX12_packs_13 rfl rfl ?_
          refine J.iload_n 16 dX12_packs_15 rfl rfl ?_
          refine J.icmp_ge 224 19 dX12_packs_16 (by decide) rfl (fun c2 => ?_) (fun c2 => ?_)
          · skip
            have hk : k = N := Nat.le_antisymm g1 ((nI_leI (by omega) (by omega)).mp (by have z := c2; rw [e4] at z; exact z))
            refine J.iconst 0 225 dX12_packs_224 rfl (by decide) ?_
            exact J.zret dX12_packs_225 rfl (Or.inl rfl) (fin _ _ _ ⟨by rw [hF1, ← hL, hk, Nat.sub_self] <;> rfl, hR⟩ hM hF)
          · skip
            have hk : k < N := Nat.lt_of_not_le (fun y => c2 (by rw [e4]; exact nI_le y (by omega)))
            have hin : vp_in x4 9 := by rw [e4]; exact vp_in_nI (by omega) (by decide)
            refine J.aload_n 20 dX12_packs_19 rfl rfl ?_
            refine mg_56 hM rfl 23 dX12_packs_20 rfl ?_
            refine J.aload_n 24 dX12_packs_23 rfl rfl ?_
            refine mg_147 hM rfl 27 dX12_packs_24 rfl ?_
            refine J.iload_n 28 dX12_packs_27 rfl rfl ?_
            refine ml_ia hM a (nI_clamp (by omega)) (x := S.2 59 a) (congrFun (hR.2.1 59 (by decide)) _) rfl rfl (show vp_in (nI a) 9 from vp_in_nI (by omega) (by decide)) 29 dX12_packs_28 rfl ?_
            refine ml_ia hM ((S.2 59 a).toNatClampNeg) rfl (x := S.2 18 ((S.2 59 a).toNatClampNeg)) (congrFun (hR.2.1 18 (by decide)) _) rfl rfl (hv a (by omega)) 30 dX12_packs_29 rfl ?_
            refine J.ist_5 32 dX12_packs_30 rfl (by decide) ?_
            refine J.aload_n 33 dX12_packs_32 rfl rfl ?_
            refine mg_59 hM rfl 36 dX12_packs_33 rfl ?_
            refine J.aload_n 37 dX12_packs_36 rfl rfl ?_
            refine mg_147 hM rfl 40 dX12_packs_37 rfl ?_
            refine J.iload_n 41 dX12_packs_40 rfl rfl ?_
            refine ml_ia hM a (nI_clamp (by omega)) (x := S.2 59 a) (congrFun (hR.2.1 59 (by decide)) _) rfl rfl (show vp_in (nI a) 9 from vp_in_nI (by omega) (by decide)) 42 dX12_packs_41 rfl ?_
            refine ml_ia hM ((S.2 59 a).toNatClampNeg) rfl (x := S.2 19 ((S.2 59 a).toNatClampNeg)) (congrFun (hR.2.1 19 (by decide)) _) rfl rfl (hv a (by omega)) 43 dX12_packs_42 rfl ?_
            refine J.ist_6 45 dX12_packs_43 rfl (by decide) ?_
            refine J.iconst 1 46 dX12_packs_45 rfl (by decide) ?_
            refine J.ist_7 48 dX12_packs_46 rfl (by decide) ?_
            refine J.iconst 1 49 dX12_packs_48 rfl (by decide) ?_
            refine J.ist_8 51 dX12_packs_49 rfl (by decide) ?_
            refine J.iconst 0 52 dX12_packs_51 rfl (by decide) ?_
            refine J.ist_9 54 dX12_packs_52 rfl (by decide) ?_
            have loop54 : ∀ (j2 k2 : Nat) (x52 x62 x72 x82 x92 : Int32), k2 ≤ a → a + 1 ≤ k2 + j2 → x92 = nI k2 → (x52 = pH (pkW S) (S.2 58) x4 (pkW S a) k2) → (x62 = pH (pkM S) (S.2 58) x4 (pkM S a) k2) → (x72 = pAl (S.2 58) x4 k2) → (x82 = pFt (pkA S) (S.2 58) x4 k2) → ∀ h, MR m0 ad Sx h → MF m0 ad h0 h → J Y_X12_packs (d + 1 + f + 1) G 0 0 54 [some (.ref m0), some (.int (nI a)), some (.int (nI N)), some (.int lift), some (.int x4), some (.int x52), some (.int x62), some (.int x72), some (.int x82), some (.int x92)] [] h post := by
              intro j2
              induction j2 with
              | zero => intro k _ _ _ _ _ g1 g2; exact absurd g2 (by omega)
              | succ j2 ih2 =>
                intro k2 x52 x62 x72 x82 x92 g12 g22 e92 e52 e62 e72 e82 h hM hF
                have q92 : x92.toNatClampNeg = k2 := by rw [e92]; exact nI_clamp (by omega)
                refine J.iload 56 dX12_packs_54 rfl rfl ?_
                refine J.iload_n 57 dX12_packs_56 rfl rfl ?_
                refine J.icmp_ge 141 60 dX12_packs_57 (by decide) rfl (fun c3 => ?_) (fun c3 => ?_)
                · skip
                  have hk2 : k2 = a := Nat.le_antisymm g12 ((nI_leI (by omega) (by omega)).mp (by have z := c3; rw [e92] at z; exact z))
                  rw [hk2] at e52 e62 e72 e82
                  refine J.iload 143 dX12_packs_141 rfl rfl ?_
                  have K1 : ∀ (v1_0 : Int32), v1_0 = (if x82 = 0 then 0 else (if x72 = 0 then (if (pkA S a) = 0 then (if lift < x52 then 0 else (if 9 < x62 then 0 else 1)) else 0) else (if lift < x52 then 0 else (if 9 < x62 then 0 else 1)))) → ∀ h, MR m0 ad Sx h → MF m0 ad h0 h → J Y_X12_packs (d + 1 + f + 1) G 0 0 182 [some (.ref m0), some (.int (nI a)), some (.int (nI N)), some (.int lift), some (.int x4), some (.int x52), some (.int x62), some (.int x72), some (.int x82), some (.int x92)] [.int v1_0] h post := by
                    intro v1_0 ev1_0 h hM hF
                    refine J.ist_8 184 dX12_packs_182 rfl (by decide) ?_
                    refine J.iload 186 dX12_packs_184 rfl rfl ?_
                    refine J.if_eq 211 189 dX12_packs_186 (by decide) rfl (fun c4 => ?_) (fun c4 => ?_)
                    · skip
                      have hfit : v1_0 = fitS (pkW S) (pkM S) (pkA S) (S.2 58) a (nI k) lift := by rw [ev1_0, e52, e62, e72, e82, e4]; rfl
                      refine J.iload 213 dX12_packs_211 rfl rfl ?_
                      refine J.if_eq 218 216 dX12_packs_213 (by decide) rfl (fun c5 => ?_) (fun c5 => ?_)
                      · skip
                        refine J.iinc_4 1 221 dX12_packs_218 rfl (by decide) (by decide) ?_
                        refine J.goto 13 dX12_packs_221 (by decide) ?_
                        refine J.fg_5 ?_
                        refine J.fg_6 ?_
                        refine J.fg_7 ?_
                        refine J.fg_8 ?_
                        refine J.fg_9 ?_
                        exact ih (k + 1) _ (by omega) (by omega) (by rw [e4]; exact nI_1 k) _ hR (by rw [← hL, show N - k = (N - (k + 1)) + 1 from by omega, pkL, if_neg (fun z => z.1 (by rw [← hfit]; assumption)), if_pos (by rw [← e4, ← e72]; assumption)]) _ hM hF
                      · skip
                        refine J.iconst 0 217 dX12_packs_216 rfl (by decide) ?_
                        exact J.zret dX12_packs_217 rfl (Or.inl rfl) (fin _ _ _ ⟨by rw [hF1, ← hL, show N - k = (N - (k + 1)) + 1 from by omega, pkL, if_neg (fun z => z.1 (by rw [← hfit]; assumption)), if_neg (by rw [← e4, ← e72]; assumption)] <;> rfl, hR⟩ hM hF)
                    · skip
                      have hfit : v1_0 = fitS (pkW S) (pkM S) (pkA S) (S.2 58) a (nI k) lift := by rw [ev1_0, e52, e62, e72, e82, e4]; rfl
                      have hj : ∀ j, j ≠ 58 → (Sx.1, u2 Sx.2 58 a x4).2 j = S.2 j := fun j hj => (u2_n hj).trans (hR.2.1 j hj)
                      have kp : CM Y_X12_packs (d + 1 + f) [.int (nI a + 1), .int (nI N), .int lift] (Sx.1, u2 Sx.2 58 a x4) (fun r S2 => r = some (.int (ib (pkF (pkW S) (pkM S) (pkA S) pm N lift f (upd (Sx.2 58) a x4) = true))) ∧ pkR (a + 1) (Sx.1, u2 Sx.2 58 a x4) S2) := by
                        rw [nI_1]
                        have z := IH (Sx.1, u2 Sx.2 58 a x4) (a + 1) (by omega) ((congrFun hR.1 60).trans hM1) (fun i hi => by rw [hj 59 (by decide)]; exact hv i hi)
                        rw [(pkW_of hj).1, (pkW_of hj).2.1, (pkW_of hj).2.2] at z
                        exact z
                      have hrc : (pkF (pkW S) (pkM S) (pkA S) pm N lift f (upd (Sx.2 58) a x4) = true) = (pkF (pkW S) (pkM S) (pkA S) pm N lift f (upd (S.2 58) a (nI k)) = true) := by
                        rw [e4]
                        refine congrArg (· = true) (pkF_ext (by omega) (fun i hi => ?_))
                        by_cases e : i = a
                        · rw [e, pk_us, pk_us]
                        · rw [pk_un e, pk_un e]
                          exact hR.2.2 i (by omega)
                      refine J.aload_n 190 dX12_packs_189 rfl rfl ?_
                      refine mg_144 hM rfl 193 dX12_packs_190 rfl ?_
                      refine J.iload_n 194 dX12_packs_193 rfl rfl ?_
                      refine J.iload 196 dX12_packs_194 rfl rfl ?_
                      refine ml_is hM hF a (nI_clamp (by omega)) rfl rfl (show vp_in (nI a) 9 from vp_in_nI (by omega) (by decide)) 197 dX12_packs_196 rfl (fun h hM hF => ?_)
                      refine J.aload_n 198 dX12_packs_197 rfl rfl ?_
                      refine J.iload_n 199 dX12_packs_198 rfl rfl ?_
                      refine J.iconst 1 200 dX12_packs_199 rfl (by decide) ?_
                      refine J.iadd 201 dX12_packs_200 rfl ?_
                      refine J.iload_n 202 dX12_packs_201 rfl rfl ?_
                      refine J.iload_n 203 dX12_packs_202 rfl rfl ?_
                      refine mc_271 hM hF kp rfl 206 dX12_packs_203 rfl rfl rfl (Nat.le_of_ble_eq_true rfl) (fun r T203 hp h hM hF => ?_)
                      obtain ⟨rfl, hq203⟩ := hp
                      have hrec := hrc
                      refine J.if_eq 211 209 dX12_packs_206 (by decide) rfl (fun c6 => ?_) (fun c6 => ?_)
                      · skip
                        refine J.iload 213 dX12_packs_211 rfl rfl ?_
                        refine J.if_eq 218 216 dX12_packs_213 (by decide) rfl (fun c7 => ?_) (fun c7 => ?_)
                        · skip
                          refine J.iinc_4 1 221 dX12_packs_218 rfl (by decide) (by decide) ?_
                          refine J.goto 13 dX12_packs_221 (by decide) ?_
                          refine J.fg_5 ?_
                          refine J.fg_6 ?_
                          refine J.fg_7 ?_
                          refine J.fg_8 ?_
                          refine J.fg_9 ?_
                          exact ih (k + 1) _ (by omega) (by omega) (by rw [e4]; exact nI_1 k) _ (hR.step hq203) (by rw [← hL, show N - k = (N - (k + 1)) + 1 from by omega, pkL, if_neg (fun z => absurd z.2 (by rw [← hrec]; exact ib_0.mp (by assumption))), if_pos (by rw [← e4, ← e72]; assumption)]) _ hM hF
                        · skip
                          refine J.iconst 0 217 dX12_packs_216 rfl (by decide) ?_
                          exact J.zret dX12_packs_217 rfl (Or.inl rfl) (fin _ _ _ ⟨by rw [hF1, ← hL, show N - k = (N - (k + 1)) + 1 from by omega, pkL, if_neg (fun z => absurd z.2 (by rw [← hrec]; exact ib_0.mp (by assumption))), if_neg (by rw [← e4, ← e72]; assumption)] <;> rfl, hR.step hq203⟩ hM hF)
                      · skip
                        refine J.iconst 1 210 dX12_packs_209 rfl (by decide) ?_
                        exact J.zret dX12_packs_210 rfl (Or.inr rfl) (fin _ _ _ ⟨by rw [hF1, ← hL, show N - k = (N - (k + 1)) + 1 from by omega, pkL, if_pos ⟨(by rw [← hfit]; assumption), (by rw [← hrec]; exact ib_n.mp (by assumption))⟩] <;> rfl, hR.step hq203⟩ hM hF)
                  refine J.if_eq 181 146 dX12_packs_143 (by decide) rfl (fun c8 => ?_) (fun c8 => ?_)
                  · skip
                    refine J.iconst 0 182 dX12_packs_181 rfl (by decide) ?_
                    exact K1 _ (by first | (simp only [if_neg c1, if_neg c2, if_pos c3, if_pos c8]; done) | (simp only [if_neg c1, if_neg c2, if_pos c3, if_pos c8]; rfl) | (simp [c1, c2, Int32.not_le.mp c2, c3, Int32.not_lt.mpr c3, c8]; done) | contradiction) _ hM hF
                  · skip
                    refine J.iload 148 dX12_packs_146 rfl rfl ?_
                    refine J.if_ne 164 151 dX12_packs_148 (by decide) rfl (fun c9 => ?_) (fun c9 => ?_)
                    · skip
                      refine J.iload 166 dX12_packs_164 rfl rfl ?_
                      refine J.iload_n 167 dX12_packs_166 rfl rfl ?_
                      refine J.icmp_gt 181 170 dX12_packs_167 (by decide) rfl (fun c10 => ?_) (fun c10 => ?_)
                      · skip
                        refine J.iconst 0 182 dX12_packs_181 rfl (by decide) ?_
                        exact K1 _ (by first | (simp only [if_neg c1, if_neg c2, if_pos c3, if_neg c8, if_neg c9, if_pos c10]; done) | (simp only [if_neg c1, if_neg c2, if_pos c3, if_neg c8, if_neg c9, if_pos c10]; rfl) | (simp [c1, c2, Int32.not_le.mp c2, c3, Int32.not_lt.mpr c3, c8, c9, c10, Int32.not_le.mpr c10]; done) | contradiction) _ hM hF
                      · skip
                        refine J.iload 172 dX12_packs_170 rfl rfl ?_
                        refine J.bipush 9 174 dX12_packs_172 rfl (by decide) ?_
                        refine J.icmp_gt 181 177 dX12_packs_174 (by decide) rfl (fun c11 => ?_) (fun c11 => ?_)
                        · skip
                          refine J.iconst 0 182 dX12_packs_181 rfl (by decide) ?_
                          exact K1 _ (by first | (simp only [if_neg c1, if_neg c2, if_pos c3, if_neg c8, if_neg c9, if_neg c10, if_pos c11]; done) | (simp only [if_neg c1, if_neg c2, if_pos c3, if_neg c8, if_neg c9, if_neg c10, if_pos c11]; rfl) | (simp [c1, c2, Int32.not_le.mp c2, c3, Int32.not_lt.mpr c3, c8, c9, c10, Int32.not_lt.mp c10, c11, Int32.not_le.mpr c11]; done) | contradiction) _ hM hF
                        · skip
                          refine J.iconst 1 178 dX12_packs_177 rfl (by decide) ?_
                          refine J.goto 182 dX12_packs_178 (by decide) ?_
                          exact K1 _ (by first | (simp only [if_neg c1, if_neg c2, if_pos c3, if_neg c8, if_neg c9, if_neg c10, if_neg c11]; done) | (simp only [if_neg c1, if_neg c2, if_pos c3, if_neg c8, if_neg c9, if_neg c10, if_neg c11]; rfl) | (simp [c1, c2, Int32.not_le.mp c2, c3, Int32.not_lt.mpr c3, c8, c9, c10, Int32.not_lt.mp c10, c11, Int32.not_lt.mp c11]; done) | contradiction) _ hM hF
                    · skip
                      refine J.aload_n 152 dX12_packs_151 rfl rfl ?_
                      refine J.aload_n 153 dX12_packs_152 rfl rfl ?_
                      refine mg_147 hM rfl 156 dX12_packs_153 rfl ?_
                      refine J.iload_n 157 dX12_packs_156 rfl rfl ?_
                      refine ml_ia hM a (nI_clamp (by omega)) (x := S.2 59 a) (congrFun (hR.2.1 59 (by decide)) _) rfl rfl (show vp_in (nI a) 9 from vp_in_nI (by omega) (by decide)) 158 dX12_packs_157 rfl ?_
                      refine mc_268 hM hF (k_alone2 (S := S) (T := Sx) (i := a) hR.2.1 (hv a (by omega))) rfl 161 dX12_packs_158 rfl rfl rfl (Nat.le_of_ble_eq_true rfl) (fun r S2 hp h hM hF => ?_)
                      obtain ⟨rfl, hp⟩ := hp
                      replace hp := hp.symm
                      subst hp
                      refine J.if_ne 181 164 dX12_packs_161 (by decide) rfl (fun c12 => ?_) (fun c12 => ?_)
                      · skip
                        refine J.iconst 0 182 dX12_packs_181 rfl (by decide) ?_
                        exact K1 _ (by first | (simp only [if_neg c1, if_neg c2, if_pos c3, if_neg c8, if_pos c9, if_neg c12]; done) | (simp only [if_neg c1, if_neg c2, if_pos c3, if_neg c8, if_pos c9, if_neg c12]; rfl) | (simp [c1, c2, Int32.not_le.mp c2, c3, Int32.not_lt.mpr c3, c8, c9, c12]; done) | contradiction) _ hM hF
                      · skip
                        refine J.iload 166 dX12_packs_164 rfl rfl ?_
                        refine J.iload_n 167 dX12_packs_166 rfl rfl ?_
                        refine J.icmp_gt 181 170 dX12_packs_167 (by decide) rfl (fun c13 => ?_) (fun c13 => ?_)
                        · skip
                          refine J.iconst 0 182 dX12_packs_181 rfl (by decide) ?_
                          exact K1 _ (by first | (simp only [if_neg c1, if_neg c2, if_pos c3, if_neg c8, if_pos c9, if_pos c12, if_pos c13]; done) | (simp only [if_neg c1, if_neg c2, if_pos c3, if_neg c8, if_pos c9, if_pos c12, if_pos c13]; rfl) | (simp [c1, c2, Int32.not_le.mp c2, c3, Int32.not_lt.mpr c3, c8, c9, c12, c13, Int32.not_le.mpr c13]; done) | contradiction) _ hM hF
                        · skip
                          refine J.iload 172 dX12_packs_170 rfl rfl ?_
                          refine J.bipush 9 174 dX12_packs_172 rfl (by decide) ?_
                          refine J.icmp_gt 181 177 dX12_packs_174 (by decide) rfl (fun c14 => ?_) (fun c14 => ?_)
                          · skip
                            refine J.iconst 0 182 dX12_packs_181 rfl (by decide) ?_
                            exact K1 _ (by first | (simp only [if_neg c1, if_neg c2, if_pos c3, if_neg c8, if_pos c9, if_pos c12, if_neg c13, if_pos c14]; done) | (simp only [if_neg c1, if_neg c2, if_pos c3, if_neg c8, if_pos c9, if_pos c12, if_neg c13, if_pos c14]; rfl) | (simp [c1, c2, Int32.not_le.mp c2, c3, Int32.not_lt.mpr c3, c8, c9, c12, c13, Int32.not_lt.mp c13, c14, Int32.not_le.mpr c14]; done) | contradiction) _ hM hF
                          · skip
                            refine J.iconst 1 178 dX12_packs_177 rfl (by decide) ?_
                            refine J.goto 182 dX12_packs_178 (by decide) ?_
                            exact K1 _ (by first | (simp only [if_neg c1, if_neg c2, if_pos c3, if_neg c8, if_pos c9, if_pos c12, if_neg c13, if_neg c14]; done) | (simp only [if_neg c1, if_neg c2, if_pos c3, if_neg c8, if_pos c9, if_pos c12, if_neg c13, if_neg c14]; rfl) | (simp [c1, c2, Int32.not_le.mp c2, c3, Int32.not_lt.mpr c3, c8, c9, c12, c13, Int32.not_lt.mp c13, c14, Int32.not_lt.mp c14]; done) | contradiction) _ hM hF
                · skip
                  have hk2 : k2 < a := Nat.lt_of_not_le (fun y => c3 (by rw [e92]; exact nI_le y (by omega)))
                  have hin2 : vp_in x92 9 := by rw [e92]; exact vp_in_nI (by omega) (by decide)
                  refine J.aload_n 61 dX12_packs_60 rfl rfl ?_
                  refine mg_144 hM rfl 64 dX12_packs_61 rfl ?_
                  refine J.iload 66 dX12_packs_64 rfl rfl ?_
                  refine ml_ia hM k2 q92 (x := S.2 58 k2) (hR.2.2 _ hk2) rfl rfl (by assumption) 67 dX12_packs_66 rfl ?_
                  refine J.iload 69 dX12_packs_67 rfl rfl ?_
                  have K2 : ∀ (w2_5 : Int32) (w2_6 : Int32) (w2_7 : Int32) (w2_8 : Int32), w2_5 = (if (S.2 58 k2) = x4 then (x52 + (S.2 18 ((S.2 59 k2).toNatClampNeg))) else x52) → w2_6 = (if (S.2 58 k2) = x4 then (x62 + (S.2 19 ((S.2 59 k2).toNatClampNeg))) else x62) → w2_7 = (if (S.2 58 k2) = x4 then 0 else x72) → w2_8 = (if (S.2 58 k2) = x4 then (if x82 = 0 then 0 else (if (pkA S k2) = 0 then 1 else 0)) else x82) → ∀ h, MR m0 ad Sx h → MF m0 ad h0 h → J Y_X12_packs (d + 1 + f + 1) G 0 0 135 [some (.ref m0), some (.int (nI a)), some (.int (nI N)), some (.int lift), some (.int x4), some (.int w2_5), some (.int w2_6), some (.int w2_7), some (.int w2_8), some (.int x92)] [] h post := by
                    intro w2_5 w2_6 w2_7 w2_8 ew2_5 ew2_6 ew2_7 ew2_8 h hM hF
                    refine J.iinc_9 1 138 dX12_packs_135 rfl (by decide) (by decide) ?_
                    refine J.goto 54 dX12_packs_138 (by decide) ?_
                    exact ih2 (k2 + 1) _ _ _ _ _ (by omega) (by omega) (by rw [e92]; exact nI_1 k2) (by rw [ew2_5, e52]; rfl) (by rw [ew2_6, e62]; rfl) (by rw [ew2_7, e72]; rfl) (by rw [ew2_8, e82]; rfl) _ hM hF
                  refine J.icmp_ne 135 72 dX12_packs_69 (by decide) rfl (fun c15 => ?_) (fun c15 => ?_)
                  · skip
                    exact K2 _ _ _ _ (by first | (simp only [if_neg c1, if_neg c2, if_neg c3, if_neg c15]; done) | (simp only [if_neg c1, if_neg c2, if_neg c3, if_neg c15]; rfl) | (simp [c1, c2, Int32.not_le.mp c2, c3, Int32.not_le.mp c3, c15]; done) | contradiction) (by first | (simp only [if_neg c1, if_neg c2, if_neg c3, if_neg c15]; done) | (simp only [if_neg c1, if_neg c2, if_neg c3, if_neg c15]; rfl) | (simp [c1, c2, Int32.not_le.mp c2, c3, Int32.not_le.mp c3, c15]; done) | contradiction) (by first | (simp only [if_neg c1, if_neg c2, if_neg c3, if_neg c15]; done) | (simp only [if_neg c1, if_neg c2, if_neg c3, if_neg c15]; rfl) | (simp [c1, c2, Int32.not_le.mp c2, c3, Int32.not_le.mp c3, c15]; done) | contradiction) (by first | (simp only [if_neg c1, if_neg c2, if_neg c3, if_neg c15]; done) | (simp only [if_neg c1, if_neg c2, if_neg c3, if_neg c15]; rfl) | (simp [c1, c2, Int32.not_le.mp c2, c3, Int32.not_le.mp c3, c15]; done) | contradiction) _ hM hF
                  · skip
                    refine J.iload 74 dX12_packs_72 rfl rfl ?_
                    refine J.aload_n 75 dX12_packs_74 rfl rfl ?_
                    refine mg_56 hM rfl 78 dX12_packs_75 rfl ?_
                    refine J.aload_n 79 dX12_packs_78 rfl rfl ?_
                    refine mg_147 hM rfl 82 dX12_packs_79 rfl ?_
                    refine J.iload 84 dX12_packs_82 rfl rfl ?_
                    refine ml_ia hM k2 q92 (x := S.2 59 k2) (congrFun (hR.2.1 59 (by decide)) _) rfl rfl (by assumption) 85 dX12_packs_84 rfl ?_
                    refine ml_ia hM ((S.2 59 k2).toNatClampNeg) rfl (x := S.2 18 ((S.2 59 k2).toNatClampNeg)) (congrFun (hR.2.1 18 (by decide)) _) rfl rfl (hv k2 (by omega)) 86 dX12_packs_85 rfl ?_
                    refine J.iadd 87 dX12_packs_86 rfl ?_
                    refine J.ist_5 89 dX12_packs_87 rfl (by decide) ?_
                    refine J.iload 91 dX12_packs_89 rfl rfl ?_
                    refine J.aload_n 92 dX12_packs_91 rfl rfl ?_
                    refine mg_59 hM rfl 95 dX12_packs_92 rfl ?_
                    refine J.aload_n 96 dX12_packs_95 rfl rfl ?_
                    refine mg_147 hM rfl 99 dX12_packs_96 rfl ?_
                    refine J.iload 101 dX12_packs_99 rfl rfl ?_
                    refine ml_ia hM k2 q92 (x := S.2 59 k2) (congrFun (hR.2.1 59 (by decide)) _) rfl rfl (by assumption) 102 dX12_packs_101 rfl ?_
                    refine ml_ia hM ((S.2 59 k2).toNatClampNeg) rfl (x := S.2 19 ((S.2 59 k2).toNatClampNeg)) (congrFun (hR.2.1 19 (by decide)) _) rfl rfl (hv k2 (by omega)) 103 dX12_packs_102 rfl ?_
                    refine J.iadd 104 dX12_packs_103 rfl ?_
                    refine J.ist_6 106 dX12_packs_104 rfl (by decide) ?_
                    refine J.iconst 0 107 dX12_packs_106 rfl (by decide) ?_
                    refine J.ist_7 109 dX12_packs_107 rfl (by decide) ?_
                    refine J.iload 111 dX12_packs_109 rfl rfl ?_
                    have K3 : ∀ (v3_0 : Int32), v3_0 = (if x82 = 0 then 0 else (if (pkA S k2) = 0 then 1 else 0)) → ∀ h, MR m0 ad Sx h → MF m0 ad h0 h → J Y_X12_packs (d + 1 + f + 1) G 0 0 133 [some (.ref m0), some (.int (nI a)), some (.int (nI N)), some (.int lift), some (.int x4), some (.int (x52 + (S.2 18 ((S.2 59 k2).toNatClampNeg)))), some (.int (x62 + (S.2 19 ((S.2 59 k2).toNatClampNeg)))), some (.int 0), some (.int x82), some (.int x92)] [.int v3_0] h post := by
                      intro v3_0 ev3_0 h hM hF
                      refine J.ist_8 135 dX12_packs_133 rfl (by decide) ?_
                      exact K2 _ _ _ _ (by first | (simp only [if_neg c1, if_neg c2, if_neg c3, if_pos c15, ev3_0]; done) | (simp only [if_neg c1, if_neg c2, if_neg c3, if_pos c15, ev3_0]; rfl) | (simp [c1, c2, Int32.not_le.mp c2, c3, Int32.not_le.mp c3, c15, ev3_0]; done) | contradiction) (by first | (simp only [if_neg c1, if_neg c2, if_neg c3, if_pos c15, ev3_0]; done) | (simp only [if_neg c1, if_neg c2, if_neg c3, if_pos c15, ev3_0]; rfl) | (simp [c1, c2, Int32.not_le.mp c2, c3, Int32.not_le.mp c3, c15, ev3_0]; done) | contradiction) (by first | (simp only [if_neg c1, if_neg c2, if_neg c3, if_pos c15, ev3_0]; done) | (simp only [if_neg c1, if_neg c2, if_neg c3, if_pos c15, ev3_0]; rfl) | (simp [c1, c2, Int32.not_le.mp c2, c3, Int32.not_le.mp c3, c15, ev3_0]; done) | contradiction) (by first | (simp only [if_neg c1, if_neg c2, if_neg c3, if_pos c15, ev3_0]; done) | (simp only [if_neg c1, if_neg c2, if_neg c3, if_pos c15, ev3_0]; rfl) | (simp [c1, c2, Int32.not_le.mp c2, c3, Int32.not_le.mp c3, c15, ev3_0]; done) | contradiction) _ hM hF
                    refine J.if_eq 132 114 dX12_packs_111 (by decide) rfl (fun c16 => ?_) (fun c16 => ?_)
                    · skip
                      refine J.iconst 0 133 dX12_packs_132 rfl (by decide) ?_
                      exact K3 _ (by first | (simp only [if_neg c1, if_neg c2, if_neg c3, if_pos c15, if_pos c16]; done) | (simp only [if_neg c1, if_neg c2, if_neg c3, if_pos c15, if_pos c16]; rfl) | (simp [c1, c2, Int32.not_le.mp c2, c3, Int32.not_le.mp c3, c15, c16]; done) | contradiction) _ hM hF
                    · skip
                      refine J.aload_n 115 dX12_packs_114 rfl rfl ?_
                      refine J.aload_n 116 dX12_packs_115 rfl rfl ?_
                      refine mg_147 hM rfl 119 dX12_packs_116 rfl ?_
                      refine J.iload 121 dX12_packs_119 rfl rfl ?_
                      refine ml_ia hM k2 q92 (x := S.2 59 k2) (congrFun (hR.2.1 59 (by decide)) _) rfl rfl (by assumption) 122 dX12_packs_121 rfl ?_
                      refine mc_268 hM hF (k_alone2 (S := S) (T := Sx) (i := k2) hR.2.1 (hv k2 (by omega))) rfl 125 dX12_packs_122 rfl rfl rfl (Nat.le_of_ble_eq_true rfl) (fun r S2 hp h hM hF => ?_)
                      obtain ⟨rfl, hp⟩ := hp
                      replace hp := hp.symm
                      subst hp
                      refine J.if_ne 132 128 dX12_packs_125 (by decide) rfl (fun c17 => ?_) (fun c17 => ?_)
                      · skip
                        refine J.iconst 0 133 dX12_packs_132 rfl (by decide) ?_
                        exact K3 _ (by first | (simp only [if_neg c1, if_neg c2, if_neg c3, if_pos c15, if_neg c16, if_neg c17]; done) | (simp only [if_neg c1, if_neg c2, if_neg c3, if_pos c15, if_neg c16, if_neg c17]; rfl) | (simp [c1, c2, Int32.not_le.mp c2, c3, Int32.not_le.mp c3, c15, c16, c17]; done) | contradiction) _ hM hF
                      · skip
                        refine J.iconst 1 129 dX12_packs_128 rfl (by decide) ?_
                        refine J.goto 133 dX12_packs_129 (by decide) ?_
                        exact K3 _ (by first | (simp only [if_neg c1, if_neg c2, if_neg c3, if_pos c15, if_neg c16, if_pos c17]; done) | (simp only [if_neg c1, if_neg c2, if_neg c3, if_pos c15, if_neg c16, if_pos c17]; rfl) | (simp [c1, c2, Int32.not_le.mp c2, c3, Int32.not_le.mp c3, c15, c16, c17]; done) | contradiction) _ hM hF
            exact loop54 (a + 1) 0 _ _ _ _ _ (Nat.zero_le _) (by omega) rfl rfl rfl rfl rfl _ hM hF
      exact loop13 (N + 1) 0 _ (Nat.zero_le _) (by omega) rfl _ ⟨rfl, fun _ _ => rfl, fun _ _ => rfl⟩ rfl _ hM hF
    · skip
      exact absurd ((nI_eq (by omega) (by omega)).mp (c1.trans hM1)) (by omega)
