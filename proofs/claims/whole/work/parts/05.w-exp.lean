def rset (x : Nat → Nat → Int32) (k : Nat) (F : Nat → Int32) : Nat → Nat → Int32 := fun j => if j = k then F else x j
theorem rset_s {x : Nat → Nat → Int32} {k : Nat} {F : Nat → Int32} : rset x k F k = F := if_pos rfl
theorem rset_n {x : Nat → Nat → Int32} {k j : Nat} {F : Nat → Int32} (h : j ≠ k) : rset x k F j = x j := if_neg h
section KSF
variable {G : Nat → Nat} {O : Nat → Prop} {ad : Nat → Nat → Nat} {S X : MS} {L : Nat → List Nat} {wn : Nat → Option Nat} {sl : Nat → Nat} {fl : Nat} {h : AH} {h0 : AH}
theorem kc_9F {F : Nat → Int32} : ∀ c2 i2, cs ad S (X.1, rset X.2 6 F) L wn sl fl c2 i2 = if c2 = 15 ∧ i2 = 9 then some (Ai 5 F) else cs ad S X L wn sl fl c2 i2
  | 0, i2 => rfl
  | 1, i2 => rfl
  | 2, i2 => rfl
  | 3, i2 => rfl
  | 4, i2 => rfl
  | 5, i2 => rfl
  | 6, i2 => rfl
  | 7, i2 => rfl
  | 8, i2 => rfl
  | 9, i2 => by
    show (if i2 < (L 6).length then some (Ai (sl i2) (rset X.2 6 F (100 + i2))) else none) = (if i2 < (L 6).length then some (Ai (sl i2) (X.2 (100 + i2))) else none)
    rw [rset_n (by omega)]
  | 10, i2 => rfl
  | 11, i2 => rfl
  | 12, i2 => rfl
  | 13, i2 => rfl
  | 14, i2 => rfl
  | 15, i2 => by
    match i2 with
    | 0 => rfl
    | 1 => rfl
    | 2 => rfl
    | 3 => rfl
    | 4 => rfl
    | 5 => rfl
    | 6 => rfl
    | 7 => rfl
    | 8 => rfl
    | 9 => rfl
    | n + 10 => rfl
  | 16, i2 => rfl
  | 17, i2 => rfl
  | n + 18, i2 => rfl
theorem ks_9F {F : Nat → Int32} {Y : YM} {d kc ks pc : Nat} {lv : List (Option Value)} {st : List Value} {post : Option Value → AH → Prop} (hK : KR G O ad S X L wn sl fl h) (hF : KF O h0 h) (kk : ∀ h, KR G O ad S (X.1, rset X.2 6 F) L wn sl fl h → KF O h0 h → J Y d G kc ks pc lv st h post) : J Y d G kc ks pc lv st (hu h (ad 15 9) (Ai 5 F)) post := by
  exact kk _ (hK.set (c := 15) (i := 9) rfl kc_9F) (hF.hu (hK.own (c := 15) (i := 9) rfl))
end KSF
def xN (X Y : MS) : Prop := (∀ j, 5 ≤ j → Y.2 1 j = X.2 1 j) ∧ ∀ k, 8 ≤ k → Y.2 k = X.2 k
def xE (X Y : MS) : Prop := (∀ k, k ≠ 0 → k ≠ 6 → Y.1 k = X.1 k) ∧ (∀ k, k ≠ 1 → k ≠ 2 → k ≠ 5 → k ≠ 6 → k ≠ 7 → Y.2 k = X.2 k) ∧ ∀ j, 7 ≤ j → j ≠ 10 → Y.2 1 j = X.2 1 j
theorem xE.refl {X : MS} : xE X X := ⟨fun _ _ _ => rfl, fun _ _ _ _ _ _ => rfl, fun _ _ _ => rfl⟩
theorem x_gf_r {S X : MS} {p : Nat} {fo : Int32} (k : Nat) (h : k ≠ 1) : (x_flown (x_goal S X p) fo).2 k = X.2 k := by
  simp only [x_flown, x_goal, u2_n h]
theorem x_gf_1 {S X : MS} {p : Nat} {fo : Int32} (j : Nat) (h : 7 ≤ j) (h2 : j ≠ 10) : (x_flown (x_goal S X p) fo).2 1 j = X.2 1 j := by
  simp only [x_flown, x_goal, u2_s]
  rw [pk_un h2, pk_un (by omega), pk_un (by omega)]
theorem xE.ask {S X Y : MS} {p : Nat} {fo : Int32} (h : xE X Y) : xN (x_flown (x_goal S X p) fo) (x_flown (x_goal S Y p) fo) := by
  refine ⟨fun j hj => ?_, fun k hk => ?_⟩
  · by_cases e10 : j = 10
    · subst e10
      simp only [x_flown, u2_s, pk_us]
    · by_cases e7 : 7 ≤ j
      · rw [x_gf_1 j e7 e10, x_gf_1 j e7 e10]
        exact h.2.2 j e7 e10
      · simp only [x_flown, x_goal, u2_s]
        rw [pk_un e10, pk_un e10]
        by_cases e6 : j = 6
        · subst e6; rw [pk_us, pk_us]
        · have e5 : j = 5 := by omega
          subst e5
          rw [pk_un e6, pk_un e6, pk_us, pk_us]
  · rw [x_gf_r k (by omega), x_gf_r k (by omega)]
    exact h.2.1 k (by omega) (by omega) (by omega) (by omega) (by omega)
theorem evC_congr {X Y : MS} (h1 : Y.2 1 = X.2 1) (h8 : ∀ k, 8 ≤ k → Y.2 k = X.2 k) (k : Nat) : evC Y k = evC X k := by
  rw [evC, evC, szn, szn, h1, h8 (100 + k) (by omega), h8 8 (by omega)]
theorem fbN_congr {X Y : MS} (h1 : Y.2 1 = X.2 1) (h8 : ∀ k, 8 ≤ k → Y.2 k = X.2 k) : ∀ j k, fbN Y j k = fbN X j k
  | 0, _ => rfl
  | j + 1, k => by
    rw [fbN, fbN, evC_congr h1 h8 k, fbN_congr h1 h8 j (k + 1)]
theorem nbF_congr {X Y : MS} {n : Nat} {br : Int32} (h1 : Y.2 1 = X.2 1) (h8 : ∀ k, 8 ≤ k → Y.2 k = X.2 k) : nbF Y n br = nbF X n br := by
  rw [nbF, nbF, fbN_congr h1 h8, evC_congr h1 h8]
theorem xN.time {S X Y : MS} {t : Int32} (h : xN X Y) : (x_time S Y t).2 1 = (x_time S X t).2 1 := by
  funext j
  by_cases h5 : 5 ≤ j
  · rw [x_time_5 j h5, x_time_5 j h5]
    exact h.1 j h5
  · simp only [x_time, u2_s]
    match j with
    | 0 => simp [upd]
    | 1 => simp [upd]
    | 2 => simp [upd]
    | 3 => simp [upd]
    | 4 => simp [upd]
    | n + 5 => omega
theorem fmF_congr {S X Y : MS} {n : Nat} {la : Int32} (h : xN X Y) : ∀ f br t, fmF S Y n la f br t = fmF S X n la f br t
  | 0, _, _ => rfl
  | f + 1, br, t => by
    have e : nbF (x_time S Y t) n br = nbF (x_time S X t) n br := nbF_congr h.time (fun k hk => by rw [x_time_r k (by omega), x_time_r k (by omega)]; exact h.2 k hk)
    rw [fmF, fmF, e, h.2 9 (by omega), h.2 10 (by omega), fmF_congr h f]
theorem fm_b {S X : MS} {n : Nat} {la : Int32} (hla : la ≤ 720) : ∀ f br q, q ≤ 1500 → fmF S X n la f br (nI q) = -1 ∨ ∃ b, fmF S X n la f br (nI q) = nI b ∧ q ≤ b ∧ b ≤ 720 ∧ nI b ≤ la
  | 0, _, _, _ => Or.inl rfl
  | f + 1, br, q, hq => by
    rw [fmF]
    by_cases h1 : la < nI q
    · rw [if_pos h1]; exact Or.inl rfl
    · rw [if_neg h1]
      have hq7 : q ≤ 720 := (nI_leI (b := 720) (by omega) (by decide)).mp (Int32.le_trans (Int32.not_lt.mp h1) hla)
      by_cases h2 : nbF (x_time S X (nI q)) n br < 0
      · rw [if_pos h2]
        exact Or.inr ⟨q, rfl, Nat.le_refl _, hq7, Int32.not_lt.mp h1⟩
      · rw [if_neg h2]
        obtain ⟨q2, g1, g2, g3⟩ := nx_q (am := X.2 9 (nbF (x_time S X (nI q)) n br).toNatClampNeg) (ah := X.2 10 (nbF (x_time S X (nI q)) n br).toNatClampNeg) hq7
        rw [g3]
        rcases fm_b hla f (nbF (x_time S X (nI q)) n br) q2 g2 with h | ⟨b, b1, b2, b3, b4⟩
        · exact Or.inl h
        · exact Or.inr ⟨b, b1, by omega, b3, b4⟩
theorem sub_toInt {x y : Int32} (h1 : -100000000 ≤ x.toInt - y.toInt) (h2 : x.toInt - y.toInt ≤ 100000000) : (x - y).toInt = x.toInt - y.toInt := by
  rw [Int32.toInt_sub, Int.bmod_eq_of_le (by omega) (by omega)]
theorem la_b {bb mm ll : Nat} (h1 : bb ≤ 100000) (h2 : mm ≤ 100000) (h3 : ll ≤ 100000) : (nI bb - 1 - nI mm - nI ll).toInt = (bb : Int) - 1 - mm - ll := by
  have e1 : (nI bb - 1).toInt = (bb : Int) - 1 := by
    rw [sub_toInt (by rw [nI_toInt (by omega), show (1 : Int32).toInt = 1 from by decide]; omega) (by rw [nI_toInt (by omega), show (1 : Int32).toInt = 1 from by decide]; omega), nI_toInt (by omega), show (1 : Int32).toInt = 1 from by decide]
  have e2 : (nI bb - 1 - nI mm).toInt = (bb : Int) - 1 - mm := by
    rw [sub_toInt (by rw [e1, nI_toInt (by omega)]; omega) (by rw [e1, nI_toInt (by omega)]; omega), e1, nI_toInt (by omega)]
  rw [sub_toInt (by rw [e2, nI_toInt (by omega)]; omega) (by rw [e2, nI_toInt (by omega)]; omega), e2, nI_toInt (by omega)]
def exM (S : MS) (wn : Nat → Option Nat) (i : Nat) : Int32 := 2 * S.2 2 (wf wn i) + 2
def wyOK (S : MS) (wn : Nat → Option Nat) (n : Nat) : Prop := ∀ i, i < n → ∃ w, w ≤ 60 ∧ S.2 2 (wf wn i) = nI w
theorem exM_b {S : MS} {wn : Nat → Option Nat} {n i : Nat} (h : wyOK S wn n) (hi : i < n) : ∃ m, m ≤ 122 ∧ 2 * S.2 2 (wf wn i) + 2 = nI m := by
  obtain ⟨w, hw, e⟩ := h i hi
  refine ⟨2 * w + 2, by omega, ?_⟩
  rw [e, show (2 : Int32) = nI 2 from rfl, ← nI_add]
  congr 1
  exact (Int32.ofNat_mul 2 w).symm
theorem lmT_b {S : MS} {wn : Nat → Option Nat} {n rr : Nat} {tk : Nat → Int32} (h : wyOK S wn n) (hr : rr ≤ 120) : ∀ k, k ≤ n → ∃ m, m ≤ 242 * k ∧ lmT S tk (nI rr) wn k = nI m
  | 0, _ => ⟨0, by omega, rfl⟩
  | k + 1, hk => by
    obtain ⟨m, m1, m2⟩ := lmT_b h hr (tk := tk) k (by omega)
    obtain ⟨w, w1, w2⟩ := exM_b h (show k < n by omega)
    rw [lmT, m2, w2]
    split
    · exact ⟨m + (rr + w), by omega, by rw [nI_add, nI_add]⟩
    · exact ⟨m, by omega, Int32.add_zero _⟩
def exB (S X0 : MS) (wn : Nat → Option Nat) (n nr : Nat) (tk : Nat → Int32) (q fo best : Int32) (i : Nat) : Int32 := fmF S (x_flown (x_goal S X0 (wf wn i)) fo) nr (best - 1 - exM S wn i - lmT S (upd tk i 1) (X0.1 5) wn n) 2000 (-1) q
/-- best, what was found, and the earliest minutes by sets -/
abbrev XS : Type := Int32 × (Nat → Int32) × (Nat → Int32)
def exL (step : Nat → XS → XS) (skip : Nat → Prop) [DecidablePred skip] (s : XS) : Nat → XS
  | 0 => s
  | i + 1 => if skip i then exL step skip s i else step i (exL step skip s i)
def exG (S X0 : MS) (wn : Nat → Option Nat) (n nr : Nat) : Nat → Nat → (Nat → Int32) → Int32 → Int32 → XS → XS
  | 0, _, _, _, _, s => s
  | f + 1, T, tr, q, fo, s => if s.2.2 T ≤ q then s else exL (fun i s => if 0 ≤ exB S X0 wn n nr (tkf T) q fo s.1 i then (if f = 0 then (exB S X0 wn n nr (tkf T) q fo s.1 i + exM S wn i, va_cpy (upd tr (n - (f + 1)) (nI (wf wn i))) s.2.1 0 0 n, s.2.2) else exG S X0 wn n nr f (tkS T i) (upd tr (n - (f + 1)) (nI (wf wn i))) (exB S X0 wn n nr (tkf T) q fo s.1 i + exM S wn i + X0.1 5) (fo + exM S wn i) s) else s) (fun i => ¬ tkf T i = 0 ∨ sameT (tkf T) wn i) (s.1, s.2.1, upd s.2.2 T q) n
def exI (X0 : MS) (tr : Nat → Int32) (a : Nat) (st : XS) (Y : MS) : Prop := xE X0 Y ∧ (∀ j, j < a → Y.2 5 j = tr j) ∧ Y.1 6 = st.1 ∧ Y.2 6 = st.2.1 ∧ Y.2 7 = st.2.2 ∧ ∃ bb, bb ≤ 721 ∧ st.1 = nI bb
theorem exI_mark {X0 Y : MS} {tr : Nat → Int32} {a T : Nat} {v : Int32} {st : XS} (h : exI X0 tr a st Y) : exI X0 tr a (st.1, st.2.1, upd st.2.2 T v) (Y.1, u2 Y.2 7 T v) := by
  obtain ⟨h1, h5, h6, h6r, h7, hb⟩ := h
  refine ⟨⟨h1.1, fun j j1 j2 j5 j6 j7 => (u2_n j7).trans (h1.2.1 j j1 j2 j5 j6 j7), fun j hj j10 => ?_⟩, fun j hj => ?_, h6, ?_, ?_, hb⟩
  · show u2 Y.2 7 T v 1 j = _
    rw [u2_n (by decide)]
    exact h1.2.2 j hj j10
  · show u2 Y.2 7 T v 5 j = _
    rw [u2_n (by decide)]
    exact h5 j hj
  · show u2 Y.2 7 T v 6 = _
    rw [u2_n (by decide), h6r]
  · show u2 Y.2 7 T v 7 = _
    rw [u2_s, h7]
theorem exI_in {S X0 Y X2 : MS} {tr : Nat → Int32} {a p : Nat} {v fo : Int32} {st : XS} (h : exI X0 tr a st Y) (h2 : xT (x_flown (x_goal S (Y.1, u2 Y.2 5 a v) p) fo) X2) : exI X0 (upd tr a v) (a + 1) st X2 := by
  obtain ⟨h1, h5, h6, h6r, h7, hb⟩ := h
  refine ⟨⟨fun j j0 j6 => (h2.1 j j0).trans (h1.1 j j0 j6), fun j j1 j2 j5 j6 j7 => ?_, fun j hj j10 => ?_⟩, fun j hj => ?_, ?_, ?_, ?_, hb⟩
  · rw [h2.2.1 j j1 j2, x_gf_r j j1]
    exact (u2_n j5).trans (h1.2.1 j j1 j2 j5 j6 j7)
  · rw [h2.2.2 j (by omega), x_gf_1 j hj j10]
    show u2 Y.2 5 a v 1 j = _
    rw [u2_n (by decide)]
    exact h1.2.2 j hj j10
  · rw [h2.2.1 5 (by decide) (by decide), x_gf_r 5 (by decide)]
    show u2 Y.2 5 a v 5 j = _
    rw [u2_s]
    by_cases e : j = a
    · rw [e, pk_us, pk_us]
    · rw [pk_un e, pk_un e]
      exact h5 j (by omega)
  · exact (h2.1 6 (by decide)).trans h6
  · rw [h2.2.1 6 (by decide) (by decide), x_gf_r 6 (by decide)]
    show u2 Y.2 5 a v 6 = _
    rw [u2_n (by decide), h6r]
  · rw [h2.2.1 7 (by decide) (by decide), x_gf_r 7 (by decide)]
    show u2 Y.2 5 a v 7 = _
    rw [u2_n (by decide), h7]
theorem exI_out {X0 Y : MS} {tr : Nat → Int32} {a : Nat} {v : Int32} {st : XS} (h : exI X0 (upd tr a v) (a + 1) st Y) : exI X0 tr a st Y := by
  obtain ⟨h1, h5, h6⟩ := h
  exact ⟨h1, fun j hj => by rw [h5 j (by omega), pk_un (by omega)], h6⟩
theorem exI_best {X0 Y : MS} {tr : Nat → Int32} {n bb : Nat} {st : XS} (h : exI X0 tr n st Y) (hb : bb ≤ 721) : exI X0 tr n (nI bb, va_cpy tr st.2.1 0 0 n, st.2.2) (vf_upd Y.1 6 (nI bb), rset Y.2 6 (va_cpy (Y.2 5) (Y.2 6) 0 0 n)) := by
  obtain ⟨h1, h5, h6, h6r, h7, hb'⟩ := h
  refine ⟨⟨fun j j0 j6 => (vu_n j6).trans (h1.1 j j0 j6), fun j j1 j2 j5 j6 j7 => (rset_n j6).trans (h1.2.1 j j1 j2 j5 j6 j7), fun j hj j10 => ?_⟩, fun j hj => ?_, rfl, ?_, ?_, bb, hb, rfl⟩
  · show rset Y.2 6 (va_cpy (Y.2 5) (Y.2 6) 0 0 n) 1 j = _
    rw [rset_n (by decide)]
    exact h1.2.2 j hj j10
  · show rset Y.2 6 (va_cpy (Y.2 5) (Y.2 6) 0 0 n) 5 j = _
    rw [rset_n (by decide)]
    exact h5 j hj
  · show rset Y.2 6 (va_cpy (Y.2 5) (Y.2 6) 0 0 n) 6 = _
    rw [rset_s, h6r]
    funext j
    simp only [va_cpy]
    by_cases e : 0 ≤ j ∧ j < 0 + n
    · rw [if_pos e, if_pos e]
      exact h5 _ (by omega)
    · rw [if_neg e, if_neg e]
  · show rset Y.2 6 (va_cpy (Y.2 5) (Y.2 6) 0 0 n) 7 = _
    rw [rset_n (by decide), h7]
/-- a row whose first k are 9999 -/
def fil (x : Nat → Int32) (k : Nat) : Nat → Int32 := fun j => if j < k then 9999 else x j
theorem fil_0 {x : Nat → Int32} : fil x 0 = x := by
  funext j
  exact if_neg (Nat.not_lt_zero _)
theorem fil_s {x : Nat → Int32} {k : Nat} : upd (fil x k) k 9999 = fil x (k + 1) := by
  funext j
  by_cases e : j = k
  · rw [e, pk_us, fil, if_pos (Nat.lt_succ_self k)]
  · rw [pk_un e, fil, fil]
    by_cases c : j < k
    · rw [if_pos c, if_pos (by omega)]
    · rw [if_neg c, if_neg (by omega)]
theorem ruOK_8 {X X2 : MS} {sl : Nat → Nat} {i : Nat} (h : ruOK X sl i) (h2 : ∀ k, 8 ≤ k → X2.2 k = X.2 k) : ruOK X2 sl i := by
  obtain ⟨h1, h3, h4, h5⟩ := h
  have e8 := h2 8 (by decide)
  have e1 := h2 (100 + i) (by omega)
  have es : szn X2 i = szn X i := by rw [szn, szn, e8]
  refine ⟨by rw [es, e8]; exact h1, by rw [es]; exact h3, h4, ?_⟩
  rw [es, e1]
  exact h5
theorem xE.mark {X Y : MS} {a : Nat} {v : Int32} (h : xE X Y) : xE X (Y.1, u2 Y.2 5 a v) := by
  refine ⟨h.1, fun j j1 j2 j5 j6 j7 => (u2_n j5).trans (h.2.1 j j1 j2 j5 j6 j7), fun j hj j10 => ?_⟩
  show u2 Y.2 5 a v 1 j = _
  rw [u2_n (by decide)]
  exact h.2.2 j hj j10
