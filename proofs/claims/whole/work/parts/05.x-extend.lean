theorem exI_best2 {X0 Y : MS} {tk tr : Nat → Int32} {m n bb : Nat} {st : Int32 × (Nat → Int32)} (h : exI X0 tk tr m st Y) (hm : m = n) (hb : bb ≤ 721) : exI X0 tk tr m (nI bb, va_cpy tr st.2 0 0 n) (vf_upd Y.1 6 (nI bb), rset Y.2 6 (va_cpy (Y.2 5) (Y.2 6) 0 0 n)) := by
  subst hm
  exact exI_best h hb
theorem la_le {bb mm ll : Nat} (h1 : bb ≤ 721) (h2 : mm ≤ 122) (h3 : ll ≤ 5000) : nI bb - 1 - nI mm - nI ll ≤ 720 := by
  rw [Int32.le_iff_toInt_le, la_b (by omega) (by omega) (by omega), show (720 : Int32).toInt = 720 from by decide]
  omega
theorem la_ge {b bb mm ll : Nat} (h1 : bb ≤ 721) (h2 : mm ≤ 122) (h3 : ll ≤ 5000) (hb : b ≤ 720) (h : nI b ≤ nI bb - 1 - nI mm - nI ll) : b + mm + 1 ≤ bb := by
  rw [Int32.le_iff_toInt_le, la_b (by omega) (by omega) (by omega), nI_toInt (by omega)] at h
  omega
theorem c_extZ {G : Nat → Nat} {O : Nat → Prop} {ad : Nat → Nat → Nat} {S X : MS} {L : Nat → List Nat} {wn : Nat → Option Nat} {sl : Nat → Nat} {fl : Nat} {h h0 : AH} {d : Nat} {X0 : MS} {tk tr : Nat → Int32} {st : Int32 × (Nat → Int32)} {a f n q rr : Nat} {fo : Int32} (hK : KR G O ad S X L wn sl fl h) (hF : KF O h0 h) (hn5 : n ≤ 5) (hsz0 : X0.1 3 = nI n) (ha : a = n) (hI0 : exI X0 tk tr a st X) : Ct Y_X3_extend (d + 6) G 0 0 [.ref (ad 14 0), .ref (ad 12 0), .ref (ad 10 0), .int (nI a), .int (nI q), .int fo] h (fun r h2 => r = none ∧ ∃ Y, exI X0 tk tr a (exF S X0 wn n (L 6).length 0 tk tr (nI q) fo st) Y ∧ KR G O ad S Y L wn sl fl h2 ∧ KF O h0 h2) := by
  refine Ct.ofn 4 rfl (Nat.le_of_ble_eq_true rfl) (by simp [Value.category]) ?_
  generalize hpost : (fun (r : Option Value) (h2 : AH) => r = none ∧ ∃ Y, exI X0 tk tr a (exF S X0 wn n (L 6).length 0 tk tr (nI q) fo st) Y ∧ KR G O ad S Y L wn sl fl h2 ∧ KF O h0 h2) = post
  show J Y_X3_extend (d + 6) G 0 0 0 [some (.ref (ad 14 0)), some (.ref (ad 12 0)), some (.ref (ad 10 0)), some (.int (nI a)), some (.int (nI q)), some (.int fo), none, none, none, none] [] h post
  have hszY : X.1 3 = nI n := (hI0.1.1 3 (by decide) (by decide)).trans hsz0
  refine J.iconst 0 1 dX3_extend_0 rfl (by decide) ?_
  refine J.ist_6 3 dX3_extend_1 rfl (by decide) ?_
  refine J.iload 5 dX3_extend_3 rfl rfl ?_
  refine J.aload_n 6 dX3_extend_5 rfl rfl ?_
  refine gf_X3_28 rfl 9 dX3_extend_6 rfl (hK.sea) (v := .int (X.1 3)) rfl ?_
  refine J.icmp_ge 199 12 dX3_extend_9 (by decide) rfl (fun c1 => ?_) (fun c1 => ?_)
  · skip
    exact J.vret dX3_extend_199 rfl (by rw [← hpost]; exact ⟨rfl, X, hI0, hK, hF⟩)
  · skip
    refine J.iload_n 13 dX3_extend_12 rfl rfl ?_
    refine J.aload_n 14 dX3_extend_13 rfl rfl ?_
    refine gf_X3_28 rfl 17 dX3_extend_14 rfl (hK.sea) (v := .int (X.1 3)) rfl ?_
    refine J.icmp_ge 199 20 dX3_extend_17 (by decide) rfl (fun c2 => ?_) (fun c2 => ?_)
    · skip
      exact J.vret dX3_extend_199 rfl (by rw [← hpost]; exact ⟨rfl, X, hI0, hK, hF⟩)
    · skip
      exact absurd (show X.1 3 ≤ nI a by rw [hszY, ha]; exact Int32.le_refl _) c2
theorem c_extS {G : Nat → Nat} {O : Nat → Prop} {ad : Nat → Nat → Nat} {S X : MS} {L : Nat → List Nat} {wn : Nat → Option Nat} {sl : Nat → Nat} {fl : Nat} {h h0 : AH} {d : Nat} {X0 : MS} {tk tr : Nat → Int32} {st : Int32 × (Nat → Int32)} {a f n q rr : Nat} {fo : Int32} (hK : KR G O ad S X L wn sl fl h) (hF : KF O h0 h) (hn5 : n ≤ 5) (hsz0 : X0.1 3 = nI n) (hwn : ∀ i, i < n → wn i = some (wf wn i) ∧ wf wn i < (L 0).length) (hb0 : (L 0).length ≤ 12) (h6r : L 6 = List.range (L 6).length) (hb6 : (L 6).length ≤ 10) (hru : ∀ i, i < (L 6).length → ruOK X0 sl i) (hwy : wyOK S wn n) (hrr : X0.1 5 = nI rr) (hrr2 : rr ≤ 120) (ha : a + (f + 1) = n) (hq : q ≤ 1500) (hI0 : exI X0 tk tr a st X) (ihf : ∀ (tk tr : Nat → Int32) (q : Nat) (fo : Int32) (st : Int32 × (Nat → Int32)) (X : MS) (h : AH), q ≤ 1500 → exI X0 tk tr (a + 1) st X → KR G O ad S X L wn sl fl h → KF O h0 h → Ct Y_X3_extend (d + 5) G 0 0 [.ref (ad 14 0), .ref (ad 12 0), .ref (ad 10 0), .int (nI (a + 1)), .int (nI q), .int fo] h (fun r h2 => r = none ∧ ∃ Y, exI X0 tk tr (a + 1) (exF S X0 wn n (L 6).length f tk tr (nI q) fo st) Y ∧ KR G O ad S Y L wn sl fl h2 ∧ KF O h0 h2)) : Ct Y_X3_extend (d + 6) G 0 0 [.ref (ad 14 0), .ref (ad 12 0), .ref (ad 10 0), .int (nI a), .int (nI q), .int fo] h (fun r h2 => r = none ∧ ∃ Y, exI X0 tk tr a (exF S X0 wn n (L 6).length (f + 1) tk tr (nI q) fo st) Y ∧ KR G O ad S Y L wn sl fl h2 ∧ KF O h0 h2) := by
  refine Ct.ofn 4 rfl (Nat.le_of_ble_eq_true rfl) (by simp [Value.category]) ?_
  generalize hpost : (fun (r : Option Value) (h2 : AH) => r = none ∧ ∃ Y, exI X0 tk tr a (exF S X0 wn n (L 6).length (f + 1) tk tr (nI q) fo st) Y ∧ KR G O ad S Y L wn sl fl h2 ∧ KF O h0 h2) = post
  show J Y_X3_extend (d + 6) G 0 0 0 [some (.ref (ad 14 0)), some (.ref (ad 12 0)), some (.ref (ad 10 0)), some (.int (nI a)), some (.int (nI q)), some (.int fo), none, none, none, none] [] h post
  have qa : (nI a).toNatClampNeg = a := nI_clamp (by omega)
  have na : vp_in (nI a) 5 := vp_in_nI (by omega) (by decide)
  refine J.iconst 0 1 dX3_extend_0 rfl (by decide) ?_
  refine J.ist_6 3 dX3_extend_1 rfl (by decide) ?_
  have loop3 : ∀ (j k : Nat) (x6 : Int32), k ≤ n → n + 1 ≤ k + j → x6 = nI k → ∀ Xx : MS, (exI X0 tk tr a (exL (fun i s => if 0 ≤ exB S X0 wn n (L 6).length tk (nI q) fo s.1 i then (if f = 0 then (exB S X0 wn n (L 6).length tk (nI q) fo s.1 i + exM S wn i, va_cpy (upd tr (n - (f + 1)) (nI (wf wn i))) s.2 0 0 n) else exF S X0 wn n (L 6).length f (upd tk i 1) (upd tr (n - (f + 1)) (nI (wf wn i))) (exB S X0 wn n (L 6).length tk (nI q) fo s.1 i + exM S wn i + X0.1 5) (fo + exM S wn i) s) else s) (fun i => ¬ tk i = 0 ∨ sameT tk wn i) st k) Xx) → ∀ h, KR G O ad S Xx L wn sl fl h → KF O h0 h → J Y_X3_extend (d + 6) G 0 0 3 [some (.ref (ad 14 0)), some (.ref (ad 12 0)), some (.ref (ad 10 0)), some (.int (nI a)), some (.int (nI q)), some (.int fo), some (.int x6), none, none, none] [] h post := by
    intro j
    induction j with
    | zero => intro k _ g1 g2; exact absurd g2 (by omega)
    | succ j ih =>
      intro k x6 g1 g2 e6 Xx hI h hK hF
      have q6 : x6.toNatClampNeg = k := by rw [e6]; exact nI_clamp (by omega)
      have hszY : Xx.1 3 = nI n := (hI.1.1 3 (by decide) (by decide)).trans hsz0
      refine J.iload 5 dX3_extend_3 rfl rfl ?_
      refine J.aload_n 6 dX3_extend_5 rfl rfl ?_
      refine gf_X3_28 rfl 9 dX3_extend_6 rfl (hK.sea) (v := .int (Xx.1 3)) rfl ?_
      refine J.icmp_ge 199 12 dX3_extend_9 (by decide) rfl (fun c1 => ?_) (fun c1 => ?_)
      · skip
        have hk : k = n := Nat.le_antisymm g1 ((nI_leI (by omega) (by omega)).mp (by have z := c1; rw [e6, hszY] at z; exact z))
        exact J.vret dX3_extend_199 rfl (by rw [← hpost]; exact ⟨rfl, Xx, by rw [exF]; rw [hk] at hI; exact hI, hK, hF⟩)
      · skip
        have hk : k < n := Nat.lt_of_not_le (fun y => c1 (by rw [e6, hszY]; exact nI_le y (by omega)))
        have hin : vp_in x6 5 := by rw [e6]; exact vp_in_nI (by omega) (by decide)
        obtain ⟨sk, hsk⟩ : ∃ sk, sk = (exL (fun i s => if 0 ≤ exB S X0 wn n (L 6).length tk (nI q) fo s.1 i then (if f = 0 then (exB S X0 wn n (L 6).length tk (nI q) fo s.1 i + exM S wn i, va_cpy (upd tr (n - (f + 1)) (nI (wf wn i))) s.2 0 0 n) else exF S X0 wn n (L 6).length f (upd tk i 1) (upd tr (n - (f + 1)) (nI (wf wn i))) (exB S X0 wn n (L 6).length tk (nI q) fo s.1 i + exM S wn i + X0.1 5) (fo + exM S wn i) s) else s) (fun i => ¬ tk i = 0 ∨ sameT tk wn i) st k) := ⟨_, rfl⟩
        rw [← hsk] at hI
        have h7 : Xx.2 7 = tk := hI.2.1
        obtain ⟨bb, hbb, ebb⟩ := hI.2.2.2.2.2
        have h6 : Xx.1 6 = nI bb := hI.2.2.2.1.trans ebb
        refine J.iload_n 13 dX3_extend_12 rfl rfl ?_
        refine J.aload_n 14 dX3_extend_13 rfl rfl ?_
        refine gf_X3_28 rfl 17 dX3_extend_14 rfl (hK.sea) (v := .int (Xx.1 3)) rfl ?_
        refine J.icmp_ge 199 20 dX3_extend_17 (by decide) rfl (fun c2 => ?_) (fun c2 => ?_)
        · skip
          exact absurd (show n ≤ a from by have z := c2; rw [hszY] at z; exact (nI_leI (by omega) (by omega)).mp z) (by omega)
        · skip
          refine J.aload_n 21 dX3_extend_20 rfl rfl ?_
          refine gf_X3_17 rfl 24 dX3_extend_21 rfl (hK.sea) (v := .ref (ad 16 0)) rfl ?_
          refine J.iload 26 dX3_extend_24 rfl rfl ?_
          refine J.zald2 k q6 (x := Xx.2 7 k) rfl 27 dX3_extend_26 rfl hK.taken (by assumption) ?_
          refine J.if_ne 193 30 dX3_extend_27 (by decide) rfl (fun c3 => ?_) (fun c3 => ?_)
          · skip
            refine J.iinc_6 1 196 dX3_extend_193 rfl (by decide) (by decide) ?_
            refine J.goto 3 dX3_extend_196 (by decide) ?_
            exact ih (k + 1) _ (by omega) (by omega) (by rw [e6]; exact nI_1 k) _ (by rw [exL, ← hsk, if_pos (Or.inl (by rw [← h7]; exact c3))]; exact hI) _ hK hF
          · skip
            have htk : tk k = 0 := by rw [← h7]; exact c3
            refine J.aload_n 31 dX3_extend_30 rfl rfl ?_
            refine J.iload 33 dX3_extend_31 rfl rfl ?_
            have kq := c_same (d := d + 5) (i := k) hK hszY hn5 hwn hk hb0
            rw [← e6] at kq
            refine cv_X3_69 rfl 36 kq dX3_extend_33 rfl (hK.sea) rfl rfl (Nat.le_of_ble_eq_true rfl) (Nat.zero_le _) (Nat.zero_le _) (fun r h2 hp => ?_)
            obtain ⟨rfl, rfl⟩ := hp
            refine J.if_eq 42 39 dX3_extend_36 (by decide) rfl (fun c4 => ?_) (fun c4 => ?_)
            · skip
              have hns : ¬ sameT tk wn k := by have z := ib_0.mp c4; rw [← h7]; exact z
              refine J.aload_n 43 dX3_extend_42 rfl rfl ?_
              refine gf_X3_11 rfl 46 dX3_extend_43 rfl (hK.sea) (v := .ref (ad 17 0)) rfl ?_
              refine J.iload 48 dX3_extend_46 rfl rfl ?_
              refine J.aald2 k q6 (v := ad 3 (wf wn k)) (show (wn k).map (ad 3) = _ from by rw [(hwn k hk).1]; rfl) 49 dX3_extend_48 rfl hK.wanted (by assumption) ?_
              refine J.ast_7 51 dX3_extend_49 rfl (by decide) ?_
              refine J.aload 53 dX3_extend_51 rfl rfl ?_
              refine cv_X3_38 rfl 56 (c_there (p := wf wn k) hK (hwn k hk).2) dX3_extend_53 rfl (hK.place (hwn k hk).2) rfl rfl (Nat.le_of_ble_eq_true rfl) (Nat.zero_le _) (Nat.zero_le _) (fun r h2 hp => ?_)
              obtain ⟨rfl, rfl⟩ := hp
              refine J.ist_8 58 dX3_extend_56 rfl (by decide) ?_
              refine J.aload_n 59 dX3_extend_58 rfl rfl ?_
              refine gf_X3_17 rfl 62 dX3_extend_59 rfl (hK.sea) (v := .ref (ad 16 0)) rfl ?_
              refine J.iload 64 dX3_extend_62 rfl rfl ?_
              refine J.iconst 1 65 dX3_extend_64 rfl (by decide) ?_
              refine J.zast2 k q6 (Or.inr rfl) 66 dX3_extend_65 rfl hK.taken (by assumption) ?_
              refine ks_16 hK hF (fun h hK hF => ?_)
              refine J.aload_n 67 dX3_extend_66 rfl rfl ?_
              refine gf_X3_21 rfl 70 dX3_extend_67 rfl (hK.sea) (v := .ref (ad 15 8)) rfl ?_
              refine J.iload_n 71 dX3_extend_70 rfl rfl ?_
              refine J.aload 73 dX3_extend_71 rfl rfl ?_
              refine gf_X3_32 rfl 76 dX3_extend_73 rfl (hK.place (hwn k hk).2) (v := .int (nI (wf wn k))) rfl ?_
              refine J.iast2 a qa 77 dX3_extend_76 rfl hK.arr8 na ?_
              refine ks_15_8 hK hF (fun h hK hF => ?_)
              refine J.aload_n 78 dX3_extend_77 rfl rfl ?_
              refine J.aload 80 dX3_extend_78 rfl rfl ?_
              refine cv_X3_73 rfl 83 (c_setGoal (h0 := h0) (p := wf wn k) hK hF (hwn k hk).2) dX3_extend_80 rfl (hK.book) rfl rfl (Nat.le_of_ble_eq_true rfl) (Nat.zero_le _) (Nat.zero_le _) (fun r h hp => ?_)
              obtain ⟨rfl, hK, hF⟩ := hp
              refine J.aload_n 84 dX3_extend_83 rfl rfl ?_
              refine J.iload 86 dX3_extend_84 rfl rfl ?_
              refine cv_X3_79 rfl 89 (c_setFlown (h0 := h0) (f := fo) hK hF) dX3_extend_86 rfl (hK.book) rfl rfl (Nat.le_of_ble_eq_true rfl) (Nat.zero_le _) (Nat.zero_le _) (fun r h hp => ?_)
              obtain ⟨rfl, hK, hF⟩ := hp
              obtain ⟨Y1, hY1⟩ : ∃ Y1, Y1 = x_flown (x_goal S (Xx.1, u2 (u2 Xx.2 7 k 1) 5 a (nI (wf wn k))) (wf wn k)) fo := ⟨_, rfl⟩
              change KR G O ad S (x_flown (x_goal S (Xx.1, u2 (u2 Xx.2 7 k 1) 5 a (nI (wf wn k))) (wf wn k)) fo) L wn sl fl h at hK
              rw [← hY1] at hK
              have b6 : Y1.1 6 = nI bb := by rw [hY1]; exact h6
              have b3 : Y1.1 3 = nI n := by rw [hY1]; exact hszY
              have b7 : Y1.2 7 = upd tk k 1 := by rw [hY1, x_gf_r 7 (by decide)]; show u2 (u2 Xx.2 7 k 1) 5 a (nI (wf wn k)) 7 = _; rw [u2_n (by decide), u2_s, h7]
              have b5 : Y1.1 5 = X0.1 5 := by rw [hY1]; exact hI.1.1 5 (by decide) (by decide)
              refine J.aload_n 90 dX3_extend_89 rfl rfl ?_
              refine J.aload_n 91 dX3_extend_90 rfl rfl ?_
              refine J.iload 93 dX3_extend_91 rfl rfl ?_
              refine J.aload_n 94 dX3_extend_93 rfl rfl ?_
              refine gf_X3_59 rfl 97 dX3_extend_94 rfl (hK.sea) (v := .int (Y1.1 6)) rfl ?_
              refine J.iconst 1 98 dX3_extend_97 rfl (by decide) ?_
              refine J.isub 99 dX3_extend_98 rfl ?_
              refine J.iload 101 dX3_extend_99 rfl rfl ?_
              refine J.isub 102 dX3_extend_101 rfl ?_
              refine J.aload_n 103 dX3_extend_102 rfl rfl ?_
              have kl := c_left (d := d + 4) (n := n) hK b3 hn5 hwn
              rw [lmL_T, b7, b5] at kl
              refine cv_X3_83 rfl 106 kl dX3_extend_103 rfl (hK.sea) rfl rfl (Nat.le_of_ble_eq_true rfl) (Nat.zero_le _) (Nat.zero_le _) (fun r h2 hp => ?_)
              obtain ⟨rfl, rfl⟩ := hp
              refine J.isub 107 dX3_extend_106 rfl ?_
              obtain ⟨mm, hmm, emm⟩ := exM_b hwy hk
              obtain ⟨ll, hll, ell⟩ := lmT_b (tk := upd tk k 1) hwy hrr2 n (Nat.le_refl _)
              have ela : (Y1.1 6 - 1 - (2 * S.2 2 (wf wn k) + 2) - lmT S (upd tk k 1) (X0.1 5) wn n) = nI bb - 1 - nI mm - nI ll := by rw [b6, emm, hrr, ell]
              have hla : (Y1.1 6 - 1 - (2 * S.2 2 (wf wn k) + 2) - lmT S (upd tk k 1) (X0.1 5) wn n) ≤ 720 := by rw [ela]; exact la_le hbb hmm (by omega)
              have km := c_firstMinute (d := d + 1) (h0 := h0) (q := q) (la := (Y1.1 6 - 1 - (2 * S.2 2 (wf wn k) + 2) - lmT S (upd tk k 1) (X0.1 5) wn n)) hK hF h6r hb6 (fun i hi => ruOK_8 (hru i hi) (fun j hj => by rw [hY1, x_gf_r j (by omega)]; exact (hI.1.mark).2.1 j (by omega) (by omega) (by omega) (by omega) (by omega))) hla hq
              have eB : fmF S Y1 (L 6).length (Y1.1 6 - 1 - (2 * S.2 2 (wf wn k) + 2) - lmT S (upd tk k 1) (X0.1 5) wn n) 2000 (nI q) = exB S X0 wn n (L 6).length tk (nI q) fo sk.1 k := by rw [exB, ← hI.2.2.2.1, exM, show Y1.1 6 = Xx.1 6 from by rw [hY1]; rfl, hY1]; exact fmF_congr (xE.ask hI.1.mark) _ _
              have hbd := fm_b (S := S) (X := Y1) (n := (L 6).length) hla 2000 q hq
              obtain ⟨bv, hbv⟩ : ∃ bv, bv = exB S X0 wn n (L 6).length tk (nI q) fo sk.1 k := ⟨_, rfl⟩
              rw [eB, ← hbv] at km hbd
              refine cv_X3_86 rfl 110 km dX3_extend_107 rfl (hK.book) rfl rfl (Nat.le_of_ble_eq_true rfl) (Nat.zero_le _) (Nat.zero_le _) (fun r h hp => ?_)
              obtain ⟨rfl, X2, hx2, hK, hF⟩ := hp
              rw [hY1] at hx2
              have hin2 := exI_in hI hx2
              have s3 : X2.1 3 = nI n := (hin2.1.1 3 (by decide) (by decide)).trans hsz0
              have s5 : X2.1 5 = X0.1 5 := hin2.1.1 5 (by decide) (by decide)
              refine J.ist_9 112 dX3_extend_110 rfl (by decide) ?_
              refine J.iload 114 dX3_extend_112 rfl rfl ?_
              refine J.if_lt 156 117 dX3_extend_114 (by decide) rfl (fun c5 => ?_) (fun c5 => ?_)
              · skip
                have hneg := c5
                refine J.iload 158 dX3_extend_156 rfl rfl ?_
                refine J.if_lt 185 161 dX3_extend_158 (by decide) rfl (fun c6 => ?_) (fun c6 => ?_)
                · skip
                  refine J.aload_n 186 dX3_extend_185 rfl rfl ?_
                  refine gf_X3_17 rfl 189 dX3_extend_186 rfl (hK.sea) (v := .ref (ad 16 0)) rfl ?_
                  refine J.iload 191 dX3_extend_189 rfl rfl ?_
                  refine J.iconst 0 192 dX3_extend_191 rfl (by decide) ?_
                  refine J.zast2 k q6 (Or.inl rfl) 193 dX3_extend_192 rfl hK.taken (by assumption) ?_
                  refine ks_16 hK hF (fun h hK hF => ?_)
                  refine J.iinc_6 1 196 dX3_extend_193 rfl (by decide) (by decide) ?_
                  refine J.goto 3 dX3_extend_196 (by decide) ?_
                  refine J.fg_7 ?_
                  refine J.fg_8 ?_
                  refine J.fg_9 ?_
                  exact ih (k + 1) _ (by omega) (by omega) (by rw [e6]; exact nI_1 k) _ (by rw [exL, ← hsk, if_neg (show ¬ (¬ tk k = 0 ∨ sameT tk wn k) from fun z => z.elim (fun y => y htk) hns), ← hbv, if_neg (Int32.not_le.mpr hneg)]; exact exI_out hin2 htk) _ hK hF
                · skip
                  exact absurd c5 c6
              · skip
                have hpos := Int32.not_lt.mp c5
                obtain ⟨b, eb, hb1, hb2, hb3⟩ := hbd.resolve_left (fun z => c5 (by rw [z]; decide))
                have hbm : b + mm + 1 ≤ bb := la_ge (ll := ll) hbb hmm (by omega) hb2 (by rw [← ela]; exact hb3)
                refine J.iload_n 118 dX3_extend_117 rfl rfl ?_
                refine J.aload_n 119 dX3_extend_118 rfl rfl ?_
                refine gf_X3_28 rfl 122 dX3_extend_119 rfl (hK.sea) (v := .int (X2.1 3)) rfl ?_
                refine J.iconst 1 123 dX3_extend_122 rfl (by decide) ?_
                refine J.isub 124 dX3_extend_123 rfl ?_
                refine J.icmp_ne 156 127 dX3_extend_124 (by decide) rfl (fun c7 => ?_) (fun c7 => ?_)
                · skip
                  have hf : ¬ f = 0 := fun z => c7 (by rw [s3, ← ha, z]; exact nI_m1.symm)
                  refine J.iload 158 dX3_extend_156 rfl rfl ?_
                  refine J.if_lt 185 161 dX3_extend_158 (by decide) rfl (fun c8 => ?_) (fun c8 => ?_)
                  · skip
                    exact absurd c8 c5
                  · skip
                    refine J.aload_n 162 dX3_extend_161 rfl rfl ?_
                    refine J.aload_n 163 dX3_extend_162 rfl rfl ?_
                    refine J.aload_n 164 dX3_extend_163 rfl rfl ?_
                    refine J.iload_n 165 dX3_extend_164 rfl rfl ?_
                    refine J.iconst 1 166 dX3_extend_165 rfl (by decide) ?_
                    refine J.iadd 167 dX3_extend_166 rfl ?_
                    refine J.iload 169 dX3_extend_167 rfl rfl ?_
                    refine J.iload 171 dX3_extend_169 rfl rfl ?_
                    refine J.iadd 172 dX3_extend_171 rfl ?_
                    refine J.aload_n 173 dX3_extend_172 rfl rfl ?_
                    refine gf_X3_58 rfl 176 dX3_extend_173 rfl (hK.sea) (v := .int (X2.1 5)) rfl ?_
                    refine J.iadd 177 dX3_extend_176 rfl ?_
                    refine J.iload 179 dX3_extend_177 rfl rfl ?_
                    refine J.iload 181 dX3_extend_179 rfl rfl ?_
                    refine J.iadd 182 dX3_extend_181 rfl ?_
                    have kr := ihf (upd tk k 1) (upd tr a (nI (wf wn k))) (b + mm + rr) (fo + (2 * S.2 2 (wf wn k) + 2)) sk X2 _ (by omega) hin2 hK hF
                    have eq1 : bv + (2 * S.2 2 (wf wn k) + 2) + X2.1 5 = nI (b + mm + rr) := by rw [eb, emm, s5, hrr, nI_add, nI_add]
                    rw [← nI_1 a, ← eq1] at kr
                    refine cv_X3_62 rfl 185 kr dX3_extend_182 rfl (hK.sea) rfl rfl (Nat.le_of_ble_eq_true rfl) (Nat.zero_le _) (Nat.zero_le _) (fun r h hp => ?_)
                    obtain ⟨rfl, X4, hx4, hK, hF⟩ := hp
                    refine J.aload_n 186 dX3_extend_185 rfl rfl ?_
                    refine gf_X3_17 rfl 189 dX3_extend_186 rfl (hK.sea) (v := .ref (ad 16 0)) rfl ?_
                    refine J.iload 191 dX3_extend_189 rfl rfl ?_
                    refine J.iconst 0 192 dX3_extend_191 rfl (by decide) ?_
                    refine J.zast2 k q6 (Or.inl rfl) 193 dX3_extend_192 rfl hK.taken (by assumption) ?_
                    refine ks_16 hK hF (fun h hK hF => ?_)
                    refine J.iinc_6 1 196 dX3_extend_193 rfl (by decide) (by decide) ?_
                    refine J.goto 3 dX3_extend_196 (by decide) ?_
                    refine J.fg_7 ?_
                    refine J.fg_8 ?_
                    refine J.fg_9 ?_
                    exact ih (k + 1) _ (by omega) (by omega) (by rw [e6]; exact nI_1 k) _ (by rw [exL, ← hsk, if_neg (show ¬ (¬ tk k = 0 ∨ sameT tk wn k) from fun z => z.elim (fun y => y htk) hns), ← hbv, if_pos hpos, if_neg hf, exM, ← s5, show n - (f + 1) = a by omega]; exact exI_out hx4 htk) _ hK hF
                · skip
                  have hf : f = 0 := by have z := c7; rw [s3, ← ha, show a + (f + 1) = (a + f) + 1 from rfl, nI_m1] at z; have := (nI_eq (by omega) (by omega)).mp z; omega
                  refine J.aload_n 128 dX3_extend_127 rfl rfl ?_
                  refine J.iload 130 dX3_extend_128 rfl rfl ?_
                  refine J.iload 132 dX3_extend_130 rfl rfl ?_
                  refine J.iadd 133 dX3_extend_132 rfl ?_
                  refine pf_X3_59 rfl 136 dX3_extend_133 rfl (hK.sea) (Nat.le_of_ble_eq_true rfl) ?_
                  refine ks_14_7 hK hF (fun h hK hF => ?_)
                  refine J.aload_n 137 dX3_extend_136 rfl rfl ?_
                  refine gf_X3_21 rfl 140 dX3_extend_137 rfl (hK.sea) (v := .ref (ad 15 8)) rfl ?_
                  refine J.iconst 0 141 dX3_extend_140 rfl (by decide) ?_
                  refine J.aload_n 142 dX3_extend_141 rfl rfl ?_
                  refine gf_X3_25 rfl 145 dX3_extend_142 rfl (hK.sea) (v := .ref (ad 15 9)) rfl ?_
                  refine J.iconst 0 146 dX3_extend_145 rfl (by decide) ?_
                  refine J.aload_n 147 dX3_extend_146 rfl rfl ?_
                  refine gf_X3_28 rfl 150 dX3_extend_147 rfl (hK.sea) (v := .int (X2.1 3)) rfl ?_
                  refine J.copyi 153 dX3_extend_150 rfl wm_959 hK.arr8 hK.arr9 (by decide) (by decide) (show ¬ X2.1 3 < 0 from by rw [s3]; exact nI_pos (by omega)) (show (0 : Int32).toNatClampNeg + (X2.1 3).toNatClampNeg ≤ 5 from by rw [s3, nI_clamp (by omega)]; show 0 + n ≤ 5; omega) (show (0 : Int32).toNatClampNeg + (X2.1 3).toNatClampNeg ≤ 5 from by rw [s3, nI_clamp (by omega)]; show 0 + n ≤ 5; omega) (Nat.le_of_ble_eq_true rfl) ?_
                  refine ks_9F hK hF (fun h hK hF => ?_)
                  change KR G O ad S (vf_upd X2.1 6 (bv + (2 * S.2 2 (wf wn k) + 2)), rset X2.2 6 (va_cpy (X2.2 5) (X2.2 6) 0 0 (X2.1 3).toNatClampNeg)) L wn sl fl h at hK
                  rw [show (X2.1 3).toNatClampNeg = n from by rw [s3]; exact nI_clamp (by omega), eb, emm, nI_add] at hK
                  have hx3 := exI_best2 (n := n) (bb := b + mm) hin2 (by omega) (by omega)
                  obtain ⟨X3, hX3⟩ : ∃ X3, X3 = (vf_upd X2.1 6 (nI (b + mm)), rset X2.2 6 (va_cpy (X2.2 5) (X2.2 6) 0 0 n)) := ⟨_, rfl⟩
                  rw [← hX3] at hK hx3
                  refine J.goto 185 dX3_extend_153 (by decide) ?_
                  refine J.aload_n 186 dX3_extend_185 rfl rfl ?_
                  refine gf_X3_17 rfl 189 dX3_extend_186 rfl (hK.sea) (v := .ref (ad 16 0)) rfl ?_
                  refine J.iload 191 dX3_extend_189 rfl rfl ?_
                  refine J.iconst 0 192 dX3_extend_191 rfl (by decide) ?_
                  refine J.zast2 k q6 (Or.inl rfl) 193 dX3_extend_192 rfl hK.taken (by assumption) ?_
                  refine ks_16 hK hF (fun h hK hF => ?_)
                  refine J.iinc_6 1 196 dX3_extend_193 rfl (by decide) (by decide) ?_
                  refine J.goto 3 dX3_extend_196 (by decide) ?_
                  refine J.fg_7 ?_
                  refine J.fg_8 ?_
                  refine J.fg_9 ?_
                  exact ih (k + 1) _ (by omega) (by omega) (by rw [e6]; exact nI_1 k) _ (by rw [exL, ← hsk, if_neg (show ¬ (¬ tk k = 0 ∨ sameT tk wn k) from fun z => z.elim (fun y => y htk) hns), ← hbv, if_pos hpos, if_pos hf, eb, exM, emm, nI_add, show n - (f + 1) = a by omega]; exact exI_out hx3 htk) _ hK hF
            · skip
              refine J.goto 193 dX3_extend_39 (by decide) ?_
              refine J.iinc_6 1 196 dX3_extend_193 rfl (by decide) (by decide) ?_
              refine J.goto 3 dX3_extend_196 (by decide) ?_
              exact ih (k + 1) _ (by omega) (by omega) (by rw [e6]; exact nI_1 k) _ (by rw [exL, ← hsk, if_pos (Or.inr (by have z := ib_n.mp c4; rw [← h7]; exact z))]; exact hI) _ hK hF
  exact loop3 (n + 1) 0 _ (Nat.zero_le _) (by omega) rfl X hI0 _ hK hF
