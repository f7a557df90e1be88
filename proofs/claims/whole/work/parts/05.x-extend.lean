theorem exI_best2 {X0 Y : MS} {tr : Nat → Int32} {m n bb : Nat} {st : XS} (h : exI X0 tr m st Y) (hm : m = n) (hb : bb ≤ 721) : exI X0 tr m (nI bb, va_cpy tr st.2.1 0 0 n, st.2.2) (vf_upd Y.1 6 (nI bb), rset Y.2 6 (va_cpy (Y.2 5) (Y.2 6) 0 0 n)) := by
  subst hm
  exact exI_best h hb
theorem la_le {bb mm ll : Nat} (h1 : bb ≤ 721) (h2 : mm ≤ 122) (h3 : ll ≤ 5000) : nI bb - 1 - nI mm - nI ll ≤ 720 := by
  rw [Int32.le_iff_toInt_le, la_b (by omega) (by omega) (by omega), show (720 : Int32).toInt = 720 from by decide]
  omega
theorem la_ge {b bb mm ll : Nat} (h1 : bb ≤ 721) (h2 : mm ≤ 122) (h3 : ll ≤ 5000) (hb : b ≤ 720) (h : nI b ≤ nI bb - 1 - nI mm - nI ll) : b + mm + 1 ≤ bb := by
  rw [Int32.le_iff_toInt_le, la_b (by omega) (by omega) (by omega), nI_toInt (by omega)] at h
  omega
theorem c_extZ {G : Nat → Nat} {O : Nat → Prop} {ad : Nat → Nat → Nat} {S X : MS} {L : Nat → List Nat} {wn : Nat → Option Nat} {sl : Nat → Nat} {fl : Nat} {h h0 : AH} {d : Nat} {X0 : MS} {tr : Nat → Int32} {st : XS} {a f n q rr T : Nat} {fo : Int32} (hK : KR G O ad S X L wn sl fl h) (hF : KF O h0 h) (hn5 : n ≤ 5) (hsz0 : X0.1 3 = nI n) (ha : a = n) (hI0 : exI X0 tr a st X) : Ct Y_X3_extend (d + 6) G 0 0 [.ref (ad 14 0), .ref (ad 12 0), .ref (ad 10 0), .int (nI a), .int (nI T), .int (nI q), .int fo] h (fun r h2 => r = none ∧ ∃ Y, exI X0 tr a (exG S X0 wn n (L 6).length 0 T tr (nI q) fo st) Y ∧ KR G O ad S Y L wn sl fl h2 ∧ KF O h0 h2) := by
  refine Ct.ofn 5 rfl (Nat.le_of_ble_eq_true rfl) (by simp [Value.category]) ?_
  generalize hpost : (fun (r : Option Value) (h2 : AH) => r = none ∧ ∃ Y, exI X0 tr a (exG S X0 wn n (L 6).length 0 T tr (nI q) fo st) Y ∧ KR G O ad S Y L wn sl fl h2 ∧ KF O h0 h2) = post
  show J Y_X3_extend (d + 6) G 0 0 0 [some (.ref (ad 14 0)), some (.ref (ad 12 0)), some (.ref (ad 10 0)), some (.int (nI a)), some (.int (nI T)), some (.int (nI q)), some (.int fo), none, none, none, none, none] [] h post
  have hszY : X.1 3 = nI n := (hI0.1.1 3 (by decide) (by decide)).trans hsz0
  refine J.iload_n 1 dX3_extend_0 rfl rfl ?_
  refine J.aload_n 2 dX3_extend_1 rfl rfl ?_
  refine gf_X3_27 rfl 5 dX3_extend_2 rfl (hK.sea) (v := .int (X.1 3)) rfl ?_
  refine J.icmp_ge 30 8 dX3_extend_5 (by decide) rfl (fun c1 => ?_) (fun c1 => ?_)
  · skip
    exact J.vret dX3_extend_30 rfl (by rw [← hpost]; exact ⟨rfl, X, hI0, hK, hF⟩)
  · skip
    exact absurd (show X.1 3 ≤ nI a by rw [hszY, ha]; exact Int32.le_refl _) c1
theorem c_extS {G : Nat → Nat} {O : Nat → Prop} {ad : Nat → Nat → Nat} {S X : MS} {L : Nat → List Nat} {wn : Nat → Option Nat} {sl : Nat → Nat} {fl : Nat} {h h0 : AH} {d : Nat} {X0 : MS} {tr : Nat → Int32} {st : XS} {a f n q rr T : Nat} {fo : Int32} (hK : KR G O ad S X L wn sl fl h) (hF : KF O h0 h) (hn5 : n ≤ 5) (hsz0 : X0.1 3 = nI n) (hwn : ∀ i, i < n → wn i = some (wf wn i) ∧ wf wn i < (L 0).length) (hb0 : (L 0).length ≤ 12) (h6r : L 6 = List.range (L 6).length) (hb6 : (L 6).length ≤ 10) (hru : ∀ i, i < (L 6).length → ruOK X0 sl i) (hwy : wyOK S wn n) (hrr : X0.1 5 = nI rr) (hrr2 : rr ≤ 120) (ha : a + (f + 1) = n) (hT : T < 32) (hq : q ≤ 1500) (hI0 : exI X0 tr a st X) (ihf : ∀ (T : Nat) (tr : Nat → Int32) (q : Nat) (fo : Int32) (st : XS) (X : MS) (h : AH), T < 32 → q ≤ 1500 → exI X0 tr (a + 1) st X → KR G O ad S X L wn sl fl h → KF O h0 h → Ct Y_X3_extend (d + 5) G 0 0 [.ref (ad 14 0), .ref (ad 12 0), .ref (ad 10 0), .int (nI (a + 1)), .int (nI T), .int (nI q), .int fo] h (fun r h2 => r = none ∧ ∃ Y, exI X0 tr (a + 1) (exG S X0 wn n (L 6).length f T tr (nI q) fo st) Y ∧ KR G O ad S Y L wn sl fl h2 ∧ KF O h0 h2)) : Ct Y_X3_extend (d + 6) G 0 0 [.ref (ad 14 0), .ref (ad 12 0), .ref (ad 10 0), .int (nI a), .int (nI T), .int (nI q), .int fo] h (fun r h2 => r = none ∧ ∃ Y, exI X0 tr a (exG S X0 wn n (L 6).length (f + 1) T tr (nI q) fo st) Y ∧ KR G O ad S Y L wn sl fl h2 ∧ KF O h0 h2) := by
  refine Ct.ofn 5 rfl (Nat.le_of_ble_eq_true rfl) (by simp [Value.category]) ?_
  generalize hpost : (fun (r : Option Value) (h2 : AH) => r = none ∧ ∃ Y, exI X0 tr a (exG S X0 wn n (L 6).length (f + 1) T tr (nI q) fo st) Y ∧ KR G O ad S Y L wn sl fl h2 ∧ KF O h0 h2) = post
  show J Y_X3_extend (d + 6) G 0 0 0 [some (.ref (ad 14 0)), some (.ref (ad 12 0)), some (.ref (ad 10 0)), some (.int (nI a)), some (.int (nI T)), some (.int (nI q)), some (.int fo), none, none, none, none, none] [] h post
  have qa : (nI a).toNatClampNeg = a := nI_clamp (by omega)
  have na : vp_in (nI a) 5 := vp_in_nI (by omega) (by decide)
  have qT : (nI T).toNatClampNeg = T := nI_clamp (by omega)
  have nT : vp_in (nI T) 32 := vp_in_nI (by omega) (by decide)
  have hszX : X.1 3 = nI n := (hI0.1.1 3 (by decide) (by decide)).trans hsz0
  have h7 : X.2 7 = st.2.2 := hI0.2.2.2.2.1
  refine J.iload_n 1 dX3_extend_0 rfl rfl ?_
  refine J.aload_n 2 dX3_extend_1 rfl rfl ?_
  refine gf_X3_27 rfl 5 dX3_extend_2 rfl (hK.sea) (v := .int (X.1 3)) rfl ?_
  refine J.icmp_ge 30 8 dX3_extend_5 (by decide) rfl (fun c1 => ?_) (fun c1 => ?_)
  · skip
    exact absurd (show n ≤ a from by have z := c1; rw [hszX] at z; exact (nI_leI (by omega) (by omega)).mp z) (by omega)
  · skip
    refine J.iload 10 dX3_extend_8 rfl rfl ?_
    refine J.aload_n 11 dX3_extend_10 rfl rfl ?_
    refine gf_X3_24 rfl 14 dX3_extend_11 rfl (hK.sea) (v := .ref (ad 16 0)) rfl ?_
    refine J.alen 15 dX3_extend_14 rfl hK.taken ?_
    show J _ _ _ _ _ _ _ (.int 32 :: _) _ _
    refine J.icmp_ge 30 18 dX3_extend_15 (by decide) rfl (fun c2 => ?_) (fun c2 => ?_)
    · skip
      exact absurd ((nI_leI (a := 32) (by decide) (by omega)).mp c2) (by omega)
    · skip
      refine J.iload 20 dX3_extend_18 rfl rfl ?_
      refine J.aload_n 21 dX3_extend_20 rfl rfl ?_
      refine gf_X3_24 rfl 24 dX3_extend_21 rfl (hK.sea) (v := .ref (ad 16 0)) rfl ?_
      refine J.iload 26 dX3_extend_24 rfl rfl ?_
      refine J.iald2 T qT (x := X.2 7 T) rfl 27 dX3_extend_26 rfl hK.taken nT ?_
      refine J.icmp_lt 31 30 dX3_extend_27 (by decide) rfl (fun c3 => ?_) (fun c3 => ?_)
      · skip
        have hlt : ¬ st.2.2 T ≤ nI q := by rw [← h7]; exact Int32.not_le.mpr c3
        refine J.aload_n 32 dX3_extend_31 rfl rfl ?_
        refine gf_X3_24 rfl 35 dX3_extend_32 rfl (hK.sea) (v := .ref (ad 16 0)) rfl ?_
        refine J.iload 37 dX3_extend_35 rfl rfl ?_
        refine J.iload 39 dX3_extend_37 rfl rfl ?_
        refine J.iast2 T qT 40 dX3_extend_39 rfl hK.taken nT ?_
        refine ks_16 hK hF (fun h hK hF => ?_)
        refine J.iconst 0 41 dX3_extend_40 rfl (by decide) ?_
        refine J.ist_7 43 dX3_extend_41 rfl (by decide) ?_
        have loop43 : ∀ (j k : Nat) (x7 : Int32), k ≤ n → n + 1 ≤ k + j → x7 = nI k → ∀ Xx : MS, (exI X0 tr a (exL (fun i s => if 0 ≤ exB S X0 wn n (L 6).length (tkf T) (nI q) fo s.1 i then (if f = 0 then (exB S X0 wn n (L 6).length (tkf T) (nI q) fo s.1 i + exM S wn i, va_cpy (upd tr (n - (f + 1)) (nI (wf wn i))) s.2.1 0 0 n, s.2.2) else exG S X0 wn n (L 6).length f (tkS T i) (upd tr (n - (f + 1)) (nI (wf wn i))) (exB S X0 wn n (L 6).length (tkf T) (nI q) fo s.1 i + exM S wn i + X0.1 5) (fo + exM S wn i) s) else s) (fun i => ¬ tkf T i = 0 ∨ sameT (tkf T) wn i) (st.1, st.2.1, upd st.2.2 T (nI q)) k) Xx) → ∀ h, KR G O ad S Xx L wn sl fl h → KF O h0 h → J Y_X3_extend (d + 6) G 0 0 43 [some (.ref (ad 14 0)), some (.ref (ad 12 0)), some (.ref (ad 10 0)), some (.int (nI a)), some (.int (nI T)), some (.int (nI q)), some (.int fo), some (.int x7), none, none, none, none] [] h post := by
          intro j
          induction j with
          | zero => intro k _ g1 g2; exact absurd g2 (by omega)
          | succ j ih =>
            intro k x7 g1 g2 e7 Xx hI h hK hF
            have q7 : x7.toNatClampNeg = k := by rw [e7]; exact nI_clamp (by omega)
            have hszY : Xx.1 3 = nI n := (hI.1.1 3 (by decide) (by decide)).trans hsz0
            refine J.iload 45 dX3_extend_43 rfl rfl ?_
            refine J.aload_n 46 dX3_extend_45 rfl rfl ?_
            refine gf_X3_27 rfl 49 dX3_extend_46 rfl (hK.sea) (v := .int (Xx.1 3)) rfl ?_
            refine J.icmp_ge 230 52 dX3_extend_49 (by decide) rfl (fun c4 => ?_) (fun c4 => ?_)
            · skip
              have hk : k = n := Nat.le_antisymm g1 ((nI_leI (by omega) (by omega)).mp (by have z := c4; rw [e7, hszY] at z; exact z))
              exact J.vret dX3_extend_230 rfl (by rw [← hpost]; exact ⟨rfl, Xx, by rw [exG, if_neg hlt]; rw [hk] at hI; exact hI, hK, hF⟩)
            · skip
              have hk : k < n := Nat.lt_of_not_le (fun y => c4 (by rw [e7, hszY]; exact nI_le y (by omega)))
              have hin : vp_in x7 5 := by rw [e7]; exact vp_in_nI (by omega) (by decide)
              obtain ⟨sk, hsk⟩ : ∃ sk, sk = (exL (fun i s => if 0 ≤ exB S X0 wn n (L 6).length (tkf T) (nI q) fo s.1 i then (if f = 0 then (exB S X0 wn n (L 6).length (tkf T) (nI q) fo s.1 i + exM S wn i, va_cpy (upd tr (n - (f + 1)) (nI (wf wn i))) s.2.1 0 0 n, s.2.2) else exG S X0 wn n (L 6).length f (tkS T i) (upd tr (n - (f + 1)) (nI (wf wn i))) (exB S X0 wn n (L 6).length (tkf T) (nI q) fo s.1 i + exM S wn i + X0.1 5) (fo + exM S wn i) s) else s) (fun i => ¬ tkf T i = 0 ∨ sameT (tkf T) wn i) (st.1, st.2.1, upd st.2.2 T (nI q)) k) := ⟨_, rfl⟩
              rw [← hsk] at hI
              obtain ⟨bb, hbb, ebb⟩ := hI.2.2.2.2.2
              have h6 : Xx.1 6 = nI bb := hI.2.2.1.trans ebb
              refine J.iload 54 dX3_extend_52 rfl rfl ?_
              refine J.iload 56 dX3_extend_54 rfl rfl ?_
              have kt := c_isTaken (d := d + 5) (T := T) (i := k) hK hT (by omega)
              rw [← e7] at kt
              refine cs_X3_68 rfl 59 kt dX3_extend_56 rfl rfl rfl (Nat.le_of_ble_eq_true rfl) (Nat.zero_le _) (Nat.zero_le _) (fun r h2 hp => ?_)
              obtain ⟨rfl, rfl⟩ := hp
              refine J.if_ne 224 62 dX3_extend_59 (by decide) rfl (fun c5 => ?_) (fun c5 => ?_)
              · skip
                refine J.iinc_7 1 227 dX3_extend_224 rfl (by decide) (by decide) ?_
                refine J.goto 43 dX3_extend_227 (by decide) ?_
                exact ih (k + 1) _ (by omega) (by omega) (by rw [e7]; exact nI_1 k) _ (by rw [exL, ← hsk, if_pos (Or.inl (ib_n.mp c5))]; exact hI) _ hK hF
              · skip
                have htk : tkf T k = 0 := Classical.byContradiction (ib_0.mp c5)
                refine J.aload_n 63 dX3_extend_62 rfl rfl ?_
                refine J.iload 65 dX3_extend_63 rfl rfl ?_
                refine J.iload 67 dX3_extend_65 rfl rfl ?_
                have kq := c_same (d := d + 4) (T := T) (i := k) hK hszY hn5 hwn hk hb0 hT
                rw [← e7] at kq
                refine cv_X3_72 rfl 70 kq dX3_extend_67 rfl (hK.sea) rfl rfl (Nat.le_of_ble_eq_true rfl) (Nat.zero_le _) (Nat.zero_le _) (fun r h2 hp => ?_)
                obtain ⟨rfl, rfl⟩ := hp
                refine J.if_eq 76 73 dX3_extend_70 (by decide) rfl (fun c6 => ?_) (fun c6 => ?_)
                · skip
                  have hns : ¬ sameT (tkf T) wn k := ib_0.mp c6
                  refine J.aload_n 77 dX3_extend_76 rfl rfl ?_
                  refine gf_X3_11 rfl 80 dX3_extend_77 rfl (hK.sea) (v := .ref (ad 17 0)) rfl ?_
                  refine J.iload 82 dX3_extend_80 rfl rfl ?_
                  refine J.aald2 k q7 (v := ad 3 (wf wn k)) (show (wn k).map (ad 3) = _ from by rw [(hwn k hk).1]; rfl) 83 dX3_extend_82 rfl hK.wanted (by assumption) ?_
                  refine J.ast_8 85 dX3_extend_83 rfl (by decide) ?_
                  refine J.aload 87 dX3_extend_85 rfl rfl ?_
                  refine cv_X3_37 rfl 90 (c_there (p := wf wn k) hK (hwn k hk).2) dX3_extend_87 rfl (hK.place (hwn k hk).2) rfl rfl (Nat.le_of_ble_eq_true rfl) (Nat.zero_le _) (Nat.zero_le _) (fun r h2 hp => ?_)
                  obtain ⟨rfl, rfl⟩ := hp
                  refine J.ist_9 92 dX3_extend_90 rfl (by decide) ?_
                  refine J.iload 94 dX3_extend_92 rfl rfl ?_
                  refine J.iconst 1 95 dX3_extend_94 rfl (by decide) ?_
                  refine J.iload 97 dX3_extend_95 rfl rfl ?_
                  refine J.ishl 98 dX3_extend_97 rfl ?_
                  refine J.ior 99 dX3_extend_98 rfl ?_
                  rw [show nI T ||| ((1 : Int32) <<< (x7 &&& 31)) = nI (tkS T k) from by rw [e7]; exact (tk_or hT (by omega)).1]
                  refine J.ist_10 101 dX3_extend_99 rfl (by decide) ?_
                  refine J.aload_n 102 dX3_extend_101 rfl rfl ?_
                  refine gf_X3_17 rfl 105 dX3_extend_102 rfl (hK.sea) (v := .ref (ad 15 8)) rfl ?_
                  refine J.iload_n 106 dX3_extend_105 rfl rfl ?_
                  refine J.aload 108 dX3_extend_106 rfl rfl ?_
                  refine gf_X3_31 rfl 111 dX3_extend_108 rfl (hK.place (hwn k hk).2) (v := .int (nI (wf wn k))) rfl ?_
                  refine J.iast2 a qa 112 dX3_extend_111 rfl hK.arr8 na ?_
                  refine ks_15_8 hK hF (fun h hK hF => ?_)
                  refine J.aload_n 113 dX3_extend_112 rfl rfl ?_
                  refine J.aload 115 dX3_extend_113 rfl rfl ?_
                  refine cv_X3_75 rfl 118 (c_setGoal (h0 := h0) (p := wf wn k) hK hF (hwn k hk).2) dX3_extend_115 rfl (hK.book) rfl rfl (Nat.le_of_ble_eq_true rfl) (Nat.zero_le _) (Nat.zero_le _) (fun r h hp => ?_)
                  obtain ⟨rfl, hK, hF⟩ := hp
                  refine J.aload_n 119 dX3_extend_118 rfl rfl ?_
                  refine J.iload 121 dX3_extend_119 rfl rfl ?_
                  refine cv_X3_81 rfl 124 (c_setFlown (h0 := h0) (f := fo) hK hF) dX3_extend_121 rfl (hK.book) rfl rfl (Nat.le_of_ble_eq_true rfl) (Nat.zero_le _) (Nat.zero_le _) (fun r h hp => ?_)
                  obtain ⟨rfl, hK, hF⟩ := hp
                  obtain ⟨Y1, hY1⟩ : ∃ Y1, Y1 = x_flown (x_goal S (Xx.1, u2 Xx.2 5 a (nI (wf wn k))) (wf wn k)) fo := ⟨_, rfl⟩
                  change KR G O ad S (x_flown (x_goal S (Xx.1, u2 Xx.2 5 a (nI (wf wn k))) (wf wn k)) fo) L wn sl fl h at hK
                  rw [← hY1] at hK
                  have b6 : Y1.1 6 = nI bb := by rw [hY1]; exact h6
                  have b3 : Y1.1 3 = nI n := by rw [hY1]; exact hszY
                  have b5 : Y1.1 5 = X0.1 5 := by rw [hY1]; exact hI.1.1 5 (by decide) (by decide)
                  refine J.aload_n 125 dX3_extend_124 rfl rfl ?_
                  refine J.aload_n 126 dX3_extend_125 rfl rfl ?_
                  refine J.iload 128 dX3_extend_126 rfl rfl ?_
                  refine J.aload_n 129 dX3_extend_128 rfl rfl ?_
                  refine gf_X3_58 rfl 132 dX3_extend_129 rfl (hK.sea) (v := .int (Y1.1 6)) rfl ?_
                  refine J.iconst 1 133 dX3_extend_132 rfl (by decide) ?_
                  refine J.isub 134 dX3_extend_133 rfl ?_
                  refine J.iload 136 dX3_extend_134 rfl rfl ?_
                  refine J.isub 137 dX3_extend_136 rfl ?_
                  refine J.aload_n 138 dX3_extend_137 rfl rfl ?_
                  refine J.iload 140 dX3_extend_138 rfl rfl ?_
                  have kl := c_left (d := d + 4) (T := tkS T k) (n := n) hK b3 hn5 hwn (tk_or hT (by omega)).2
                  rw [tkf_or, b5] at kl
                  refine cv_X3_85 rfl 143 kl dX3_extend_140 rfl (hK.sea) rfl rfl (Nat.le_of_ble_eq_true rfl) (Nat.zero_le _) (Nat.zero_le _) (fun r h2 hp => ?_)
                  obtain ⟨rfl, rfl⟩ := hp
                  refine J.isub 144 dX3_extend_143 rfl ?_
                  obtain ⟨mm, hmm, emm⟩ := exM_b hwy hk
                  obtain ⟨ll, hll, ell⟩ := lmT_b (tk := upd (tkf T) k 1) hwy hrr2 n (Nat.le_refl _)
                  have ela : (Y1.1 6 - 1 - (2 * S.2 2 (wf wn k) + 2) - lmT S (upd (tkf T) k 1) (X0.1 5) wn n) = nI bb - 1 - nI mm - nI ll := by rw [b6, emm, hrr, ell]
                  have hla : (Y1.1 6 - 1 - (2 * S.2 2 (wf wn k) + 2) - lmT S (upd (tkf T) k 1) (X0.1 5) wn n) ≤ 720 := by rw [ela]; exact la_le hbb hmm (by omega)
                  have km := c_firstMinute (d := d + 1) (h0 := h0) (q := q) (la := (Y1.1 6 - 1 - (2 * S.2 2 (wf wn k) + 2) - lmT S (upd (tkf T) k 1) (X0.1 5) wn n)) hK hF h6r hb6 (fun i hi => ruOK_8 (hru i hi) (fun j hj => by rw [hY1, x_gf_r j (by omega)]; exact (hI.1.mark).2.1 j (by omega) (by omega) (by omega) (by omega) (by omega))) hla hq
                  have eB : fmF S Y1 (L 6).length (Y1.1 6 - 1 - (2 * S.2 2 (wf wn k) + 2) - lmT S (upd (tkf T) k 1) (X0.1 5) wn n) 2000 (-1) (nI q) = exB S X0 wn n (L 6).length (tkf T) (nI q) fo sk.1 k := by rw [exB, ← hI.2.2.1, exM, show Y1.1 6 = Xx.1 6 from by rw [hY1]; rfl, hY1]; exact fmF_congr (xE.ask hI.1.mark) _ _ _
                  have hbd := fm_b (S := S) (X := Y1) (n := (L 6).length) hla 2000 (-1) q hq
                  obtain ⟨bv, hbv⟩ : ∃ bv, bv = exB S X0 wn n (L 6).length (tkf T) (nI q) fo sk.1 k := ⟨_, rfl⟩
                  rw [eB, ← hbv] at km hbd
                  refine cv_X3_89 rfl 147 km dX3_extend_144 rfl (hK.book) rfl rfl (Nat.le_of_ble_eq_true rfl) (Nat.zero_le _) (Nat.zero_le _) (fun r h hp => ?_)
                  obtain ⟨rfl, X2, hx2, hK, hF⟩ := hp
                  rw [hY1] at hx2
                  have hin2 := exI_in hI hx2
                  have s3 : X2.1 3 = nI n := (hin2.1.1 3 (by decide) (by decide)).trans hsz0
                  have s5 : X2.1 5 = X0.1 5 := hin2.1.1 5 (by decide) (by decide)
                  refine J.ist_11 149 dX3_extend_147 rfl (by decide) ?_
                  refine J.iload 151 dX3_extend_149 rfl rfl ?_
                  refine J.if_lt 193 154 dX3_extend_151 (by decide) rfl (fun c7 => ?_) (fun c7 => ?_)
                  · skip
                    have hneg := c7
                    refine J.iload 195 dX3_extend_193 rfl rfl ?_
                    refine J.if_lt 224 198 dX3_extend_195 (by decide) rfl (fun c8 => ?_) (fun c8 => ?_)
                    · skip
                      refine J.iinc_7 1 227 dX3_extend_224 rfl (by decide) (by decide) ?_
                      refine J.goto 43 dX3_extend_227 (by decide) ?_
                      refine J.fg_8 ?_
                      refine J.fg_9 ?_
                      refine J.fg_10 ?_
                      refine J.fg_11 ?_
                      exact ih (k + 1) _ (by omega) (by omega) (by rw [e7]; exact nI_1 k) _ (by rw [exL, ← hsk, if_neg (show ¬ (¬ tkf T k = 0 ∨ sameT (tkf T) wn k) from fun z => z.elim (fun y => y htk) hns), ← hbv, if_neg (Int32.not_le.mpr hneg)]; exact exI_out hin2) _ hK hF
                    · skip
                      exact absurd c7 c8
                  · skip
                    have hpos := Int32.not_lt.mp c7
                    obtain ⟨b, eb, hb1, hb2, hb3⟩ := hbd.resolve_left (fun z => c7 (by rw [z]; decide))
                    have hbm : b + mm + 1 ≤ bb := la_ge (ll := ll) hbb hmm (by omega) hb2 (by rw [← ela]; exact hb3)
                    refine J.iload_n 155 dX3_extend_154 rfl rfl ?_
                    refine J.aload_n 156 dX3_extend_155 rfl rfl ?_
                    refine gf_X3_27 rfl 159 dX3_extend_156 rfl (hK.sea) (v := .int (X2.1 3)) rfl ?_
                    refine J.iconst 1 160 dX3_extend_159 rfl (by decide) ?_
                    refine J.isub 161 dX3_extend_160 rfl ?_
                    refine J.icmp_ne 193 164 dX3_extend_161 (by decide) rfl (fun c9 => ?_) (fun c9 => ?_)
                    · skip
                      have hf : ¬ f = 0 := fun z => c9 (by rw [s3, ← ha, z]; exact nI_m1.symm)
                      refine J.iload 195 dX3_extend_193 rfl rfl ?_
                      refine J.if_lt 224 198 dX3_extend_195 (by decide) rfl (fun c10 => ?_) (fun c10 => ?_)
                      · skip
                        exact absurd c10 c7
                      · skip
                        refine J.aload_n 199 dX3_extend_198 rfl rfl ?_
                        refine J.aload_n 200 dX3_extend_199 rfl rfl ?_
                        refine J.aload_n 201 dX3_extend_200 rfl rfl ?_
                        refine J.iload_n 202 dX3_extend_201 rfl rfl ?_
                        refine J.iconst 1 203 dX3_extend_202 rfl (by decide) ?_
                        refine J.iadd 204 dX3_extend_203 rfl ?_
                        refine J.iload 206 dX3_extend_204 rfl rfl ?_
                        refine J.iload 208 dX3_extend_206 rfl rfl ?_
                        refine J.iload 210 dX3_extend_208 rfl rfl ?_
                        refine J.iadd 211 dX3_extend_210 rfl ?_
                        refine J.aload_n 212 dX3_extend_211 rfl rfl ?_
                        refine gf_X3_57 rfl 215 dX3_extend_212 rfl (hK.sea) (v := .int (X2.1 5)) rfl ?_
                        refine J.iadd 216 dX3_extend_215 rfl ?_
                        refine J.iload 218 dX3_extend_216 rfl rfl ?_
                        refine J.iload 220 dX3_extend_218 rfl rfl ?_
                        refine J.iadd 221 dX3_extend_220 rfl ?_
                        have kr := ihf (tkS T k) (upd tr a (nI (wf wn k))) (b + mm + rr) (fo + (2 * S.2 2 (wf wn k) + 2)) sk X2 _ (tk_or hT (by omega)).2 (by omega) hin2 hK hF
                        have eq1 : bv + (2 * S.2 2 (wf wn k) + 2) + X2.1 5 = nI (b + mm + rr) := by rw [eb, emm, s5, hrr, nI_add, nI_add]
                        rw [← nI_1 a, ← eq1] at kr
                        refine cv_X3_61 rfl 224 kr dX3_extend_221 rfl (hK.sea) rfl rfl (Nat.le_of_ble_eq_true rfl) (Nat.zero_le _) (Nat.zero_le _) (fun r h hp => ?_)
                        obtain ⟨rfl, X4, hx4, hK, hF⟩ := hp
                        refine J.iinc_7 1 227 dX3_extend_224 rfl (by decide) (by decide) ?_
                        refine J.goto 43 dX3_extend_227 (by decide) ?_
                        refine J.fg_8 ?_
                        refine J.fg_9 ?_
                        refine J.fg_10 ?_
                        refine J.fg_11 ?_
                        exact ih (k + 1) _ (by omega) (by omega) (by rw [e7]; exact nI_1 k) _ (by rw [exL, ← hsk, if_neg (show ¬ (¬ tkf T k = 0 ∨ sameT (tkf T) wn k) from fun z => z.elim (fun y => y htk) hns), ← hbv, if_pos hpos, if_neg hf, exM, ← s5, show n - (f + 1) = a by omega]; exact exI_out hx4) _ hK hF
                    · skip
                      have hf : f = 0 := by have z := c9; rw [s3, ← ha, show a + (f + 1) = (a + f) + 1 from rfl, nI_m1] at z; have := (nI_eq (by omega) (by omega)).mp z; omega
                      refine J.aload_n 165 dX3_extend_164 rfl rfl ?_
                      refine J.iload 167 dX3_extend_165 rfl rfl ?_
                      refine J.iload 169 dX3_extend_167 rfl rfl ?_
                      refine J.iadd 170 dX3_extend_169 rfl ?_
                      refine pf_X3_58 rfl 173 dX3_extend_170 rfl (hK.sea) (Nat.le_of_ble_eq_true rfl) ?_
                      refine ks_14_7 hK hF (fun h hK hF => ?_)
                      refine J.aload_n 174 dX3_extend_173 rfl rfl ?_
                      refine gf_X3_17 rfl 177 dX3_extend_174 rfl (hK.sea) (v := .ref (ad 15 8)) rfl ?_
                      refine J.iconst 0 178 dX3_extend_177 rfl (by decide) ?_
                      refine J.aload_n 179 dX3_extend_178 rfl rfl ?_
                      refine gf_X3_21 rfl 182 dX3_extend_179 rfl (hK.sea) (v := .ref (ad 15 9)) rfl ?_
                      refine J.iconst 0 183 dX3_extend_182 rfl (by decide) ?_
                      refine J.aload_n 184 dX3_extend_183 rfl rfl ?_
                      refine gf_X3_27 rfl 187 dX3_extend_184 rfl (hK.sea) (v := .int (X2.1 3)) rfl ?_
                      refine J.copyi 190 dX3_extend_187 rfl wm_961 hK.arr8 hK.arr9 (by decide) (by decide) (show ¬ X2.1 3 < 0 from by rw [s3]; exact nI_pos (by omega)) (show (0 : Int32).toNatClampNeg + (X2.1 3).toNatClampNeg ≤ 5 from by rw [s3, nI_clamp (by omega)]; show 0 + n ≤ 5; omega) (show (0 : Int32).toNatClampNeg + (X2.1 3).toNatClampNeg ≤ 5 from by rw [s3, nI_clamp (by omega)]; show 0 + n ≤ 5; omega) (Nat.le_of_ble_eq_true rfl) ?_
                      refine ks_9F hK hF (fun h hK hF => ?_)
                      change KR G O ad S (vf_upd X2.1 6 (bv + (2 * S.2 2 (wf wn k) + 2)), rset X2.2 6 (va_cpy (X2.2 5) (X2.2 6) 0 0 (X2.1 3).toNatClampNeg)) L wn sl fl h at hK
                      rw [show (X2.1 3).toNatClampNeg = n from by rw [s3]; exact nI_clamp (by omega), eb, emm, nI_add] at hK
                      have hx3 := exI_best2 (n := n) (bb := b + mm) hin2 (by omega) (by omega)
                      obtain ⟨X3, hX3⟩ : ∃ X3, X3 = (vf_upd X2.1 6 (nI (b + mm)), rset X2.2 6 (va_cpy (X2.2 5) (X2.2 6) 0 0 n)) := ⟨_, rfl⟩
                      rw [← hX3] at hK hx3
                      refine J.goto 224 dX3_extend_190 (by decide) ?_
                      refine J.iinc_7 1 227 dX3_extend_224 rfl (by decide) (by decide) ?_
                      refine J.goto 43 dX3_extend_227 (by decide) ?_
                      refine J.fg_8 ?_
                      refine J.fg_9 ?_
                      refine J.fg_10 ?_
                      refine J.fg_11 ?_
                      exact ih (k + 1) _ (by omega) (by omega) (by rw [e7]; exact nI_1 k) _ (by rw [exL, ← hsk, if_neg (show ¬ (¬ tkf T k = 0 ∨ sameT (tkf T) wn k) from fun z => z.elim (fun y => y htk) hns), ← hbv, if_pos hpos, if_pos hf, eb, exM, emm, nI_add, show n - (f + 1) = a by omega]; exact exI_out hx3) _ hK hF
                · skip
                  refine J.goto 224 dX3_extend_73 (by decide) ?_
                  refine J.iinc_7 1 227 dX3_extend_224 rfl (by decide) (by decide) ?_
                  refine J.goto 43 dX3_extend_227 (by decide) ?_
                  exact ih (k + 1) _ (by omega) (by omega) (by rw [e7]; exact nI_1 k) _ (by rw [exL, ← hsk, if_pos (Or.inr (ib_n.mp c6))]; exact hI) _ hK hF
        exact loop43 (n + 1) 0 _ (Nat.zero_le _) (by omega) rfl (X.1, u2 X.2 7 T (nI q)) (exI_mark hI0) _ hK hF
      · skip
        have hlt : st.2.2 T ≤ nI q := by rw [← h7]; exact Int32.not_lt.mp c3
        exact J.vret dX3_extend_30 rfl (by rw [← hpost]; exact ⟨rfl, X, by rw [exG, if_pos hlt]; exact hI0, hK, hF⟩)
