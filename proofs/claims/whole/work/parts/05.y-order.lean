theorem c_extF {G : Nat → Nat} {O : Nat → Prop} {ad : Nat → Nat → Nat} {S : MS} {L : Nat → List Nat} {wn : Nat → Option Nat} {sl : Nat → Nat} {fl : Nat} {h0 : AH} {d : Nat} {X0 : MS} {n rr : Nat} (hn5 : n ≤ 5) (hsz0 : X0.1 3 = nI n) (hwn : ∀ i, i < n → wn i = some (wf wn i) ∧ wf wn i < (L 0).length) (hb0 : (L 0).length ≤ 12) (h6r : L 6 = List.range (L 6).length) (hb6 : (L 6).length ≤ 10) (hru : ∀ i, i < (L 6).length → ruOK X0 sl i) (hwy : wyOK S wn n) (hrr : X0.1 5 = nI rr) (hrr2 : rr ≤ 120) : ∀ (f a T : Nat) (tr : Nat → Int32) (q : Nat) (fo : Int32) (st : XS) (X : MS) (h : AH), a + f = n → T < 32 → q ≤ 1500 → exI X0 tr a st X → KR G O ad S X L wn sl fl h → KF O h0 h → Ct Y_X3_extend (d + f + 6) G 0 0 [.ref (ad 14 0), .ref (ad 12 0), .ref (ad 10 0), .int (nI a), .int (nI T), .int (nI q), .int fo] h (fun r h2 => r = none ∧ ∃ Y, exI X0 tr a (exG S X0 wn n (L 6).length f T tr (nI q) fo st) Y ∧ KR G O ad S Y L wn sl fl h2 ∧ KF O h0 h2) := by
  intro f
  induction f with
  | zero =>
    intro a T tr q fo st X h ha hT hq hI hK hF
    exact c_extZ (f := 0) (rr := 0) hK hF hn5 hsz0 ha hI
  | succ f ih =>
    intro a T tr q fo st X h ha hT hq hI hK hF
    exact c_extS (d := d + f + 1) hK hF hn5 hsz0 hwn hb0 h6r hb6 hru hwy hrr hrr2 ha hT hq hI (fun T tr q fo st X h h0 h1 h2 h3 h4 => ih (a + 1) T tr q fo st X h (by omega) h0 h1 h2 h3 h4)
def x_ord (S X : MS) (y : Nat) : MS := (vf_upd (vf_upd X.1 5 (S.2 13 y)) 6 721, X.2)
def a_ex (S X : MS) (L : Nat → List Nat) (wn : Nat → Option Nat) (n y : Nat) (q : Int32) : XS := exG S (x_ord S X y) wn n (L 6).length n 0 (X.2 5) q (S.2 14 y) (721, X.2 6, fil (X.2 7) 32)
theorem c_find {G : Nat → Nat} {O : Nat → Prop} {ad : Nat → Nat → Nat} {S X : MS} {L : Nat → List Nat} {wn : Nat → Option Nat} {sl : Nat → Nat} {fl : Nat} {h h0 : AH} {d : Nat} {n q rr y : Nat} (hK : KR G O ad S X L wn sl fl h) (hF : KF O h0 h) (hsz : X.1 3 = nI n) (hn5 : n ≤ 5) (hwn : ∀ i, i < n → wn i = some (wf wn i) ∧ wf wn i < (L 0).length) (hb0 : (L 0).length ≤ 12) (h6r : L 6 = List.range (L 6).length) (hb6 : (L 6).length ≤ 10) (hru : ∀ i, i < (L 6).length → ruOK X sl i) (hwy : wyOK S wn n) (hrr : S.2 13 y = nI rr) (hrr2 : rr ≤ 120) (hy : y < (L 2).length) (hq : q ≤ 1500) : Ct Y_X3_findOrder (d + 12) G 0 0 [.ref (ad 14 0), .ref (ad 12 0), .ref (ad 10 0), .ref (ad 5 y), .int (nI q)] h (fun r h2 => r = some (.int (ib ((a_ex S X L wn n y (nI q)).1 ≤ 720))) ∧ ∃ Y, exI (x_ord S X y) (X.2 5) 0 (a_ex S X L wn n y (nI q)) Y ∧ (((a_ex S X L wn n y (nI q)).1 ≤ 720 ∧ KR G O ad S (vf_upd (vf_upd Y.1 4 (nI n)) 3 0, Y.2) L wn sl fl h2) ∨ (¬ (a_ex S X L wn n y (nI q)).1 ≤ 720 ∧ KR G O ad S Y L wn sl fl h2)) ∧ KF O h0 h2) := by
  refine Ct.ofn 1 rfl (Nat.le_of_ble_eq_true rfl) (by simp [Value.category]) ?_
  generalize hpost : (fun (r : Option Value) (h2 : AH) => r = some (.int (ib ((a_ex S X L wn n y (nI q)).1 ≤ 720))) ∧ ∃ Y, exI (x_ord S X y) (X.2 5) 0 (a_ex S X L wn n y (nI q)) Y ∧ (((a_ex S X L wn n y (nI q)).1 ≤ 720 ∧ KR G O ad S (vf_upd (vf_upd Y.1 4 (nI n)) 3 0, Y.2) L wn sl fl h2) ∨ (¬ (a_ex S X L wn n y (nI q)).1 ≤ 720 ∧ KR G O ad S Y L wn sl fl h2)) ∧ KF O h0 h2) = post
  show J Y_X3_findOrder (d + 12) G 0 0 0 [some (.ref (ad 14 0)), some (.ref (ad 12 0)), some (.ref (ad 10 0)), some (.ref (ad 5 y)), some (.int (nI q)), none] [] h post
  refine J.aload_n 1 dX3_findOrder_0 rfl rfl ?_
  refine J.aload_n 2 dX3_findOrder_1 rfl rfl ?_
  refine gf_X3_54 rfl 5 dX3_findOrder_2 rfl (hK.pil hy) (v := .int (S.2 13 y)) rfl ?_
  refine pf_X3_57 rfl 8 dX3_findOrder_5 rfl (hK.sea) (Nat.le_of_ble_eq_true rfl) ?_
  refine ks_14_6 hK hF (fun h hK hF => ?_)
  refine J.aload_n 9 dX3_findOrder_8 rfl rfl ?_
  refine J.sipush 721 12 dX3_findOrder_9 rfl (by decide) ?_
  refine pf_X3_58 rfl 15 dX3_findOrder_12 rfl (hK.sea) (Nat.le_of_ble_eq_true rfl) ?_
  refine ks_14_7 hK hF (fun h hK hF => ?_)
  refine J.iconst 0 16 dX3_findOrder_15 rfl (by decide) ?_
  refine J.ist_5 18 dX3_findOrder_16 rfl (by decide) ?_
  have loop18 : ∀ (j k : Nat) (x5 : Int32), k ≤ 32 → 32 + 1 ≤ k + j → x5 = nI k → ∀ Xx : MS, (Xx.1 = (x_ord S X y).1 ∧ (∀ j, j ≠ 7 → Xx.2 j = X.2 j) ∧ Xx.2 7 = fil (X.2 7) k) → ∀ h, KR G O ad S Xx L wn sl fl h → KF O h0 h → J Y_X3_findOrder (d + 12) G 0 0 18 [some (.ref (ad 14 0)), some (.ref (ad 12 0)), some (.ref (ad 10 0)), some (.ref (ad 5 y)), some (.int (nI q)), some (.int x5)] [] h post := by
    intro j
    induction j with
    | zero => intro k _ g1 g2; exact absurd g2 (by omega)
    | succ j ih =>
      intro k x5 g1 g2 e5 Xx hI7 h hK hF
      have q5 : x5.toNatClampNeg = k := by rw [e5]; exact nI_clamp (by omega)
      refine J.iload 20 dX3_findOrder_18 rfl rfl ?_
      refine J.aload_n 21 dX3_findOrder_20 rfl rfl ?_
      refine gf_X3_24 rfl 24 dX3_findOrder_21 rfl (hK.sea) (v := .ref (ad 16 0)) rfl ?_
      refine J.alen 25 dX3_findOrder_24 rfl hK.taken ?_
      show J _ _ _ _ _ _ _ (.int 32 :: _) _ _
      refine J.icmp_ge 44 28 dX3_findOrder_25 (by decide) rfl (fun c1 => ?_) (fun c1 => ?_)
      · skip
        have hk : k = 32 := Nat.le_antisymm g1 ((nI_leI (by omega) (by omega)).mp (by have z := c1; rw [e5] at z; exact z))
        refine J.aload_n 45 dX3_findOrder_44 rfl rfl ?_
        refine J.aload_n 46 dX3_findOrder_45 rfl rfl ?_
        refine J.aload_n 47 dX3_findOrder_46 rfl rfl ?_
        refine J.iconst 0 48 dX3_findOrder_47 rfl (by decide) ?_
        refine J.iconst 0 49 dX3_findOrder_48 rfl (by decide) ?_
        refine J.iload 51 dX3_findOrder_49 rfl rfl ?_
        refine J.aload_n 52 dX3_findOrder_51 rfl rfl ?_
        refine gf_X3_46 rfl 55 dX3_findOrder_52 rfl (hK.pil hy) (v := .int (S.2 14 y)) rfl ?_
        rw [hk] at hI7
        have hI0 : exI (x_ord S X y) (X.2 5) 0 (721, X.2 6, fil (X.2 7) 32) Xx := ⟨⟨fun j _ _ => by rw [hI7.1], fun j _ _ _ _ j7 => hI7.2.1 j j7, fun j _ _ => by rw [hI7.2.1 1 (by decide)]; rfl⟩, fun j hj => absurd hj (Nat.not_lt_zero _), by rw [hI7.1]; rfl, hI7.2.1 6 (by decide), hI7.2.2, 721, Nat.le_refl _, rfl⟩
        have ke := c_extF (d := d + (5 - n)) (h0 := h0) (X0 := x_ord S X y) (n := n) (rr := rr) (fl := fl) (G := G) (O := O) (ad := ad) hn5 hsz hwn hb0 h6r hb6 (fun i hi => ruOK_8 (hru i hi) (fun _ _ => rfl)) hwy hrr hrr2 n 0 0 (X.2 5) q (S.2 14 y) (721, X.2 6, fil (X.2 7) 32) Xx h (by omega) (by omega) hq hI0 hK hF
        rw [show d + (5 - n) + n + 6 = d + 11 by omega] at ke
        refine cv_X3_61 rfl 58 ke dX3_findOrder_55 rfl (hK.sea) rfl rfl (Nat.le_of_ble_eq_true rfl) (Nat.zero_le _) (Nat.zero_le _) (fun r h hp => ?_)
        obtain ⟨rfl, Y1, hI, hK, hF⟩ := hp
        change exI (x_ord S X y) (X.2 5) 0 (a_ex S X L wn n y (nI q)) Y1 at hI
        have s6 : Y1.1 6 = (a_ex S X L wn n y (nI q)).1 := hI.2.2.1
        have s3 : Y1.1 3 = nI n := (hI.1.1 3 (by decide) (by decide)).trans hsz
        refine J.aload_n 59 dX3_findOrder_58 rfl rfl ?_
        refine gf_X3_58 rfl 62 dX3_findOrder_59 rfl (hK.sea) (v := .int (Y1.1 6)) rfl ?_
        refine J.sipush 720 65 dX3_findOrder_62 rfl (by decide) ?_
        refine J.icmp_le 70 68 dX3_findOrder_65 (by decide) rfl (fun c2 => ?_) (fun c2 => ?_)
        · skip
          have hle : (a_ex S X L wn n y (nI q)).1 ≤ 720 := by rw [← s6]; exact c2
          refine J.aload_n 71 dX3_findOrder_70 rfl rfl ?_
          refine J.aload_n 72 dX3_findOrder_71 rfl rfl ?_
          refine gf_X3_27 rfl 75 dX3_findOrder_72 rfl (hK.sea) (v := .int (Y1.1 3)) rfl ?_
          refine pf_X3_65 rfl 78 dX3_findOrder_75 rfl (hK.sea) (Nat.le_of_ble_eq_true rfl) ?_
          refine ks_14_5 hK hF (fun h hK hF => ?_)
          refine J.aload_n 79 dX3_findOrder_78 rfl rfl ?_
          refine J.iconst 0 80 dX3_findOrder_79 rfl (by decide) ?_
          refine pf_X3_27 rfl 83 dX3_findOrder_80 rfl (hK.sea) (Nat.le_of_ble_eq_true rfl) ?_
          refine ks_14_4 hK hF (fun h hK hF => ?_)
          refine J.iconst 1 84 dX3_findOrder_83 rfl (by decide) ?_
          exact J.zret dX3_findOrder_84 rfl (Or.inr rfl) (by rw [← hpost]; exact ⟨congrArg (fun z => some (Value.int z)) (ib_t hle).symm, Y1, hI, Or.inl ⟨hle, by rw [← s3]; exact hK⟩, hF⟩)
        · skip
          have hle : ¬ (a_ex S X L wn n y (nI q)).1 ≤ 720 := by rw [← s6]; exact c2
          refine J.iconst 0 69 dX3_findOrder_68 rfl (by decide) ?_
          exact J.zret dX3_findOrder_69 rfl (Or.inl rfl) (by rw [← hpost]; exact ⟨congrArg (fun z => some (Value.int z)) (ib_f hle).symm, Y1, hI, Or.inr ⟨hle, hK⟩, hF⟩)
      · skip
        have hk : k < 32 := Nat.lt_of_not_le (fun y => c1 (by rw [e5]; exact nI_le y (by omega)))
        have hin : vp_in x5 32 := by rw [e5]; exact vp_in_nI (by omega) (by decide)
        refine J.aload_n 29 dX3_findOrder_28 rfl rfl ?_
        refine gf_X3_24 rfl 32 dX3_findOrder_29 rfl (hK.sea) (v := .ref (ad 16 0)) rfl ?_
        refine J.iload 34 dX3_findOrder_32 rfl rfl ?_
        refine J.sipush 9999 37 dX3_findOrder_34 rfl (by decide) ?_
        refine J.iast2 k q5 38 dX3_findOrder_37 rfl hK.taken (by assumption) ?_
        refine ks_16 hK hF (fun h hK hF => ?_)
        refine J.iinc_5 1 41 dX3_findOrder_38 rfl (by decide) (by decide) ?_
        refine J.goto 18 dX3_findOrder_41 (by decide) ?_
        exact ih (k + 1) _ (by omega) (by omega) (by rw [e5]; exact nI_1 k) (Xx.1, u2 Xx.2 7 k 9999) ⟨hI7.1, fun j hj => (u2_n hj).trans (hI7.2.1 j hj), by show u2 Xx.2 7 k 9999 7 = _; rw [u2_s, hI7.2.2, fil_s]⟩ _ hK hF
  exact loop18 (32 + 1) 0 _ (Nat.zero_le _) (by omega) rfl (vf_upd (vf_upd X.1 5 (S.2 13 y)) 6 721, X.2) ⟨rfl, fun _ _ => rfl, fil_0.symm⟩ _ hK hF
def a_rdy (S : MS) (m y : Int32) : Int32 := (if S.1 0 < (if S.2 10 m.toNatClampNeg < S.2 15 y.toNatClampNeg then S.2 15 y.toNatClampNeg else S.2 10 m.toNatClampNeg) then (if S.2 10 m.toNatClampNeg < S.2 15 y.toNatClampNeg then S.2 15 y.toNatClampNeg else S.2 10 m.toNatClampNeg) else S.1 0)
abbrev a_ordC (S X : MS) (L : Nat → List Nat) (wn : Nat → Option Nat) (n : Nat) (m y : Int32) : Prop := ¬ X.1 3 = 0 ∧ (L (8 + m.toNatClampNeg)) = [] ∧ a_aff S wn n m.toNatClampNeg y.toNatClampNeg
def a_order (S X : MS) (L : Nat → List Nat) (wn : Nat → Option Nat) (n : Nat) (m y : Int32) : Int32 := if ((0 ≤ m ∧ m < nI (L 1).length) ∧ (0 ≤ y ∧ y < nI (L 2).length)) then (if a_ordC S X L wn n m y then (if (a_ex S (x_hang S X (L (8 + m.toNatClampNeg))) L wn n y.toNatClampNeg (a_rdy S m y)).1 ≤ 720 then (a_ex S (x_hang S X (L (8 + m.toNatClampNeg))) L wn n y.toNatClampNeg (a_rdy S m y)).1 else -3) else -3) else -1
theorem x_hang_r {S X : MS} {l : List Nat} (k : Nat) (h : k ≠ 1) : (x_hang S X l).2 k = X.2 k := by
  simp only [x_hang, u2_n h]
theorem c_order {G : Nat → Nat} {O : Nat → Prop} {ad : Nat → Nat → Nat} {S X : MS} {L : Nat → List Nat} {wn : Nat → Option Nat} {sl : Nat → Nat} {fl : Nat} {h h0 : AH} {d : Nat} {m y : Int32} {n q rr : Nat} (hK : KR G O ad S X L wn sl fl h) (hF : KF O h0 h) (h1r : L 1 = List.range (L 1).length) (hb1 : (L 1).length ≤ 4) (h2r : L 2 = List.range (L 2).length) (hb2 : (L 2).length ≤ 6) (hsz : X.1 3 = nI n) (hn5 : n ≤ 5) (hwn : ∀ i, i < n → wn i = some (wf wn i) ∧ wf wn i < (L 0).length) (hlen : ∀ k, k < (L 1).length → (L (8 + k)).length ≤ 80) (hb0 : (L 0).length ≤ 12) (h6r : L 6 = List.range (L 6).length) (hb6 : (L 6).length ≤ 10) (hru : ∀ i, i < (L 6).length → ruOK X sl i) (hwy : wyOK S wn n) (hrr : ((0 ≤ m ∧ m < nI (L 1).length) ∧ (0 ≤ y ∧ y < nI (L 2).length)) → S.2 13 y.toNatClampNeg = nI rr) (hrr2 : rr ≤ 120) (hrd : ((0 ≤ m ∧ m < nI (L 1).length) ∧ (0 ≤ y ∧ y < nI (L 2).length)) → a_rdy S m y = nI q) (hq : q ≤ 1500) : Ct Y_X11_order (d + 13) G 0 0 [.ref (ad 0 0), .int m, .int y] h (fun r h2 => r = some (.int (a_order S X L wn n m y)) ∧ ((((0 ≤ m ∧ m < nI (L 1).length) ∧ (0 ≤ y ∧ y < nI (L 2).length)) ∧ a_ordC S X L wn n m y ∧ ∃ Y, (∀ k, k ≠ 0 → k ≠ 3 → k ≠ 4 → k ≠ 5 → k ≠ 6 → Y.1 k = X.1 k) ∧ (∀ k, k ≠ 1 → k ≠ 2 → k ≠ 5 → k ≠ 6 → k ≠ 7 → Y.2 k = X.2 k) ∧ Y.2 6 = (a_ex S (x_hang S X (L (8 + m.toNatClampNeg))) L wn n y.toNatClampNeg (a_rdy S m y)).2.1 ∧ Y.1 3 = (if (a_ex S (x_hang S X (L (8 + m.toNatClampNeg))) L wn n y.toNatClampNeg (a_rdy S m y)).1 ≤ 720 then 0 else nI n) ∧ Y.1 4 = (if (a_ex S (x_hang S X (L (8 + m.toNatClampNeg))) L wn n y.toNatClampNeg (a_rdy S m y)).1 ≤ 720 then nI n else X.1 4) ∧ KR G O ad S Y L wn sl fl h2 ∧ KF O h0 h2) ∨ (¬ (((0 ≤ m ∧ m < nI (L 1).length) ∧ (0 ≤ y ∧ y < nI (L 2).length)) ∧ a_ordC S X L wn n m y) ∧ KR G O ad S X L wn sl fl h2 ∧ KF O h0 h2))) := by
  refine Ct.ofn 3 rfl (Nat.le_of_ble_eq_true rfl) (by simp [Value.category]) ?_
  generalize hpost : (fun (r : Option Value) (h2 : AH) => r = some (.int (a_order S X L wn n m y)) ∧ ((((0 ≤ m ∧ m < nI (L 1).length) ∧ (0 ≤ y ∧ y < nI (L 2).length)) ∧ a_ordC S X L wn n m y ∧ ∃ Y, (∀ k, k ≠ 0 → k ≠ 3 → k ≠ 4 → k ≠ 5 → k ≠ 6 → Y.1 k = X.1 k) ∧ (∀ k, k ≠ 1 → k ≠ 2 → k ≠ 5 → k ≠ 6 → k ≠ 7 → Y.2 k = X.2 k) ∧ Y.2 6 = (a_ex S (x_hang S X (L (8 + m.toNatClampNeg))) L wn n y.toNatClampNeg (a_rdy S m y)).2.1 ∧ Y.1 3 = (if (a_ex S (x_hang S X (L (8 + m.toNatClampNeg))) L wn n y.toNatClampNeg (a_rdy S m y)).1 ≤ 720 then 0 else nI n) ∧ Y.1 4 = (if (a_ex S (x_hang S X (L (8 + m.toNatClampNeg))) L wn n y.toNatClampNeg (a_rdy S m y)).1 ≤ 720 then nI n else X.1 4) ∧ KR G O ad S Y L wn sl fl h2 ∧ KF O h0 h2) ∨ (¬ (((0 ≤ m ∧ m < nI (L 1).length) ∧ (0 ≤ y ∧ y < nI (L 2).length)) ∧ a_ordC S X L wn n m y) ∧ KR G O ad S X L wn sl fl h2 ∧ KF O h0 h2))) = post
  show J Y_X11_order (d + 13) G 0 0 0 [some (.ref (ad 0 0)), some (.int m), some (.int y), none, none, none] [] h post
  refine J.aload_n 1 dX11_order_0 rfl rfl ?_
  refine J.iload_n 2 dX11_order_1 rfl rfl ?_
  refine cv_X11_141 rfl 5 (c_isMachine (m := m) hK (by omega)) dX11_order_2 rfl (hK.hut) rfl rfl (Nat.le_of_ble_eq_true rfl) (Nat.zero_le _) (Nat.zero_le _) (fun r h2 hp => ?_)
  obtain ⟨rfl, rfl⟩ := hp
  refine J.if_eq 16 8 dX11_order_5 (by decide) rfl (fun c1 => ?_) (fun c1 => ?_)
  · skip
    refine J.iconst (-1) 17 dX11_order_16 rfl (by decide) ?_
    exact J.iret dX11_order_17 rfl (by rw [← hpost]; exact ⟨by rw [a_order, if_neg (fun z => ib_0.mp c1 z.1)], Or.inr ⟨fun z => ib_0.mp c1 z.1.1, hK, hF⟩⟩)
  · skip
    have hm0 := ib_n.mp c1
    refine J.aload_n 9 dX11_order_8 rfl rfl ?_
    refine J.iload_n 10 dX11_order_9 rfl rfl ?_
    refine cv_X11_207 rfl 13 (c_isPilot (p := y) hK (by omega)) dX11_order_10 rfl (hK.hut) rfl rfl (Nat.le_of_ble_eq_true rfl) (Nat.zero_le _) (Nat.zero_le _) (fun r h2 hp => ?_)
    obtain ⟨rfl, rfl⟩ := hp
    refine J.if_ne 18 16 dX11_order_13 (by decide) rfl (fun c2 => ?_) (fun c2 => ?_)
    · skip
      have hok : ((0 ≤ m ∧ m < nI (L 1).length) ∧ (0 ≤ y ∧ y < nI (L 2).length)) := ⟨hm0, ib_n.mp c2⟩
      have im := idx_of hok.1 (show (L 1).length ≤ 100000 by omega)
      have iy := idx_of hok.2 (show (L 2).length ≤ 100000 by omega)
      have hl8 := hlen _ im.1
      refine J.aload_n 19 dX11_order_18 rfl rfl ?_
      refine gf_X11_16 rfl 22 dX11_order_19 rfl (hK.hut) (v := .ref (ad 1 1)) rfl ?_
      refine J.iload_n 23 dX11_order_22 rfl rfl ?_
      have kg := hK.get (d := d + 10) (r := 1) (i := m.toNatClampNeg) (by omega) (rng_get h1r im.1)
      rw [im.2] at kg
      refine cv_X11_132 rfl 26 kg dX11_order_23 rfl (hK.listOb (r := 1) (by omega)).choose_spec rfl rfl (Nat.le_of_ble_eq_true rfl) (Nat.zero_le _) (Nat.zero_le _) (fun r h2 hp => ?_)
      obtain ⟨rfl, rfl⟩ := hp
      refine cc_X11_83 rfl 29 dX11_order_26 rfl (hK.mach im.1) ?_
      refine J.ast_3 30 dX11_order_29 rfl (by decide) ?_
      refine J.aload_n 31 dX11_order_30 rfl rfl ?_
      refine gf_X11_59 rfl 34 dX11_order_31 rfl (hK.hut) (v := .ref (ad 14 0)) rfl ?_
      refine gf_X11_271 rfl 37 dX11_order_34 rfl (hK.sea) (v := .int (X.1 3)) rfl ?_
      refine J.if_eq 50 40 dX11_order_37 (by decide) rfl (fun c3 => ?_) (fun c3 => ?_)
      · skip
        have hC : ¬ a_ordC S X L wn n m y := fun z => z.1 c3
        refine J.bipush (-3) 52 dX11_order_50 rfl (by decide) ?_
        exact J.iret dX11_order_52 rfl (by rw [← hpost]; exact ⟨by rw [a_order, if_pos hok, if_neg hC], Or.inr ⟨fun z => hC z.2, hK, hF⟩⟩)
      · skip
        have hs0 := c3
        refine J.aload_n 41 dX11_order_40 rfl rfl ?_
        refine gf_X11_160 rfl 44 dX11_order_41 rfl (hK.mach im.1) (v := .ref (ad 1 (8 + m.toNatClampNeg))) rfl ?_
        have ke := hK.isEmpty (d := d + 12) (r := 8 + m.toNatClampNeg) (by have := im.1; omega)
        refine cv_X11_277 rfl 47 ke dX11_order_44 rfl (hK.listOb (r := 8 + m.toNatClampNeg) (by have := im.1; omega)).choose_spec rfl rfl (Nat.le_of_ble_eq_true rfl) (Nat.zero_le _) (Nat.zero_le _) (fun r h2 hp => ?_)
        obtain ⟨rfl, rfl⟩ := hp
        refine J.if_ne 53 50 dX11_order_47 (by decide) rfl (fun c4 => ?_) (fun c4 => ?_)
        · skip
          have hem : (L (8 + m.toNatClampNeg)) = [] := (nil_0 (by omega)).mp (ib_n.mp c4)
          refine J.aload_n 54 dX11_order_53 rfl rfl ?_
          refine gf_X11_19 rfl 57 dX11_order_54 rfl (hK.hut) (v := .ref (ad 1 2)) rfl ?_
          refine J.iload_n 58 dX11_order_57 rfl rfl ?_
          have kg := hK.get (d := d + 10) (r := 2) (i := y.toNatClampNeg) (by omega) (rng_get h2r iy.1)
          rw [iy.2] at kg
          refine cv_X11_132 rfl 61 kg dX11_order_58 rfl (hK.listOb (r := 2) (by omega)).choose_spec rfl rfl (Nat.le_of_ble_eq_true rfl) (Nat.zero_le _) (Nat.zero_le _) (fun r h2 hp => ?_)
          obtain ⟨rfl, rfl⟩ := hp
          refine cc_X11_88 rfl 64 dX11_order_61 rfl (hK.pil iy.1) ?_
          refine J.ast_4 66 dX11_order_64 rfl (by decide) ?_
          refine J.aload_n 67 dX11_order_66 rfl rfl ?_
          refine gf_X11_59 rfl 70 dX11_order_67 rfl (hK.hut) (v := .ref (ad 14 0)) rfl ?_
          refine J.aload_n 71 dX11_order_70 rfl rfl ?_
          refine J.aload 73 dX11_order_71 rfl rfl ?_
          refine cv_X11_280 rfl 76 (c_afford (m := m.toNatClampNeg) (y := y.toNatClampNeg) hK hsz hn5 hwn im.1 iy.1) dX11_order_73 rfl (hK.sea) rfl rfl (Nat.le_of_ble_eq_true rfl) (Nat.zero_le _) (Nat.zero_le _) (fun r h2 hp => ?_)
          obtain ⟨rfl, rfl⟩ := hp
          refine J.if_ne 82 79 dX11_order_76 (by decide) rfl (fun c5 => ?_) (fun c5 => ?_)
          · skip
            have hC : a_ordC S X L wn n m y := ⟨hs0, hem, ib_n.mp c5⟩
            refine J.aload_n 83 dX11_order_82 rfl rfl ?_
            refine gf_X11_45 rfl 86 dX11_order_83 rfl (hK.hut) (v := .ref (ad 12 0)) rfl ?_
            refine J.aload_n 87 dX11_order_86 rfl rfl ?_
            refine cv_X11_284 rfl 90 (c_setHanging (h0 := h0) (m := m.toNatClampNeg) hK hF im.1 (by have := hlen _ im.1; omega)) dX11_order_87 rfl (hK.book) rfl rfl (Nat.le_of_ble_eq_true rfl) (Nat.zero_le _) (Nat.zero_le _) (fun r h hp => ?_)
            obtain ⟨rfl, hK, hF⟩ := hp
            refine J.aload_n 91 dX11_order_90 rfl rfl ?_
            refine gf_X11_150 rfl 94 dX11_order_91 rfl (hK.hut) (v := .int (S.1 0)) rfl ?_
            refine J.aload_n 95 dX11_order_94 rfl rfl ?_
            refine gf_X11_147 rfl 98 dX11_order_95 rfl (hK.mach im.1) (v := .int (S.2 10 m.toNatClampNeg)) rfl ?_
            refine J.aload 100 dX11_order_98 rfl rfl ?_
            refine gf_X11_213 rfl 103 dX11_order_100 rfl (hK.pil iy.1) (v := .int (S.2 15 y.toNatClampNeg)) rfl ?_
            refine J.mmax 106 dX11_order_103 rfl wm_928 (Nat.le_of_ble_eq_true rfl) ?_
            refine J.mmax 109 dX11_order_106 rfl wm_928 (Nat.le_of_ble_eq_true rfl) ?_
            refine J.ist_5 111 dX11_order_109 rfl (by decide) ?_
            refine J.aload_n 112 dX11_order_111 rfl rfl ?_
            refine gf_X11_59 rfl 115 dX11_order_112 rfl (hK.hut) (v := .ref (ad 14 0)) rfl ?_
            refine J.aload_n 116 dX11_order_115 rfl rfl ?_
            refine gf_X11_45 rfl 119 dX11_order_116 rfl (hK.hut) (v := .ref (ad 12 0)) rfl ?_
            refine J.aload_n 120 dX11_order_119 rfl rfl ?_
            refine gf_X11_31 rfl 123 dX11_order_120 rfl (hK.hut) (v := .ref (ad 10 0)) rfl ?_
            refine J.aload 125 dX11_order_123 rfl rfl ?_
            refine J.iload 127 dX11_order_125 rfl rfl ?_
            have erd : a_rdy S m y = nI q := hrd hok
            have kf := c_find (d := d) (h0 := h0) (n := n) (q := q) (rr := rr) (y := y.toNatClampNeg) hK hF hsz hn5 hwn hb0 h6r hb6 (fun i hi => ruOK_names (hru i hi) (fun k k1 _ => x_hang_r k k1)) hwy (hrr hok) hrr2 iy.1 hq
            rw [← erd] at kf
            refine cv_X11_293 rfl 130 kf dX11_order_127 rfl (hK.sea) rfl rfl (Nat.le_of_ble_eq_true rfl) (Nat.zero_le _) (Nat.zero_le _) (fun r h hp => ?_)
            obtain ⟨rfl, Y1, hI, hKK, hF⟩ := hp
            refine J.if_ne 136 133 dX11_order_130 (by decide) rfl (fun c6 => ?_) (fun c6 => ?_)
            · skip
              have hle := ib_n.mp c6
              have fx : ∀ Z : MS, (∀ k, k ≠ 0 → k ≠ 3 → k ≠ 4 → k ≠ 5 → k ≠ 6 → Z.1 k = Y1.1 k) → Z.2 = Y1.2 → (∀ k, k ≠ 0 → k ≠ 3 → k ≠ 4 → k ≠ 5 → k ≠ 6 → Z.1 k = X.1 k) ∧ (∀ k, k ≠ 1 → k ≠ 2 → k ≠ 5 → k ≠ 6 → k ≠ 7 → Z.2 k = X.2 k) := by
                intro Z z1 z2
                refine ⟨fun k k0 k3 k4 k5 k6 => (z1 k k0 k3 k4 k5 k6).trans ((hI.1.1 k k0 k6).trans ?_), fun k k1 k2 k5 k6 k7 => ?_⟩
                · show vf_upd (vf_upd X.1 5 _) 6 721 k = _
                  rw [vu_n k6, vu_n k5]
                · rw [z2]
                  exact (hI.1.2.1 k k1 k2 k5 k6 k7).trans (x_hang_r k k1)
              replace hK := (hKK.resolve_right (fun z => z.1 hle)).2
              obtain ⟨fx1, fx2⟩ := fx (vf_upd (vf_upd Y1.1 4 (nI n)) 3 0, Y1.2) (fun k k0 k3 k4 k5 k6 => by show vf_upd (vf_upd Y1.1 4 _) 3 0 k = _; rw [vu_n k3, vu_n k4]) rfl
              refine J.aload_n 137 dX11_order_136 rfl rfl ?_
              refine gf_X11_59 rfl 140 dX11_order_137 rfl (hK.hut) (v := .ref (ad 14 0)) rfl ?_
              refine gf_X11_297 rfl 143 dX11_order_140 rfl (hK.sea) (v := .int (Y1.1 6)) rfl ?_
              exact J.iret dX11_order_143 rfl (by rw [← hpost]; exact ⟨by rw [a_order, if_pos hok, if_pos hC, if_pos hle, ← hI.2.2.1], Or.inl ⟨hok, hC, _, fx1, fx2, hI.2.2.2.1, by rw [if_pos hle]; rfl, by rw [if_pos hle]; rfl, hK, hF⟩⟩)
            · skip
              have hle := ib_0.mp c6
              have fx : ∀ Z : MS, (∀ k, k ≠ 0 → k ≠ 3 → k ≠ 4 → k ≠ 5 → k ≠ 6 → Z.1 k = Y1.1 k) → Z.2 = Y1.2 → (∀ k, k ≠ 0 → k ≠ 3 → k ≠ 4 → k ≠ 5 → k ≠ 6 → Z.1 k = X.1 k) ∧ (∀ k, k ≠ 1 → k ≠ 2 → k ≠ 5 → k ≠ 6 → k ≠ 7 → Z.2 k = X.2 k) := by
                intro Z z1 z2
                refine ⟨fun k k0 k3 k4 k5 k6 => (z1 k k0 k3 k4 k5 k6).trans ((hI.1.1 k k0 k6).trans ?_), fun k k1 k2 k5 k6 k7 => ?_⟩
                · show vf_upd (vf_upd X.1 5 _) 6 721 k = _
                  rw [vu_n k6, vu_n k5]
                · rw [z2]
                  exact (hI.1.2.1 k k1 k2 k5 k6 k7).trans (x_hang_r k k1)
              replace hK := (hKK.resolve_left (fun z => hle z.1)).2
              obtain ⟨fx1, fx2⟩ := fx Y1 (fun _ _ _ _ _ _ => rfl) rfl
              refine J.bipush (-3) 135 dX11_order_133 rfl (by decide) ?_
              exact J.iret dX11_order_135 rfl (by rw [← hpost]; exact ⟨by rw [a_order, if_pos hok, if_pos hC, if_neg hle], Or.inl ⟨hok, hC, _, fx1, fx2, hI.2.2.2.1, by rw [if_neg hle]; exact (hI.1.1 3 (by decide) (by decide)).trans hsz, by rw [if_neg hle]; exact hI.1.1 4 (by decide) (by decide), hK, hF⟩⟩)
          · skip
            have hC : ¬ a_ordC S X L wn n m y := fun z => ib_0.mp c5 z.2.2
            refine J.bipush (-3) 81 dX11_order_79 rfl (by decide) ?_
            exact J.iret dX11_order_81 rfl (by rw [← hpost]; exact ⟨by rw [a_order, if_pos hok, if_neg hC], Or.inr ⟨fun z => hC z.2, hK, hF⟩⟩)
        · skip
          have hC : ¬ a_ordC S X L wn n m y := fun z => ib_0.mp c4 ((nil_0 (by omega)).mpr z.2.1)
          refine J.bipush (-3) 52 dX11_order_50 rfl (by decide) ?_
          exact J.iret dX11_order_52 rfl (by rw [← hpost]; exact ⟨by rw [a_order, if_pos hok, if_neg hC], Or.inr ⟨fun z => hC z.2, hK, hF⟩⟩)
    · skip
      refine J.iconst (-1) 17 dX11_order_16 rfl (by decide) ?_
      exact J.iret dX11_order_17 rfl (by rw [← hpost]; exact ⟨by rw [a_order, if_neg (fun z => ib_0.mp c2 z.2)], Or.inr ⟨fun z => ib_0.mp c2 z.1.2, hK, hF⟩⟩)
