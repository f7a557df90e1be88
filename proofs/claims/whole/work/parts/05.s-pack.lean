theorem c_putF {G : Nat → Nat} {O : Nat → Prop} {ad : Nat → Nat → Nat} {S : MS} {L : Nat → List Nat} {wn : Nat → Option Nat} {sl : Nat → Nat} {fl : Nat} {h0 : AH} {d : Nat} (h9 : (L 7).length ≤ 9) : ∀ (f a u : Nat) (X : MS) (P : Int32) (h : AH), a + f = (L 7).length → u ≤ a → KR G O ad S (vf_upd X.1 2 P, X.2) L wn sl fl h → KF O h0 h → Ct Y_X4_putFrom (d + f + 4) G 0 0 [.ref (ad 13 0), .int (nI a), .int (nI u)] h (fun r h2 => r = none ∧ KR G O ad S (ptX S X (L 7) f u P) L wn sl fl h2 ∧ KF O h0 h2) := by
  intro f
  induction f with
  | zero =>
    intro a u X P h ha hu hK hF
    exact c_putZ hK hF ha (by omega)
  | succ f ih =>
    intro a u X P h ha hu hK hF
    exact c_putS (d := d + f + 1) hK hF ha h9 hu (fun X P u h h1 h2 h3 => ih (a + 1) u X P h (by omega) h1 h2 h3)
def a_few (S X : MS) (l : List Nat) (q : Int32) : Int32 := if l.any (fun z => decide (q < S.2 18 z)) = true then -3 else ptF (iW S l) (iR S l) l.length q l.length (X.2 3) (X.2 4) 0 (nI l.length + 1)
theorem vu_n {f : Nat → Int32} {k j : Nat} {a : Int32} (h : k ≠ j) : vf_upd f j a k = f k := if_neg h
theorem c_few {G : Nat → Nat} {O : Nat → Prop} {ad : Nat → Nat → Nat} {S X : MS} {L : Nat → List Nat} {wn : Nat → Option Nat} {sl : Nat → Nat} {fl : Nat} {h h0 : AH} {d : Nat} {q : Int32} (hK : KR G O ad S X L wn sl fl h) (hF : KF O h0 h) (h9 : (L 7).length ≤ 9) : Ct Y_X4_fewestNets (d + 14) G 0 0 [.ref (ad 13 0), .int q] h (fun r h2 => r = some (.int (a_few S X (L 7) q)) ∧ ∃ X2, (∀ k, k ≠ 1 → k ≠ 2 → X2.1 k = X.1 k) ∧ X2.2 = X.2 ∧ KR G O ad S X2 L wn sl fl h2 ∧ KF O h0 h2) := by
  refine Ct.ofn 1 rfl (Nat.le_of_ble_eq_true rfl) (by simp [Value.category]) ?_
  generalize hpost : (fun (r : Option Value) (h2 : AH) => r = some (.int (a_few S X (L 7) q)) ∧ ∃ X2, (∀ k, k ≠ 1 → k ≠ 2 → X2.1 k = X.1 k) ∧ X2.2 = X.2 ∧ KR G O ad S X2 L wn sl fl h2 ∧ KF O h0 h2) = post
  show J Y_X4_fewestNets (d + 14) G 0 0 0 [some (.ref (ad 13 0)), some (.int q), none] [] h post
  refine J.iconst 0 1 dX4_fewestNets_0 rfl (by decide) ?_
  refine J.ist_2 2 dX4_fewestNets_1 rfl (by decide) ?_
  have loop2 : ∀ (j k : Nat) (x2 : Int32), k ≤ (L 7).length → (L 7).length + 1 ≤ k + j → x2 = nI k → (((L 7).take k).any (fun z => decide (q < S.2 18 z)) = false) → ∀ h, KR G O ad S X L wn sl fl h → KF O h0 h → J Y_X4_fewestNets (d + 14) G 0 0 2 [some (.ref (ad 13 0)), some (.int q), some (.int x2)] [] h post := by
    intro j
    induction j with
    | zero => intro k _ g1 g2; exact absurd g2 (by omega)
    | succ j ih =>
      intro k x2 g1 g2 e2 hI h hK hF
      have q2 : x2.toNatClampNeg = k := by rw [e2]; exact nI_clamp (by omega)
      refine J.iload_n 3 dX4_fewestNets_2 rfl rfl ?_
      refine J.aload_n 4 dX4_fewestNets_3 rfl rfl ?_
      refine gf_X4_12 rfl 7 dX4_fewestNets_4 rfl (hK.pack) (v := .ref (ad 1 7)) rfl ?_
      refine cv_X4_28 rfl 10 (hK.size (by omega)) dX4_fewestNets_7 rfl (hK.listOb (r := 7) (by omega)).choose_spec rfl rfl (Nat.le_of_ble_eq_true rfl) (Nat.zero_le _) (Nat.zero_le _) (fun r h2 hp => ?_)
      obtain ⟨rfl, rfl⟩ := hp
      refine J.icmp_ge 40 13 dX4_fewestNets_10 (by decide) rfl (fun c1 => ?_) (fun c1 => ?_)
      · skip
        have hk : k = (L 7).length := Nat.le_antisymm g1 ((nI_leI (by omega) (by omega)).mp (by have z := c1; rw [e2] at z; exact z))
        refine J.aload_n 41 dX4_fewestNets_40 rfl rfl ?_
        refine J.iload_n 42 dX4_fewestNets_41 rfl rfl ?_
        refine pf_X4_53 rfl 45 dX4_fewestNets_42 rfl (hK.pack) (Nat.le_of_ble_eq_true rfl) ?_
        refine ks_13_3 hK hF (fun h hK hF => ?_)
        refine J.aload_n 46 dX4_fewestNets_45 rfl rfl ?_
        refine J.aload_n 47 dX4_fewestNets_46 rfl rfl ?_
        refine gf_X4_12 rfl 50 dX4_fewestNets_47 rfl (hK.pack) (v := .ref (ad 1 7)) rfl ?_
        refine cv_X4_28 rfl 53 (hK.size (by omega)) dX4_fewestNets_50 rfl (hK.listOb (r := 7) (by omega)).choose_spec rfl rfl (Nat.le_of_ble_eq_true rfl) (Nat.zero_le _) (Nat.zero_le _) (fun r h2 hp => ?_)
        obtain ⟨rfl, rfl⟩ := hp
        refine J.iconst 1 54 dX4_fewestNets_53 rfl (by decide) ?_
        refine J.iadd 55 dX4_fewestNets_54 rfl ?_
        refine pf_X4_56 rfl 58 dX4_fewestNets_55 rfl (hK.pack) (Nat.le_of_ble_eq_true rfl) ?_
        refine ks_13_4 hK hF (fun h hK hF => ?_)
        refine J.aload_n 59 dX4_fewestNets_58 rfl rfl ?_
        refine J.iconst 0 60 dX4_fewestNets_59 rfl (by decide) ?_
        refine J.iconst 0 61 dX4_fewestNets_60 rfl (by decide) ?_
        have kp := c_putF (d := d + (9 - (L 7).length)) (h0 := h0) h9 (L 7).length 0 0 (vf_upd X.1 1 q, X.2) (nI (L 7).length + 1) h (by omega) (Nat.le_refl _) hK hF
        rw [show d + (9 - (L 7).length) + (L 7).length + 4 = d + 13 by omega] at kp
        refine cv_X4_59 rfl 64 kp dX4_fewestNets_61 rfl (hK.pack) rfl rfl (Nat.le_of_ble_eq_true rfl) (Nat.zero_le _) (Nat.zero_le _) (fun r h hp => ?_)
        obtain ⟨rfl, hK, hF⟩ := hp
        refine J.aload_n 65 dX4_fewestNets_64 rfl rfl ?_
        refine gf_X4_56 rfl 68 dX4_fewestNets_65 rfl (hK.pack) (v := .int ((ptX S (vf_upd X.1 1 q, X.2) (L 7) (L 7).length 0 (nI (L 7).length + 1)).1 2)) rfl ?_
        exact J.iret dX4_fewestNets_68 rfl (by rw [← hpost]; exact ⟨by rw [a_few, if_neg (by rw [← List.take_length (l := L 7), ← hk, hI]; decide)]; rfl, ptX S (vf_upd X.1 1 q, X.2) (L 7) (L 7).length 0 (nI (L 7).length + 1), fun k k1 k2 => by show vf_upd (vf_upd X.1 1 q) 2 _ k = _; rw [vu_n k2, vu_n k1], rfl, hK, hF⟩)
      · skip
        have hk : k < (L 7).length := Nat.lt_of_not_le (fun y => c1 (by rw [e2]; exact nI_le y (by omega)))
        have hin : vp_in x2 1000 := by rw [e2]; exact vp_in_nI (by omega) (by decide)
        refine J.aload_n 14 dX4_fewestNets_13 rfl rfl ?_
        refine gf_X4_12 rfl 17 dX4_fewestNets_14 rfl (hK.pack) (v := .ref (ad 1 7)) rfl ?_
        refine J.iload_n 18 dX4_fewestNets_17 rfl rfl ?_
        obtain ⟨y, hy⟩ : ∃ y, (L 7)[k]? = some y := ⟨_, List.getElem?_eq_getElem hk⟩
        have kg := hK.get (d := d + 11) (by omega) hy
        rw [← e2] at kg
        refine cv_X4_32 rfl 21 kg dX4_fewestNets_18 rfl (hK.listOb (r := 7) (by omega)).choose_spec rfl rfl (Nat.le_of_ble_eq_true rfl) (Nat.zero_le _) (Nat.zero_le _) (fun r h2 hp => ?_)
        obtain ⟨rfl, rfl⟩ := hp
        refine cc_X4_36 rfl 24 dX4_fewestNets_21 rfl (hK.load (hK.mem6 (by omega) rfl hy)) ?_
        refine gf_X4_50 rfl 27 dX4_fewestNets_24 rfl (hK.load (hK.mem6 (by omega) rfl hy)) (v := .int (S.2 18 y)) rfl ?_
        refine J.iload_n 28 dX4_fewestNets_27 rfl rfl ?_
        refine J.icmp_le 34 31 dX4_fewestNets_28 (by decide) rfl (fun c2 => ?_) (fun c2 => ?_)
        · skip
          refine J.iinc_2 1 37 dX4_fewestNets_34 rfl (by decide) (by decide) ?_
          refine J.goto 2 dX4_fewestNets_37 (by decide) ?_
          exact ih (k + 1) _ (by omega) (by omega) (by rw [e2]; exact nI_1 k) (by rw [any_1 hy, hI]; simp [Int32.not_lt.mpr c2]) _ hK hF
        · skip
          refine J.bipush (-3) 33 dX4_fewestNets_31 rfl (by decide) ?_
          exact J.iret dX4_fewestNets_33 rfl (by rw [← hpost]; exact ⟨by rw [a_few, if_pos (any_of hy (by simp [Int32.not_le.mp c2]))], X, fun _ _ _ => rfl, rfl, hK, hF⟩)
  exact loop2 ((L 7).length + 1) 0 _ (Nat.zero_le _) (by omega) rfl rfl _ hK hF
def a_pack (S X : MS) (L : Nat → List Nat) (p q : Int32) : Int32 := if ((0 < p ∧ p < nI (L 0).length) ∧ (0 ≤ q ∧ q ≤ 400)) then (if (psel S p (L 3).length).length ≤ 9 then a_few S X (psel S p (L 3).length) q else -2) else -1
theorem c_pack {G : Nat → Nat} {O : Nat → Prop} {ad : Nat → Nat → Nat} {S X : MS} {L : Nat → List Nat} {wn : Nat → Option Nat} {sl : Nat → Nat} {fl : Nat} {h h0 : AH} {d : Nat} {p q : Int32} (hK : KR G O ad S X L wn sl fl h) (hF : KF O h0 h) (h0r : L 0 = List.range (L 0).length) (hb0 : (L 0).length ≤ 12) (h3r : L 3 = List.range (L 3).length) (hb3 : (L 3).length ≤ 80) (hb7 : (L 7).length ≤ 80) : Ct Y_X11_pack (d + 15) G (L 3).length (170 * (L 3).length) [.ref (ad 0 0), .int p, .int q] h (fun r h2 => r = some (.int (a_pack S X L p q)) ∧ ∃ X2 l, (∀ k, k ≠ 1 → k ≠ 2 → X2.1 k = X.1 k) ∧ X2.2 = X.2 ∧ l.length ≤ 80 ∧ KR G O ad S X2 (lset L 7 l) wn sl fl h2 ∧ KF O h0 h2) := by
  refine Ct.ofn 0 rfl (Nat.le_of_ble_eq_true rfl) (by simp [Value.category]) ?_
  generalize hpost : (fun (r : Option Value) (h2 : AH) => r = some (.int (a_pack S X L p q)) ∧ ∃ X2 l, (∀ k, k ≠ 1 → k ≠ 2 → X2.1 k = X.1 k) ∧ X2.2 = X.2 ∧ l.length ≤ 80 ∧ KR G O ad S X2 (lset L 7 l) wn sl fl h2 ∧ KF O h0 h2) = post
  show J Y_X11_pack (d + 15) G (L 3).length (170 * (L 3).length) 0 [some (.ref (ad 0 0)), some (.int p), some (.int q)] [] h post
  refine J.aload_n 1 dX11_pack_0 rfl rfl ?_
  refine J.iload_n 2 dX11_pack_1 rfl rfl ?_
  refine cv_X11_258 rfl 5 (c_isHut (p := p) hK (by omega)) dX11_pack_2 rfl (hK.hut) rfl rfl (Nat.le_of_ble_eq_true rfl) (Nat.zero_le _) (Nat.zero_le _) (fun r h2 hp => ?_)
  obtain ⟨rfl, rfl⟩ := hp
  refine J.if_eq 19 8 dX11_pack_5 (by decide) rfl (fun c1 => ?_) (fun c1 => ?_)
  · skip
    refine J.iconst (-1) 20 dX11_pack_19 rfl (by decide) ?_
    exact J.iret dX11_pack_20 rfl (by rw [← hpost]; exact ⟨by rw [a_pack, if_neg (fun z => ib_0.mp c1 z.1)], X, L 7, fun _ _ _ => rfl, rfl, hb7, by rw [lset_id]; exact hK, hF⟩)
  · skip
    have hp1 := ib_n.mp c1
    refine J.iload_n 9 dX11_pack_8 rfl rfl ?_
    refine J.iconst 0 10 dX11_pack_9 rfl (by decide) ?_
    refine J.sipush 400 13 dX11_pack_10 rfl (by decide) ?_
    refine cs_X11_75 rfl 16 (c_isWithin (v := q) (a := 0) (b := 400) _ _) dX11_pack_13 rfl rfl rfl (Nat.le_of_ble_eq_true rfl) (Nat.zero_le _) (Nat.zero_le _) (fun r h2 hp => ?_)
    obtain ⟨rfl, rfl⟩ := hp
    refine J.if_ne 21 19 dX11_pack_16 (by decide) rfl (fun c2 => ?_) (fun c2 => ?_)
    · skip
      have hp2 := ib_n.mp c2
      refine J.aload_n 22 dX11_pack_21 rfl rfl ?_
      refine gf_X11_52 rfl 25 dX11_pack_22 rfl (hK.hut) (v := .ref (ad 13 0)) rfl ?_
      refine J.aload_n 26 dX11_pack_25 rfl rfl ?_
      refine gf_X11_22 rfl 29 dX11_pack_26 rfl (hK.hut) (v := .ref (ad 1 3)) rfl ?_
      refine J.iload_n 30 dX11_pack_29 rfl rfl ?_
      refine cv_X11_261 rfl 33 (c_gather (h0 := h0) (p := p) hK hF h3r hb3) dX11_pack_30 rfl (hK.pack) rfl rfl (Nat.le_of_ble_eq_true rfl) (by omega) (by omega) (fun r h hp => ?_)
      obtain ⟨rfl, hK, hF⟩ := hp
      refine J.aload_n 34 dX11_pack_33 rfl rfl ?_
      refine gf_X11_52 rfl 37 dX11_pack_34 rfl (hK.hut) (v := .ref (ad 13 0)) rfl ?_
      refine gf_X11_265 rfl 40 dX11_pack_37 rfl (hK.pack) (v := .ref (ad 1 7)) rfl ?_
      have ks := hK.size (d := d + 14) (r := 7) (by omega)
      rw [lset_s] at ks
      refine cv_X11_79 rfl 43 ks dX11_pack_40 rfl (hK.listOb (r := 7) (by omega)).choose_spec rfl rfl (Nat.le_of_ble_eq_true rfl) (Nat.zero_le _) (Nat.zero_le _) (fun r h2 hp => ?_)
      obtain ⟨rfl, rfl⟩ := hp
      refine J.bipush 9 45 dX11_pack_43 rfl (by decide) ?_
      refine J.icmp_le 51 48 dX11_pack_45 (by decide) rfl (fun c3 => ?_) (fun c3 => ?_)
      · skip
        have h9 : (psel S p (L 3).length).length ≤ 9 := (nI_leI (b := 9) (by have := psel_len S p (L 3).length; omega) (by decide)).mp c3
        refine J.aload_n 52 dX11_pack_51 rfl rfl ?_
        refine gf_X11_52 rfl 55 dX11_pack_52 rfl (hK.hut) (v := .ref (ad 13 0)) rfl ?_
        refine J.iload_n 56 dX11_pack_55 rfl rfl ?_
        have kf := c_few (d := d) (h0 := h0) (q := q) hK hF (by rw [lset_s]; exact h9)
        rw [lset_s] at kf
        refine cv_X11_268 rfl 59 kf dX11_pack_56 rfl (hK.pack) rfl rfl (Nat.le_of_ble_eq_true rfl) (Nat.zero_le _) (Nat.zero_le _) (fun r h hp => ?_)
        obtain ⟨rfl, X2, hx1, hx2, hK, hF⟩ := hp
        exact J.iret dX11_pack_59 rfl (by rw [← hpost]; exact ⟨by rw [a_pack, if_pos ⟨hp1, hp2⟩, if_pos h9], X2, (psel S p (L 3).length), hx1, hx2, Nat.le_trans (psel_len _ _ _) hb3, hK, hF⟩)
      · skip
        have h9 : ¬ (psel S p (L 3).length).length ≤ 9 := fun z => c3 (nI_le (b := 9) z (by decide))
        refine J.bipush (-2) 50 dX11_pack_48 rfl (by decide) ?_
        exact J.iret dX11_pack_50 rfl (by rw [← hpost]; exact ⟨by rw [a_pack, if_pos ⟨hp1, hp2⟩, if_neg h9], X, (psel S p (L 3).length), fun _ _ _ => rfl, rfl, Nat.le_trans (psel_len _ _ _) hb3, hK, hF⟩)
    · skip
      refine J.iconst (-1) 20 dX11_pack_19 rfl (by decide) ?_
      exact J.iret dX11_pack_20 rfl (by rw [← hpost]; exact ⟨by rw [a_pack, if_neg (fun z => ib_0.mp c2 z.2)], X, L 7, fun _ _ _ => rfl, rfl, hb7, by rw [lset_id]; exact hK, hF⟩)
