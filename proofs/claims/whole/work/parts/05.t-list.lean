section JAA
variable {Y : YM} {d kc ks pc : Nat} {G : Nat → Nat} {lv : List (Option Value)} {st : List Value} {h : AH} {post : Option Value → AH → Prop}
theorem J.aald2 {a n : Nat} {C : String} {f : Nat → Option Nat} {i : Int32} (j : Nat) (hj : i.toNatClampNeg = j) {v : Nat} (hv : f j = some v) (pn : Nat) (hd : decode Y.2.1 pc = .ok (.aaload, 1)) (hn : pc + 1 = pn) (ha : h a = some (Aq C n f)) (hin : vp_in i n) (kk : J Y d G kc ks pn lv (.ref v :: st) h post) : J Y d G kc ks pc lv (.int i :: .ref a :: st) h post := by
  subst hj
  refine J.aald pn hd hn ha hin ?_
  rw [hv]
  exact kk
theorem janyS {D : va_G} {A : Nat → Prop} {s : State} {H : Heap} {a ci : Nat} {fs : List Value} {r : vw_C} (hR : HR D A s h H) (hc : vwCl[ci]? = some r) (ha : h a = some (.inr (ci, fs))) : va_Any r.1 s H a := by
  obtain ⟨ws, tys, hK, hP, hD, hh⟩ := hR
  obtain ⟨q0, hq0⟩ := List.getElem?_of_mem (show (a, (Sum.inr (ci, fs) : va_E)) ∈ ws from hh a _ ha)
  exact va_rAny hK hP hq0 hc (fun comp c0 g1 g2 => vb_asgS comp c0 g1 g2)
theorem J.aastS0 {a n v ci : Nat} {f : Nat → Option Nat} {i : Int32} {fs : List Value} {r : vw_C} (pn : Nat) (hd : decode Y.2.1 pc = .ok (.aastore, 1)) (hn : pc + 1 = pn) (ha : h a = some (Aq r.1 n f)) (hin : vp_in i n) (hv : h v = some (.inr (ci, fs))) (hc : vwCl[ci]? = some r) (kk : J Y d G kc ks pn lv st (hu h a (Aq r.1 n (va_up f i.toNatClampNeg (some v)))) post) : J Y d G kc ks pc lv (.ref v :: .int i :: .ref a :: st) h post := by
  subst hn
  intro A D p l e s m args below meth c mc ms H locs cells slots ls C0 hR hS h1 h2 hl
  obtain ⟨ws, tys, hK, hP, hD, hh⟩ := id hR
  obtain ⟨cA, g1, g2⟩ := hh a _ ha
  obtain ⟨q0, hq0⟩ := List.getElem?_of_mem g1
  obtain ⟨t0, ht0⟩ := List.getElem?_of_mem g2
  exact va_astqM C0.1 C0.2.1 hK hP hD hS q0 t0 hq0 ht0 (janyS hR hc hv) hin hd (fun H1 locs1 hP1 hD1 hS1 => kk A D p l e s m args below meth c mc ms H1 locs1 cells slots ls C0 ⟨_, tys, hK, hP1, hD1, jh_set hD hh hq0 (fun ws' hm => ⟨cA, hm, g2⟩)⟩ hS1 h1 h2 hl)
theorem J.aastS {a n v : Nat} {f : Nat → Option Nat} {i : Int32} {fs : List Value} (j : Nat) (hj : i.toNatClampNeg = j) (pn : Nat) (hd : decode Y.2.1 pc = .ok (.aastore, 1)) (hn : pc + 1 = pn) (ha : h a = some (Aq "HutLift$Place" n f)) (hin : vp_in i n) (hv : h v = some (.inr (7, fs))) (hc : vwCl[7]? = some (RX6, TX6, 3)) (kk : J Y d G kc ks pn lv st (hu h a (Aq "HutLift$Place" n (va_up f j (some v)))) post) : J Y d G kc ks pc lv (.ref v :: .int i :: .ref a :: st) h post := by
  subst hj
  exact J.aastS0 (r := (RX6, TX6, 3)) pn hd hn ha hin hv hc kk
end JAA
def wf (wn : Nat → Option Nat) (i : Nat) : Nat := (wn i).getD 0
def insW (g : Nat) : Nat → (Nat → Option Nat) → (Nat → Option Nat)
  | 0, wn => va_up wn 0 (some g)
  | k + 1, wn => if g < wf wn k then insW g k (va_up wn (k + 1) (some (wf wn k))) else va_up wn (k + 1) (some g)
theorem c_wantL {G : Nat → Nat} {O : Nat → Prop} {ad : Nat → Nat → Nat} {S X : MS} {L : Nat → List Nat} {sl : Nat → Nat} {fl : Nat} {h0 : AH} {d : Nat} {g : Nat} (hg : g < (L 0).length) (hb0 : (L 0).length ≤ 12) : ∀ (k : Nat) (wn : Nat → Option Nat) (h : AH), KR G O ad S X L wn sl fl h → KF O h0 h → k ≤ 4 → (∀ i, i < k → wn i = some (wf wn i) ∧ wf wn i < (L 0).length) → ∀ post, (fun (r : Option Value) (h2 : AH) => r = none ∧ KR G O ad S (vf_upd X.1 3 (X.1 3 + 1), X.2) L (insW g k wn) sl fl h2 ∧ KF O h0 h2) = post → J Y_X3_want d G 0 0 14 [some (.ref (ad 14 0)), some (.ref (ad 3 g)), some (.int (nI k))] [] h post := by
  intro k
  induction k with
  | zero =>
    intro wn h hK hF h4 hwn post hpost
    have q2 : (nI 0).toNatClampNeg = 0 := nI_clamp (by decide)
    have n2 : vp_in (nI 0) 5 := vp_in_nI (by omega) (by decide)
    refine J.iload_n 15 dX3_want_14 rfl rfl ?_
    refine J.if_le 56 18 dX3_want_15 (by decide) rfl (fun c1 => ?_) (fun c1 => ?_)
    · skip
      refine J.aload_n 57 dX3_want_56 rfl rfl ?_
      refine gf_X3_11 rfl 60 dX3_want_57 rfl (hK.sea) (v := .ref (ad 17 0)) rfl ?_
      refine J.iload_n 61 dX3_want_60 rfl rfl ?_
      refine J.aload_n 62 dX3_want_61 rfl rfl ?_
      refine J.aastS 0 q2 63 dX3_want_62 rfl hK.wanted n2 (hK.place hg) rfl ?_
      refine ks_17 hK hF (fun h hK hF => ?_)
      refine J.aload_n 64 dX3_want_63 rfl rfl ?_
      refine J.dup 65 dX3_want_64 rfl rfl ?_
      refine gf_X3_27 rfl 68 dX3_want_65 rfl (hK.sea) (v := .int (X.1 3)) rfl ?_
      refine J.iconst 1 69 dX3_want_68 rfl (by decide) ?_
      refine J.iadd 70 dX3_want_69 rfl ?_
      refine pf_X3_27 rfl 73 dX3_want_70 rfl (hK.sea) (Nat.le_of_ble_eq_true rfl) ?_
      refine ks_14_4 hK hF (fun h hK hF => ?_)
      exact J.vret dX3_want_73 rfl (by rw [← hpost]; exact ⟨rfl, by exact hK, hF⟩)
    · skip
      exact absurd (show nI 0 ≤ 0 by decide) c1
  | succ k ih =>
    intro wn h hK hF h4 hwn post hpost
    have q2 : (nI (k + 1)).toNatClampNeg = k + 1 := nI_clamp (by omega)
    have n2 : vp_in (nI (k + 1)) 5 := vp_in_nI (by omega) (by decide)
    have q3 : (nI (k + 1) - 1).toNatClampNeg = k := by rw [nI_m1]; exact nI_clamp (by omega)
    have n3 : vp_in (nI (k + 1) - 1) 5 := by rw [nI_m1]; exact vp_in_nI (by omega) (by decide)
    have hwk := hwn k (by omega)
    refine J.iload_n 15 dX3_want_14 rfl rfl ?_
    refine J.if_le 56 18 dX3_want_15 (by decide) rfl (fun c1 => ?_) (fun c1 => ?_)
    · skip
      exact absurd c1 (Int32.not_le.mpr (nI_ltI (a := 0) (by decide) (by omega) |>.mpr (by omega)))
    · skip
      refine J.aload_n 19 dX3_want_18 rfl rfl ?_
      refine gf_X3_11 rfl 22 dX3_want_19 rfl (hK.sea) (v := .ref (ad 17 0)) rfl ?_
      refine J.iload_n 23 dX3_want_22 rfl rfl ?_
      refine J.iconst 1 24 dX3_want_23 rfl (by decide) ?_
      refine J.isub 25 dX3_want_24 rfl ?_
      refine J.aald2 k q3 (v := ad 3 (wf wn k)) (show (wn k).map (ad 3) = _ from by rw [hwk.1]; rfl) 26 dX3_want_25 rfl hK.wanted n3 ?_
      refine gf_X3_31 rfl 29 dX3_want_26 rfl (hK.place hwk.2) (v := .int (nI (wf wn k))) rfl ?_
      refine J.aload_n 30 dX3_want_29 rfl rfl ?_
      refine gf_X3_31 rfl 33 dX3_want_30 rfl (hK.place hg) (v := .int (nI g)) rfl ?_
      refine J.icmp_le 56 36 dX3_want_33 (by decide) rfl (fun c2 => ?_) (fun c2 => ?_)
      · skip
        have hlt : ¬ g < wf wn k := fun z => absurd ((nI_ltI (by omega) (by omega)).mpr z) (Int32.not_lt.mpr c2)
        refine J.aload_n 57 dX3_want_56 rfl rfl ?_
        refine gf_X3_11 rfl 60 dX3_want_57 rfl (hK.sea) (v := .ref (ad 17 0)) rfl ?_
        refine J.iload_n 61 dX3_want_60 rfl rfl ?_
        refine J.aload_n 62 dX3_want_61 rfl rfl ?_
        refine J.aastS (k + 1) q2 63 dX3_want_62 rfl hK.wanted n2 (hK.place hg) rfl ?_
        refine ks_17 hK hF (fun h hK hF => ?_)
        refine J.aload_n 64 dX3_want_63 rfl rfl ?_
        refine J.dup 65 dX3_want_64 rfl rfl ?_
        refine gf_X3_27 rfl 68 dX3_want_65 rfl (hK.sea) (v := .int (X.1 3)) rfl ?_
        refine J.iconst 1 69 dX3_want_68 rfl (by decide) ?_
        refine J.iadd 70 dX3_want_69 rfl ?_
        refine pf_X3_27 rfl 73 dX3_want_70 rfl (hK.sea) (Nat.le_of_ble_eq_true rfl) ?_
        refine ks_14_4 hK hF (fun h hK hF => ?_)
        exact J.vret dX3_want_73 rfl (by rw [← hpost]; exact ⟨rfl, by rw [insW, if_neg hlt]; exact hK, hF⟩)
      · skip
        have hlt : g < wf wn k := (nI_ltI (by omega) (by omega)).mp (Int32.not_le.mp c2)
        refine J.aload_n 37 dX3_want_36 rfl rfl ?_
        refine gf_X3_11 rfl 40 dX3_want_37 rfl (hK.sea) (v := .ref (ad 17 0)) rfl ?_
        refine J.iload_n 41 dX3_want_40 rfl rfl ?_
        refine J.aload_n 42 dX3_want_41 rfl rfl ?_
        refine gf_X3_11 rfl 45 dX3_want_42 rfl (hK.sea) (v := .ref (ad 17 0)) rfl ?_
        refine J.iload_n 46 dX3_want_45 rfl rfl ?_
        refine J.iconst 1 47 dX3_want_46 rfl (by decide) ?_
        refine J.isub 48 dX3_want_47 rfl ?_
        refine J.aald2 k q3 (v := ad 3 (wf wn k)) (show (wn k).map (ad 3) = _ from by rw [hwk.1]; rfl) 49 dX3_want_48 rfl hK.wanted n3 ?_
        refine J.aastS (k + 1) q2 50 dX3_want_49 rfl hK.wanted n2 (hK.place hwk.2) rfl ?_
        refine ks_17 hK hF (fun h hK hF => ?_)
        refine J.iinc_2 (-1) 53 dX3_want_50 rfl (by decide) (by decide) ?_
        refine J.goto 14 dX3_want_53 (by decide) ?_
        rw [show nI (k + 1) + -1 = nI k from by rw [← nI_1 k]; rw [Int32.add_assoc, show (1 : Int32) + -1 = 0 from by decide, Int32.add_zero]]
        exact ih (va_up wn (k + 1) (some (wf wn k))) h hK hF (by omega) (fun i hi => by simp only [wf, va_up_ne wn _ (show i ≠ k + 1 by omega)]; exact hwn i (by omega)) post (by rw [← hpost, insW, if_pos hlt])
theorem c_want {G : Nat → Nat} {O : Nat → Prop} {ad : Nat → Nat → Nat} {S X : MS} {L : Nat → List Nat} {wn : Nat → Option Nat} {sl : Nat → Nat} {fl : Nat} {h h0 : AH} {d : Nat} {g n : Nat} (hK : KR G O ad S X L wn sl fl h) (hF : KF O h0 h) (hg : g < (L 0).length) (hb0 : (L 0).length ≤ 12) (hsz : X.1 3 = nI n) (hn5 : n < 5) (hwn : ∀ i, i < n → wn i = some (wf wn i) ∧ wf wn i < (L 0).length) : Ct Y_X3_want d G 0 0 [.ref (ad 14 0), .ref (ad 3 g)] h (fun r h2 => r = none ∧ KR G O ad S (vf_upd X.1 3 (X.1 3 + 1), X.2) L (insW g n wn) sl fl h2 ∧ KF O h0 h2) := by
  refine Ct.ofn 1 rfl (Nat.le_of_ble_eq_true rfl) (by simp [Value.category]) ?_
  generalize hpost : (fun (r : Option Value) (h2 : AH) => r = none ∧ KR G O ad S (vf_upd X.1 3 (X.1 3 + 1), X.2) L (insW g n wn) sl fl h2 ∧ KF O h0 h2) = post
  show J Y_X3_want d G 0 0 0 [some (.ref (ad 14 0)), some (.ref (ad 3 g)), none] [] h post
  refine J.aload_n 1 dX3_want_0 rfl rfl ?_
  refine gf_X3_27 rfl 4 dX3_want_1 rfl (hK.sea) (v := .int (X.1 3)) rfl ?_
  refine J.iconst 5 5 dX3_want_4 rfl (by decide) ?_
  refine J.icmp_lt 9 8 dX3_want_5 (by decide) rfl (fun c1 => ?_) (fun c1 => ?_)
  · skip
    refine J.aload_n 10 dX3_want_9 rfl rfl ?_
    refine gf_X3_27 rfl 13 dX3_want_10 rfl (hK.sea) (v := .int (X.1 3)) rfl ?_
    refine J.ist_2 14 dX3_want_13 rfl (by decide) ?_
    rw [hsz]
    exact c_wantL hg hb0 n wn h hK hF (by omega) hwn post hpost
  · skip
    exact absurd (show X.1 3 < 5 by rw [hsz]; exact (nI_ltI (b := 5) (by omega) (by decide)).mpr hn5) c1
def a_list (X : MS) (L : Nat → List Nat) (p : Int32) : Int32 := if (0 < p ∧ p < nI (L 0).length) then (if X.1 3 < 5 then X.1 3 + 1 else -2) else -1
theorem c_list {G : Nat → Nat} {O : Nat → Prop} {ad : Nat → Nat → Nat} {S X : MS} {L : Nat → List Nat} {wn : Nat → Option Nat} {sl : Nat → Nat} {fl : Nat} {h h0 : AH} {d : Nat} {p : Int32} {n : Nat} (hK : KR G O ad S X L wn sl fl h) (hF : KF O h0 h) (h0r : L 0 = List.range (L 0).length) (hb0 : (L 0).length ≤ 12) (hsz : X.1 3 = nI n) (hn5 : n ≤ 5) (hwn : ∀ i, i < n → wn i = some (wf wn i) ∧ wf wn i < (L 0).length) : Ct Y_X11_list (d + 3) G 0 0 [.ref (ad 0 0), .int p] h (fun r h2 => r = some (.int (a_list X L p)) ∧ ((((0 < p ∧ p < nI (L 0).length) ∧ X.1 3 < 5) ∧ KR G O ad S (vf_upd X.1 3 (X.1 3 + 1), X.2) L (insW p.toNatClampNeg n wn) sl fl h2 ∧ KF O h0 h2) ∨ (¬ ((0 < p ∧ p < nI (L 0).length) ∧ X.1 3 < 5) ∧ KR G O ad S X L wn sl fl h2 ∧ KF O h0 h2))) := by
  refine Ct.ofn 0 rfl (Nat.le_of_ble_eq_true rfl) (by simp [Value.category]) ?_
  generalize hpost : (fun (r : Option Value) (h2 : AH) => r = some (.int (a_list X L p)) ∧ ((((0 < p ∧ p < nI (L 0).length) ∧ X.1 3 < 5) ∧ KR G O ad S (vf_upd X.1 3 (X.1 3 + 1), X.2) L (insW p.toNatClampNeg n wn) sl fl h2 ∧ KF O h0 h2) ∨ (¬ ((0 < p ∧ p < nI (L 0).length) ∧ X.1 3 < 5) ∧ KR G O ad S X L wn sl fl h2 ∧ KF O h0 h2))) = post
  show J Y_X11_list (d + 3) G 0 0 0 [some (.ref (ad 0 0)), some (.int p)] [] h post
  refine J.aload_n 1 dX11_list_0 rfl rfl ?_
  refine J.iload_n 2 dX11_list_1 rfl rfl ?_
  refine cv_X11_258 rfl 5 (c_isHut (p := p) hK (by omega)) dX11_list_2 rfl (hK.hut) rfl rfl (Nat.le_of_ble_eq_true rfl) (Nat.zero_le _) (Nat.zero_le _) (fun r h2 hp => ?_)
  obtain ⟨rfl, rfl⟩ := hp
  refine J.if_ne 10 8 dX11_list_5 (by decide) rfl (fun c1 => ?_) (fun c1 => ?_)
  · skip
    have hok := ib_n.mp c1
    have ip := idx_of1 hok (show (L 0).length ≤ 100000 by omega)
    refine J.aload_n 11 dX11_list_10 rfl rfl ?_
    refine gf_X11_59 rfl 14 dX11_list_11 rfl (hK.hut) (v := .ref (ad 14 0)) rfl ?_
    refine gf_X11_271 rfl 17 dX11_list_14 rfl (hK.sea) (v := .int (X.1 3)) rfl ?_
    refine J.iconst 5 18 dX11_list_17 rfl (by decide) ?_
    refine J.icmp_lt 24 21 dX11_list_18 (by decide) rfl (fun c2 => ?_) (fun c2 => ?_)
    · skip
      have h5 := c2
      have hn : n < 5 := by rw [hsz] at h5; exact (nI_ltI (b := 5) (by omega) (by decide)).mp h5
      refine J.aload_n 25 dX11_list_24 rfl rfl ?_
      refine gf_X11_59 rfl 28 dX11_list_25 rfl (hK.hut) (v := .ref (ad 14 0)) rfl ?_
      refine J.aload_n 29 dX11_list_28 rfl rfl ?_
      refine gf_X11_10 rfl 32 dX11_list_29 rfl (hK.hut) (v := .ref (ad 1 0)) rfl ?_
      refine J.iload_n 33 dX11_list_32 rfl rfl ?_
      have kg := hK.get (d := d) (r := 0) (i := p.toNatClampNeg) (by omega) (rng_get h0r ip.1)
      rw [ip.2] at kg
      refine cv_X11_132 rfl 36 kg dX11_list_33 rfl (hK.listOb (r := 0) (by omega)).choose_spec rfl rfl (Nat.le_of_ble_eq_true rfl) (Nat.zero_le _) (Nat.zero_le _) (fun r h2 hp => ?_)
      obtain ⟨rfl, rfl⟩ := hp
      refine cc_X11_66 rfl 39 dX11_list_36 rfl (hK.place ip.1) ?_
      refine cv_X11_273 rfl 42 (c_want (h0 := h0) (g := p.toNatClampNeg) hK hF ip.1 hb0 hsz hn hwn) dX11_list_39 rfl (hK.sea) rfl rfl (Nat.le_of_ble_eq_true rfl) (Nat.zero_le _) (Nat.zero_le _) (fun r h hp => ?_)
      obtain ⟨rfl, hK, hF⟩ := hp
      refine J.aload_n 43 dX11_list_42 rfl rfl ?_
      refine gf_X11_59 rfl 46 dX11_list_43 rfl (hK.hut) (v := .ref (ad 14 0)) rfl ?_
      refine gf_X11_271 rfl 49 dX11_list_46 rfl (hK.sea) (v := .int (X.1 3 + 1)) rfl ?_
      exact J.iret dX11_list_49 rfl (by rw [← hpost]; exact ⟨by rw [a_list, if_pos hok, if_pos h5], Or.inl ⟨⟨hok, h5⟩, hK, hF⟩⟩)
    · skip
      have h5 := c2
      refine J.bipush (-2) 23 dX11_list_21 rfl (by decide) ?_
      exact J.iret dX11_list_23 rfl (by rw [← hpost]; exact ⟨by rw [a_list, if_pos hok, if_neg h5], Or.inr ⟨fun z => h5 z.2, hK, hF⟩⟩)
  · skip
    have hok := ib_0.mp c1
    refine J.iconst (-1) 9 dX11_list_8 rfl (by decide) ?_
    exact J.iret dX11_list_9 rfl (by rw [← hpost]; exact ⟨by rw [a_list, if_neg hok], Or.inr ⟨fun z => hok z.1, hK, hF⟩⟩)
