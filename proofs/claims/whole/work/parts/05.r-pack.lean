theorem c_gather {G : Nat → Nat} {O : Nat → Prop} {ad : Nat → Nat → Nat} {S X : MS} {L : Nat → List Nat} {wn : Nat → Option Nat} {sl : Nat → Nat} {fl : Nat} {h h0 : AH} {d : Nat} {p : Int32} (hK : KR G O ad S X L wn sl fl h) (hF : KF O h0 h) (h3r : L 3 = List.range (L 3).length) (hb3 : (L 3).length ≤ 80) : Ct Y_X4_gather (d + 7) G (L 3).length (170 * (L 3).length) [.ref (ad 13 0), .ref (ad 1 3), .int p] h (fun r h2 => r = none ∧ KR G O ad S X (lset L 7 (psel S p (L 3).length)) wn sl fl h2 ∧ KF O h0 h2) := by
  refine Ct.ofn 2 rfl (Nat.le_of_ble_eq_true rfl) (by simp [Value.category]) ?_
  generalize hpost : (fun (r : Option Value) (h2 : AH) => r = none ∧ KR G O ad S X (lset L 7 (psel S p (L 3).length)) wn sl fl h2 ∧ KF O h0 h2) = post
  show J Y_X4_gather (d + 7) G (L 3).length (170 * (L 3).length) 0 [some (.ref (ad 13 0)), some (.ref (ad 1 3)), some (.int p), none, none] [] h post
  refine J.aload_n 1 dX4_gather_0 rfl rfl ?_
  refine gf_X4_12 rfl 4 dX4_gather_1 rfl (hK.pack) (v := .ref (ad 1 7)) rfl ?_
  refine J.neG (hK.listOb (r := 7) (by omega)).choose_spec (fun hg => ?_)
  refine cv_X4_25 rfl 7 (hK.clear (h0 := h0) (r := 7) hF (by omega) (by omega) hg) dX4_gather_4 rfl (hK.listOb (r := 7) (by omega)).choose_spec rfl rfl (Nat.le_of_ble_eq_true rfl) (Nat.zero_le _) (Nat.zero_le _) (fun r h hp => ?_)
  obtain ⟨rfl, hK, hF⟩ := hp
  refine J.iconst 0 8 dX4_gather_7 rfl (by decide) ?_
  refine J.ist_3 9 dX4_gather_8 rfl (by decide) ?_
  have loop9 : ∀ (j k : Nat) (x3 : Int32), k ≤ (L 3).length → (L 3).length + 1 ≤ k + j → x3 = nI k → ∀ lx : List Nat, (lx = psel S p k) → ∀ h, KR G O ad S X (lset L 7 lx) wn sl fl h → KF O h0 h → J Y_X4_gather (d + 7) G ((L 3).length - k) (170 * ((L 3).length - k)) 9 [some (.ref (ad 13 0)), some (.ref (ad 1 3)), some (.int p), some (.int x3), none] [] h post := by
    intro j
    induction j with
    | zero => intro k _ g1 g2; exact absurd g2 (by omega)
    | succ j ih =>
      intro k x3 g1 g2 e3 lx elx h hK hF
      have q3 : x3.toNatClampNeg = k := by rw [e3]; exact nI_clamp (by omega)
      refine J.iload_n 10 dX4_gather_9 rfl rfl ?_
      refine J.aload_n 11 dX4_gather_10 rfl rfl ?_
      have ks := hK.size (d := d + 6) (r := 3) (by omega)
      rw [lset_n (by omega)] at ks
      refine cv_X4_28 rfl 14 ks dX4_gather_11 rfl (hK.listOb (r := 3) (by omega)).choose_spec rfl rfl (Nat.le_of_ble_eq_true rfl) (Nat.zero_le _) (Nat.zero_le _) (fun r h2 hp => ?_)
      obtain ⟨rfl, rfl⟩ := hp
      refine J.icmp_ge 61 17 dX4_gather_14 (by decide) rfl (fun c1 => ?_) (fun c1 => ?_)
      · skip
        have hk : k = (L 3).length := Nat.le_antisymm g1 ((nI_leI (by omega) (by omega)).mp (by have z := c1; rw [e3] at z; exact z))
        exact J.vret dX4_gather_61 rfl (by rw [← hpost]; exact ⟨rfl, by rw [← hk, ← elx]; exact hK, hF⟩)
      · skip
        have hk : k < (L 3).length := Nat.lt_of_not_le (fun y => c1 (by rw [e3]; exact nI_le y (by omega)))
        have hin : vp_in x3 80 := by rw [e3]; exact vp_in_nI (by omega) (by decide)
        have hk3 : k < ((lset L 7 lx) 3).length := by rw [lset_n (by decide)]; exact hk
        refine J.aload_n 18 dX4_gather_17 rfl rfl ?_
        refine J.iload_n 19 dX4_gather_18 rfl rfl ?_
        have kg := hK.get (d := d + 4) (r := 3) (i := k) (by omega) (by rw [lset_n (by decide)]; exact rng_get h3r hk)
        rw [← e3] at kg
        refine cv_X4_32 rfl 22 kg dX4_gather_19 rfl (hK.listOb (r := 3) (by omega)).choose_spec rfl rfl (Nat.le_of_ble_eq_true rfl) (Nat.zero_le _) (Nat.zero_le _) (fun r h2 hp => ?_)
        obtain ⟨rfl, rfl⟩ := hp
        refine cc_X4_36 rfl 25 dX4_gather_22 rfl (hK.load hk3) ?_
        refine J.ast_4 27 dX4_gather_25 rfl (by decide) ?_
        refine J.aload 29 dX4_gather_27 rfl rfl ?_
        refine J.iload_n 30 dX4_gather_29 rfl rfl ?_
        refine cv_X4_38 rfl 33 (c_waitsFor (i := k) (p := p) hK hk3) dX4_gather_30 rfl (hK.load hk3) rfl rfl (Nat.le_of_ble_eq_true rfl) (Nat.zero_le _) (Nat.zero_le _) (fun r h2 hp => ?_)
        obtain ⟨rfl, rfl⟩ := hp
        refine J.if_eq 55 36 dX4_gather_33 (by decide) rfl (fun c2 => ?_) (fun c2 => ?_)
        · skip
          refine J.iinc_3 1 58 dX4_gather_55 rfl (by decide) (by decide) ?_
          refine J.goto 9 dX4_gather_58 (by decide) ?_
          refine J.fg_4 ?_
          refine J.room (kc2 := (L 3).length - (k + 1)) (ks2 := 170 * ((L 3).length - (k + 1))) (by omega) (by omega) ?_
          exact ih (k + 1) _ (by omega) (by omega) (by rw [e3]; exact nI_1 k) _ (by rw [psel_f (fun z => ib_0.mp c2 ⟨z.2.1, z.1⟩)]; exact elx) _ hK hF
        · skip
          refine J.aload 38 dX4_gather_36 rfl rfl ?_
          refine gf_X4_42 rfl 41 dX4_gather_38 rfl (hK.load hk3) (v := .int (S.2 20 k)) rfl ?_
          refine J.iconst 4 42 dX4_gather_41 rfl (by decide) ?_
          refine J.icmp_eq 55 45 dX4_gather_42 (by decide) rfl (fun c3 => ?_) (fun c3 => ?_)
          · skip
            refine J.iinc_3 1 58 dX4_gather_55 rfl (by decide) (by decide) ?_
            refine J.goto 9 dX4_gather_58 (by decide) ?_
            refine J.fg_4 ?_
            refine J.room (kc2 := (L 3).length - (k + 1)) (ks2 := 170 * ((L 3).length - (k + 1))) (by omega) (by omega) ?_
            exact ih (k + 1) _ (by omega) (by omega) (by rw [e3]; exact nI_1 k) _ (by rw [psel_f (fun z => z.2.2 c3)]; exact elx) _ hK hF
          · skip
            refine J.aload_n 46 dX4_gather_45 rfl rfl ?_
            refine gf_X4_12 rfl 49 dX4_gather_46 rfl (hK.pack) (v := .ref (ad 1 7)) rfl ?_
            refine J.aload 51 dX4_gather_49 rfl rfl ?_
            have ka := hK.add (M := 170) (d := d) (h0 := h0) (r := 7) (x := k) hF (by omega) (by omega) (by rw [lset_s, elx]; have := psel_len S p k; omega) (by rw [lset_s, elx]; have := psel_len S p k; omega) (show cs _ _ _ _ _ _ _ 6 _ ≠ none from by rw [cs_load hk3]; exact fun z => by cases z)
            rw [show ek 7 = 6 from rfl, lset_lset, lset_s] at ka
            refine cv_X4_46 rfl 54 ka dX4_gather_51 rfl (hK.listOb (r := 7) (by omega)).choose_spec rfl rfl (Nat.le_of_ble_eq_true rfl) (by omega) (by omega) (fun r h hp => ?_)
            obtain ⟨rfl, hK, hF⟩ := hp
            refine J.pop 55 dX4_gather_54 rfl rfl ?_
            refine J.iinc_3 1 58 dX4_gather_55 rfl (by decide) (by decide) ?_
            refine J.goto 9 dX4_gather_58 (by decide) ?_
            refine J.fg_4 ?_
            refine J.room (kc2 := (L 3).length - (k + 1)) (ks2 := 170 * ((L 3).length - (k + 1))) (by omega) (by omega) ?_
            exact ih (k + 1) _ (by omega) (by omega) (by rw [e3]; exact nI_1 k) _ (by rw [psel_t ⟨(ib_n.mp c2).2, (ib_n.mp c2).1, c3⟩, elx]) _ hK hF
  exact loop9 ((L 3).length + 1) 0 _ (Nat.zero_le _) (by omega) rfl ([]) rfl _ hK hF
def ptL (rc : Nat → Int32 → Int32) (ft : Nat → Prop) [DecidablePred ft] (few : Int32) : Nat → Int32
  | 0 => few
  | v + 1 => if ft v then rc v (ptL rc ft few v) else ptL rc ft few v
def ptF (W R : Nat → Int32) (pm : Nat) (lift : Int32) : Nat → (Nat → Int32) → (Nat → Int32) → Nat → Int32 → Int32
  | 0, _, _, u, few => if nI u < few then nI u else few
  | f + 1, w, r, u, few => if nI u < few then ptL (fun v fw => ptF W R pm lift f (upd w v (w v + W (pm - (f + 1)))) (upd r v (r v + R (pm - (f + 1)))) (if v = u then u + 1 else u) fw) (fun v => w v + W (pm - (f + 1)) ≤ lift ∧ r v + R (pm - (f + 1)) ≤ 9) few (min (u + 1) 9) else few
def iR (S : MS) (l : List Nat) (i : Nat) : Int32 := if S.2 20 (l.getD i 0) = 3 ∨ S.2 20 (l.getD i 0) = 1 then 9 else S.2 19 (l.getD i 0)
def ptX (S X : MS) (l : List Nat) (f u : Nat) (P : Int32) : MS := (vf_upd X.1 2 (ptF (iW S l) (iR S l) l.length (X.1 1) f (X.2 3) (X.2 4) u P), X.2)
theorem vu_u {f : Nat → Int32} {k : Nat} {a b : Int32} : vf_upd (vf_upd f k a) k b = vf_upd f k b := by
  funext x
  simp only [vf_upd]
  split <;> rfl
theorem vu_id {f : Nat → Int32} {k : Nat} : vf_upd f k (f k) = f := by
  funext x
  simp only [vf_upd]
  split
  · rename_i e; rw [e]
  · rfl
theorem pt_rest {x : Nat → Nat → Int32} {k : Nat} {a b : Int32} : u2 (u2 (u2 (u2 x 3 k (x 3 k + a)) 4 k (x 4 k + b)) 3 k (upd (x 3) k (x 3 k + a) k - a)) 4 k (upd (x 4) k (x 4 k + b) k - b) = x := by
  rw [pk_us, pk_us, Int32.add_sub_cancel, Int32.add_sub_cancel]
  funext j i
  by_cases e4 : j = 4
  · subst e4
    rw [u2_s, u2_n (by decide), u2_s]
    by_cases ei : i = k
    · rw [ei, pk_us]
    · rw [pk_un ei, pk_un ei, u2_n (by decide)]
  · rw [u2_n e4]
    by_cases e3 : j = 3
    · subst e3
      rw [u2_s, u2_n (by decide), u2_s]
      by_cases ei : i = k
      · rw [ei, pk_us]
      · rw [pk_un ei, pk_un ei]
    · rw [u2_n e3, u2_n e4, u2_n e3]
theorem c_putZ {G : Nat → Nat} {O : Nat → Prop} {ad : Nat → Nat → Nat} {S X : MS} {L : Nat → List Nat} {wn : Nat → Option Nat} {sl : Nat → Nat} {fl : Nat} {h h0 : AH} {d : Nat} {P : Int32} {a u : Nat} (hK : KR G O ad S (vf_upd X.1 2 P, X.2) L wn sl fl h) (hF : KF O h0 h) (ha : a = (L 7).length) (ha9 : a ≤ 9) : Ct Y_X4_putFrom (d + 4) G 0 0 [.ref (ad 13 0), .int (nI a), .int (nI u)] h (fun r h2 => r = none ∧ KR G O ad S (ptX S X (L 7) 0 u P) L wn sl fl h2 ∧ KF O h0 h2) := by
  refine Ct.ofn 3 rfl (Nat.le_of_ble_eq_true rfl) (by simp [Value.category]) ?_
  generalize hpost : (fun (r : Option Value) (h2 : AH) => r = none ∧ KR G O ad S (ptX S X (L 7) 0 u P) L wn sl fl h2 ∧ KF O h0 h2) = post
  show J Y_X4_putFrom (d + 4) G 0 0 0 [some (.ref (ad 13 0)), some (.int (nI a)), some (.int (nI u)), none, none, none] [] h post
  refine J.iload_n 1 dX4_putFrom_0 rfl rfl ?_
  refine J.aload_n 2 dX4_putFrom_1 rfl rfl ?_
  refine gf_X4_56 rfl 5 dX4_putFrom_2 rfl (hK.pack) (v := .int P) rfl ?_
  refine J.icmp_lt 9 8 dX4_putFrom_5 (by decide) rfl (fun c1 => ?_) (fun c1 => ?_)
  · skip
    have h1 := c1
    refine J.iload_n 10 dX4_putFrom_9 rfl rfl ?_
    refine J.aload_n 11 dX4_putFrom_10 rfl rfl ?_
    refine gf_X4_12 rfl 14 dX4_putFrom_11 rfl (hK.pack) (v := .ref (ad 1 7)) rfl ?_
    refine cv_X4_28 rfl 17 (hK.size (by omega)) dX4_putFrom_14 rfl (hK.listOb (r := 7) (by omega)).choose_spec rfl rfl (Nat.le_of_ble_eq_true rfl) (Nat.zero_le _) (Nat.zero_le _) (fun r h2 hp => ?_)
    obtain ⟨rfl, rfl⟩ := hp
    refine J.icmp_lt 26 20 dX4_putFrom_17 (by decide) rfl (fun c2 => ?_) (fun c2 => ?_)
    · skip
      exact absurd c2 (by rw [ha]; exact fun z => Int32.lt_irrefl z)
    · skip
      refine J.aload_n 21 dX4_putFrom_20 rfl rfl ?_
      refine J.iload_n 22 dX4_putFrom_21 rfl rfl ?_
      refine pf_X4_56 rfl 25 dX4_putFrom_22 rfl (hK.pack) (Nat.le_of_ble_eq_true rfl) ?_
      refine ks_13_4 hK hF (fun h hK hF => ?_)
      exact J.vret dX4_putFrom_25 rfl (by rw [← hpost]; exact ⟨rfl, by rw [ptX, ptF, if_pos h1]; rw [vu_u] at hK; exact hK, hF⟩)
  · skip
    have h1 := c1
    exact J.vret dX4_putFrom_8 rfl (by rw [← hpost]; exact ⟨rfl, by rw [ptX, ptF, if_neg h1]; exact hK, hF⟩)
theorem c_putS {G : Nat → Nat} {O : Nat → Prop} {ad : Nat → Nat → Nat} {S X : MS} {L : Nat → List Nat} {wn : Nat → Option Nat} {sl : Nat → Nat} {fl : Nat} {h h0 : AH} {d : Nat} {P : Int32} {a u : Nat} {f : Nat} (hK : KR G O ad S (vf_upd X.1 2 P, X.2) L wn sl fl h) (hF : KF O h0 h) (ha : a + (f + 1) = (L 7).length) (ha9 : (L 7).length ≤ 9) (hu : u ≤ a) (ihf : ∀ (X : MS) (P : Int32) (u : Nat) (h : AH), u ≤ a + 1 → KR G O ad S (vf_upd X.1 2 P, X.2) L wn sl fl h → KF O h0 h → Ct Y_X4_putFrom (d + 3) G 0 0 [.ref (ad 13 0), .int (nI (a + 1)), .int (nI u)] h (fun r h2 => r = none ∧ KR G O ad S (ptX S X (L 7) f u P) L wn sl fl h2 ∧ KF O h0 h2)) : Ct Y_X4_putFrom (d + 4) G 0 0 [.ref (ad 13 0), .int (nI a), .int (nI u)] h (fun r h2 => r = none ∧ KR G O ad S (ptX S X (L 7) (f + 1) u P) L wn sl fl h2 ∧ KF O h0 h2) := by
  refine Ct.ofn 3 rfl (Nat.le_of_ble_eq_true rfl) (by simp [Value.category]) ?_
  generalize hpost : (fun (r : Option Value) (h2 : AH) => r = none ∧ KR G O ad S (ptX S X (L 7) (f + 1) u P) L wn sl fl h2 ∧ KF O h0 h2) = post
  show J Y_X4_putFrom (d + 4) G 0 0 0 [some (.ref (ad 13 0)), some (.int (nI a)), some (.int (nI u)), none, none, none] [] h post
  refine J.iload_n 1 dX4_putFrom_0 rfl rfl ?_
  refine J.aload_n 2 dX4_putFrom_1 rfl rfl ?_
  refine gf_X4_56 rfl 5 dX4_putFrom_2 rfl (hK.pack) (v := .int P) rfl ?_
  refine J.icmp_lt 9 8 dX4_putFrom_5 (by decide) rfl (fun c1 => ?_) (fun c1 => ?_)
  · skip
    have h1 := c1
    refine J.iload_n 10 dX4_putFrom_9 rfl rfl ?_
    refine J.aload_n 11 dX4_putFrom_10 rfl rfl ?_
    refine gf_X4_12 rfl 14 dX4_putFrom_11 rfl (hK.pack) (v := .ref (ad 1 7)) rfl ?_
    refine cv_X4_28 rfl 17 (hK.size (by omega)) dX4_putFrom_14 rfl (hK.listOb (r := 7) (by omega)).choose_spec rfl rfl (Nat.le_of_ble_eq_true rfl) (Nat.zero_le _) (Nat.zero_le _) (fun r h2 hp => ?_)
    obtain ⟨rfl, rfl⟩ := hp
    refine J.icmp_lt 26 20 dX4_putFrom_17 (by decide) rfl (fun c2 => ?_) (fun c2 => ?_)
    · skip
      refine J.aload_n 27 dX4_putFrom_26 rfl rfl ?_
      refine gf_X4_12 rfl 30 dX4_putFrom_27 rfl (hK.pack) (v := .ref (ad 1 7)) rfl ?_
      refine J.iload_n 31 dX4_putFrom_30 rfl rfl ?_
      obtain ⟨y, hy⟩ : ∃ y, (L 7)[a]? = some y := ⟨_, List.getElem?_eq_getElem (show a < (L 7).length by omega)⟩
      have kg := hK.get (d := d + 1) (by omega) hy
      refine cv_X4_32 rfl 34 kg dX4_putFrom_31 rfl (hK.listOb (r := 7) (by omega)).choose_spec rfl rfl (Nat.le_of_ble_eq_true rfl) (Nat.zero_le _) (Nat.zero_le _) (fun r h2 hp => ?_)
      obtain ⟨rfl, rfl⟩ := hp
      refine cc_X4_36 rfl 37 dX4_putFrom_34 rfl (hK.load (hK.mem6 (by omega) rfl hy)) ?_
      refine J.ast_3 38 dX4_putFrom_37 rfl (by decide) ?_
      refine J.aload_n 39 dX4_putFrom_38 rfl rfl ?_
      refine cv_X4_63 rfl 42 (c_alone (i := y) hK (hK.mem6 (by omega) rfl hy)) dX4_putFrom_39 rfl (hK.load (hK.mem6 (by omega) rfl hy)) rfl rfl (Nat.le_of_ble_eq_true rfl) (Nat.zero_le _) (Nat.zero_le _) (fun r h2 hp => ?_)
      obtain ⟨rfl, rfl⟩ := hp
      refine J.if_eq 50 45 dX4_putFrom_42 (by decide) rfl (fun c3 => ?_) (fun c3 => ?_)
      · skip
        have eW : iW S (L 7) ((L 7).length - (f + 1)) = S.2 18 y := by rw [show (L 7).length - (f + 1) = a by omega, iW, getD_of hy]
        have eR : iR S (L 7) ((L 7).length - (f + 1)) = S.2 19 y := by rw [show (L 7).length - (f + 1) = a by omega, iR, getD_of hy, if_neg (ib_0.mp c3)]
        refine J.aload_n 51 dX4_putFrom_50 rfl rfl ?_
        refine gf_X4_67 rfl 54 dX4_putFrom_51 rfl (hK.load (hK.mem6 (by omega) rfl hy)) (v := .int (S.2 19 y)) rfl ?_
        refine J.ist_4 56 dX4_putFrom_54 rfl (by decide) ?_
        refine J.iconst 0 57 dX4_putFrom_56 rfl (by decide) ?_
        refine J.ist_5 59 dX4_putFrom_57 rfl (by decide) ?_
        have loop59 : ∀ (j k : Nat) (x5 : Int32), k ≤ (min (u + 1) 9) → (min (u + 1) 9) + 1 ≤ k + j → x5 = nI k → ∀ Q : Int32, (Q = ptL (fun v fw => ptF (iW S (L 7)) (iR S (L 7)) (L 7).length (X.1 1) f (upd (X.2 3) v (X.2 3 v + iW S (L 7) ((L 7).length - (f + 1)))) (upd (X.2 4) v (X.2 4 v + iR S (L 7) ((L 7).length - (f + 1)))) (if v = u then u + 1 else u) fw) (fun v => X.2 3 v + iW S (L 7) ((L 7).length - (f + 1)) ≤ X.1 1 ∧ X.2 4 v + iR S (L 7) ((L 7).length - (f + 1)) ≤ 9) P k) → ∀ h, KR G O ad S (vf_upd X.1 2 Q, X.2) L wn sl fl h → KF O h0 h → J Y_X4_putFrom (d + 4) G 0 0 59 [some (.ref (ad 13 0)), some (.int (nI a)), some (.int (nI u)), some (.ref (ad 6 y)), some (.int (S.2 19 y)), some (.int x5)] [] h post := by
          intro j
          induction j with
          | zero => intro k _ g1 g2; exact absurd g2 (by omega)
          | succ j ih =>
            intro k x5 g1 g2 e5 Q eQ h hK hF
            have q5 : x5.toNatClampNeg = k := by rw [e5]; exact nI_clamp (by omega)
            refine J.iload 61 dX4_putFrom_59 rfl rfl ?_
            refine J.iload_n 62 dX4_putFrom_61 rfl rfl ?_
            refine J.icmp_gt 184 65 dX4_putFrom_62 (by decide) rfl (fun c4 => ?_) (fun c4 => ?_)
            · skip
              have hk : k = min (u + 1) 9 := by have z := c4; rw [e5] at z; have := (nI_ltI (by omega) (by omega)).mp z; omega
              exact J.vret dX4_putFrom_184 rfl (by rw [← hpost]; exact ⟨rfl, by rw [ptX, ptF, if_pos h1, ← hk, ← eQ]; exact hK, hF⟩)
            · skip
              have hku : k ≤ u := by refine Nat.le_of_not_lt (fun y => c4 ?_); rw [e5]; exact (nI_ltI (by omega) (by omega)).mpr y
              refine J.iload 67 dX4_putFrom_65 rfl rfl ?_
              refine J.bipush 9 69 dX4_putFrom_67 rfl (by decide) ?_
              refine J.icmp_ge 184 72 dX4_putFrom_69 (by decide) rfl (fun c5 => ?_) (fun c5 => ?_)
              · skip
                have hk : k = min (u + 1) 9 := by have z := c5; rw [e5] at z; have := (nI_leI (a := 9) (by omega) (by omega)).mp z; omega
                exact J.vret dX4_putFrom_184 rfl (by rw [← hpost]; exact ⟨rfl, by rw [ptX, ptF, if_pos h1, ← hk, ← eQ]; exact hK, hF⟩)
              · skip
                have hk : k < min (u + 1) 9 := by have : k < 9 := Nat.lt_of_not_le (fun y => c5 (by rw [e5]; exact nI_le (a := 9) y (by omega))); omega
                have hin : vp_in x5 9 := by rw [e5]; exact vp_in_nI (by omega) (by decide)
                refine J.aload_n 73 dX4_putFrom_72 rfl rfl ?_
                refine gf_X4_18 rfl 76 dX4_putFrom_73 rfl (hK.pack) (v := .ref (ad 15 6)) rfl ?_
                refine J.iload 78 dX4_putFrom_76 rfl rfl ?_
                refine J.iald2 k q5 (x := X.2 3 k) rfl 79 dX4_putFrom_78 rfl hK.arr6 (by assumption) ?_
                refine J.aload_n 80 dX4_putFrom_79 rfl rfl ?_
                refine gf_X4_50 rfl 83 dX4_putFrom_80 rfl (hK.load (hK.mem6 (by omega) rfl hy)) (v := .int (S.2 18 y)) rfl ?_
                refine J.iadd 84 dX4_putFrom_83 rfl ?_
                refine J.aload_n 85 dX4_putFrom_84 rfl rfl ?_
                refine gf_X4_53 rfl 88 dX4_putFrom_85 rfl (hK.pack) (v := .int (X.1 1)) rfl ?_
                refine J.icmp_gt 178 91 dX4_putFrom_88 (by decide) rfl (fun c6 => ?_) (fun c6 => ?_)
                · skip
                  refine J.iinc_5 1 181 dX4_putFrom_178 rfl (by decide) (by decide) ?_
                  refine J.goto 59 dX4_putFrom_181 (by decide) ?_
                  exact ih (k + 1) _ (by omega) (by omega) (by rw [e5]; exact nI_1 k) Q (by rw [ptL, if_neg (fun z => Int32.not_le.mpr c6 (by have z1 := z.1; have z2 := z.2; rw [eW] at z1; rw [eR] at z2; first | exact z1 | exact z2))]; exact eQ) _ hK hF
                · skip
                  refine J.aload_n 92 dX4_putFrom_91 rfl rfl ?_
                  refine gf_X4_22 rfl 95 dX4_putFrom_92 rfl (hK.pack) (v := .ref (ad 15 7)) rfl ?_
                  refine J.iload 97 dX4_putFrom_95 rfl rfl ?_
                  refine J.iald2 k q5 (x := X.2 4 k) rfl 98 dX4_putFrom_97 rfl hK.arr7 (by assumption) ?_
                  refine J.iload 100 dX4_putFrom_98 rfl rfl ?_
                  refine J.iadd 101 dX4_putFrom_100 rfl ?_
                  refine J.bipush 9 103 dX4_putFrom_101 rfl (by decide) ?_
                  refine J.icmp_gt 178 106 dX4_putFrom_103 (by decide) rfl (fun c7 => ?_) (fun c7 => ?_)
                  · skip
                    refine J.iinc_5 1 181 dX4_putFrom_178 rfl (by decide) (by decide) ?_
                    refine J.goto 59 dX4_putFrom_181 (by decide) ?_
                    exact ih (k + 1) _ (by omega) (by omega) (by rw [e5]; exact nI_1 k) Q (by rw [ptL, if_neg (fun z => Int32.not_le.mpr c7 (by have z1 := z.1; have z2 := z.2; rw [eW] at z1; rw [eR] at z2; first | exact z1 | exact z2))]; exact eQ) _ hK hF
                  · skip
                    refine J.aload_n 107 dX4_putFrom_106 rfl rfl ?_
                    refine gf_X4_18 rfl 110 dX4_putFrom_107 rfl (hK.pack) (v := .ref (ad 15 6)) rfl ?_
                    refine J.iload 112 dX4_putFrom_110 rfl rfl ?_
                    refine J.dup2 113 dX4_putFrom_112 rfl rfl rfl ?_
                    refine J.iald2 k q5 (x := X.2 3 k) rfl 114 dX4_putFrom_113 rfl hK.arr6 (by assumption) ?_
                    refine J.aload_n 115 dX4_putFrom_114 rfl rfl ?_
                    refine gf_X4_50 rfl 118 dX4_putFrom_115 rfl (hK.load (hK.mem6 (by omega) rfl hy)) (v := .int (S.2 18 y)) rfl ?_
                    refine J.iadd 119 dX4_putFrom_118 rfl ?_
                    refine J.iast2 k q5 120 dX4_putFrom_119 rfl hK.arr6 (by assumption) ?_
                    refine ks_15_6 hK hF (fun h hK hF => ?_)
                    refine J.aload_n 121 dX4_putFrom_120 rfl rfl ?_
                    refine gf_X4_22 rfl 124 dX4_putFrom_121 rfl (hK.pack) (v := .ref (ad 15 7)) rfl ?_
                    refine J.iload 126 dX4_putFrom_124 rfl rfl ?_
                    refine J.dup2 127 dX4_putFrom_126 rfl rfl rfl ?_
                    refine J.iald2 k q5 (x := X.2 4 k) rfl 128 dX4_putFrom_127 rfl hK.arr7 (by assumption) ?_
                    refine J.iload 130 dX4_putFrom_128 rfl rfl ?_
                    refine J.iadd 131 dX4_putFrom_130 rfl ?_
                    refine J.iast2 k q5 132 dX4_putFrom_131 rfl hK.arr7 (by assumption) ?_
                    refine ks_15_7 hK hF (fun h hK hF => ?_)
                    refine J.aload_n 133 dX4_putFrom_132 rfl rfl ?_
                    refine J.iload_n 134 dX4_putFrom_133 rfl rfl ?_
                    refine J.iconst 1 135 dX4_putFrom_134 rfl (by decide) ?_
                    refine J.iadd 136 dX4_putFrom_135 rfl ?_
                    refine J.iload 138 dX4_putFrom_136 rfl rfl ?_
                    refine J.iload_n 139 dX4_putFrom_138 rfl rfl ?_
                    refine J.icmp_ne 148 142 dX4_putFrom_139 (by decide) rfl (fun c8 => ?_) (fun c8 => ?_)
                    · skip
                      have hnu : ¬ k = u := fun z => c8 (by rw [e5, z])
                      refine J.iload_n 149 dX4_putFrom_148 rfl rfl ?_
                      have kp := ihf (X.1, u2 (u2 X.2 3 k ((X.2 3 k) + (S.2 18 y))) 4 k ((X.2 4 k) + (S.2 19 y))) Q u h (by omega) hK hF
                      rw [← nI_1 a] at kp
                      refine cv_X4_59 rfl 152 kp dX4_putFrom_149 rfl (hK.pack) rfl rfl (Nat.le_of_ble_eq_true rfl) (Nat.zero_le _) (Nat.zero_le _) (fun r h hp => ?_)
                      obtain ⟨rfl, hK, hF⟩ := hp
                      refine J.aload_n 153 dX4_putFrom_152 rfl rfl ?_
                      refine gf_X4_18 rfl 156 dX4_putFrom_153 rfl (hK.pack) (v := .ref (ad 15 6)) rfl ?_
                      refine J.iload 158 dX4_putFrom_156 rfl rfl ?_
                      refine J.dup2 159 dX4_putFrom_158 rfl rfl rfl ?_
                      refine J.iald2 k q5 (x := upd (X.2 3) k ((X.2 3 k) + (S.2 18 y)) k) rfl 160 dX4_putFrom_159 rfl hK.arr6 (by assumption) ?_
                      refine J.aload_n 161 dX4_putFrom_160 rfl rfl ?_
                      refine gf_X4_50 rfl 164 dX4_putFrom_161 rfl (hK.load (hK.mem6 (by omega) rfl hy)) (v := .int (S.2 18 y)) rfl ?_
                      refine J.isub 165 dX4_putFrom_164 rfl ?_
                      refine J.iast2 k q5 166 dX4_putFrom_165 rfl hK.arr6 (by assumption) ?_
                      refine ks_15_6 hK hF (fun h hK hF => ?_)
                      refine J.aload_n 167 dX4_putFrom_166 rfl rfl ?_
                      refine gf_X4_22 rfl 170 dX4_putFrom_167 rfl (hK.pack) (v := .ref (ad 15 7)) rfl ?_
                      refine J.iload 172 dX4_putFrom_170 rfl rfl ?_
                      refine J.dup2 173 dX4_putFrom_172 rfl rfl rfl ?_
                      refine J.iald2 k q5 (x := upd (X.2 4) k ((X.2 4 k) + (S.2 19 y)) k) rfl 174 dX4_putFrom_173 rfl hK.arr7 (by assumption) ?_
                      refine J.iload 176 dX4_putFrom_174 rfl rfl ?_
                      refine J.isub 177 dX4_putFrom_176 rfl ?_
                      refine J.iast2 k q5 178 dX4_putFrom_177 rfl hK.arr7 (by assumption) ?_
                      refine ks_15_7 hK hF (fun h hK hF => ?_)
                      refine J.iinc_5 1 181 dX4_putFrom_178 rfl (by decide) (by decide) ?_
                      refine J.goto 59 dX4_putFrom_181 (by decide) ?_
                      change KR G O ad S (vf_upd X.1 2 (ptF (iW S (L 7)) (iR S (L 7)) (L 7).length (X.1 1) f (upd (X.2 3) k (X.2 3 k + S.2 18 y)) (upd (X.2 4) k (X.2 4 k + S.2 19 y)) u Q), u2 (u2 (u2 (u2 X.2 3 k ((X.2 3 k) + (S.2 18 y))) 4 k ((X.2 4 k) + (S.2 19 y))) 3 k ((upd (X.2 3) k ((X.2 3 k) + (S.2 18 y)) k) - (S.2 18 y))) 4 k ((upd (X.2 4) k ((X.2 4 k) + (S.2 19 y)) k) - (S.2 19 y))) L wn sl fl h at hK
                      rw [pt_rest] at hK
                      exact ih (k + 1) _ (by omega) (by omega) (by rw [e5]; exact nI_1 k) (ptF (iW S (L 7)) (iR S (L 7)) (L 7).length (X.1 1) f (upd (X.2 3) k (X.2 3 k + S.2 18 y)) (upd (X.2 4) k (X.2 4 k + S.2 19 y)) u Q) (by rw [ptL, if_pos ⟨by rw [eW]; exact Int32.not_lt.mp c6, by rw [eR]; exact Int32.not_lt.mp c7⟩, ← eQ, eW, eR, if_neg hnu]) _ hK hF
                    · skip
                      have hnu : k = u := (nI_eq (by omega) (by omega)).mp (by rw [← e5]; exact c8)
                      refine J.iload_n 143 dX4_putFrom_142 rfl rfl ?_
                      refine J.iconst 1 144 dX4_putFrom_143 rfl (by decide) ?_
                      refine J.iadd 145 dX4_putFrom_144 rfl ?_
                      refine J.goto 149 dX4_putFrom_145 (by decide) ?_
                      have kp := ihf (X.1, u2 (u2 X.2 3 k ((X.2 3 k) + (S.2 18 y))) 4 k ((X.2 4 k) + (S.2 19 y))) Q (u + 1) h (by omega) hK hF
                      rw [← nI_1 a, ← nI_1 u] at kp
                      refine cv_X4_59 rfl 152 kp dX4_putFrom_149 rfl (hK.pack) rfl rfl (Nat.le_of_ble_eq_true rfl) (Nat.zero_le _) (Nat.zero_le _) (fun r h hp => ?_)
                      obtain ⟨rfl, hK, hF⟩ := hp
                      refine J.aload_n 153 dX4_putFrom_152 rfl rfl ?_
                      refine gf_X4_18 rfl 156 dX4_putFrom_153 rfl (hK.pack) (v := .ref (ad 15 6)) rfl ?_
                      refine J.iload 158 dX4_putFrom_156 rfl rfl ?_
                      refine J.dup2 159 dX4_putFrom_158 rfl rfl rfl ?_
                      refine J.iald2 k q5 (x := upd (X.2 3) k ((X.2 3 k) + (S.2 18 y)) k) rfl 160 dX4_putFrom_159 rfl hK.arr6 (by assumption) ?_
                      refine J.aload_n 161 dX4_putFrom_160 rfl rfl ?_
                      refine gf_X4_50 rfl 164 dX4_putFrom_161 rfl (hK.load (hK.mem6 (by omega) rfl hy)) (v := .int (S.2 18 y)) rfl ?_
                      refine J.isub 165 dX4_putFrom_164 rfl ?_
                      refine J.iast2 k q5 166 dX4_putFrom_165 rfl hK.arr6 (by assumption) ?_
                      refine ks_15_6 hK hF (fun h hK hF => ?_)
                      refine J.aload_n 167 dX4_putFrom_166 rfl rfl ?_
                      refine gf_X4_22 rfl 170 dX4_putFrom_167 rfl (hK.pack) (v := .ref (ad 15 7)) rfl ?_
                      refine J.iload 172 dX4_putFrom_170 rfl rfl ?_
                      refine J.dup2 173 dX4_putFrom_172 rfl rfl rfl ?_
                      refine J.iald2 k q5 (x := upd (X.2 4) k ((X.2 4 k) + (S.2 19 y)) k) rfl 174 dX4_putFrom_173 rfl hK.arr7 (by assumption) ?_
                      refine J.iload 176 dX4_putFrom_174 rfl rfl ?_
                      refine J.isub 177 dX4_putFrom_176 rfl ?_
                      refine J.iast2 k q5 178 dX4_putFrom_177 rfl hK.arr7 (by assumption) ?_
                      refine ks_15_7 hK hF (fun h hK hF => ?_)
                      refine J.iinc_5 1 181 dX4_putFrom_178 rfl (by decide) (by decide) ?_
                      refine J.goto 59 dX4_putFrom_181 (by decide) ?_
                      change KR G O ad S (vf_upd X.1 2 (ptF (iW S (L 7)) (iR S (L 7)) (L 7).length (X.1 1) f (upd (X.2 3) k (X.2 3 k + S.2 18 y)) (upd (X.2 4) k (X.2 4 k + S.2 19 y)) (u + 1) Q), u2 (u2 (u2 (u2 X.2 3 k ((X.2 3 k) + (S.2 18 y))) 4 k ((X.2 4 k) + (S.2 19 y))) 3 k ((upd (X.2 3) k ((X.2 3 k) + (S.2 18 y)) k) - (S.2 18 y))) 4 k ((upd (X.2 4) k ((X.2 4 k) + (S.2 19 y)) k) - (S.2 19 y))) L wn sl fl h at hK
                      rw [pt_rest] at hK
                      exact ih (k + 1) _ (by omega) (by omega) (by rw [e5]; exact nI_1 k) (ptF (iW S (L 7)) (iR S (L 7)) (L 7).length (X.1 1) f (upd (X.2 3) k (X.2 3 k + S.2 18 y)) (upd (X.2 4) k (X.2 4 k + S.2 19 y)) (u + 1) Q) (by rw [ptL, if_pos ⟨by rw [eW]; exact Int32.not_lt.mp c6, by rw [eR]; exact Int32.not_lt.mp c7⟩, ← eQ, eW, eR, if_pos hnu]) _ hK hF
        exact loop59 ((min (u + 1) 9) + 1) 0 _ (Nat.zero_le _) (by omega) rfl P rfl _ hK hF
      · skip
        have eW : iW S (L 7) ((L 7).length - (f + 1)) = S.2 18 y := by rw [show (L 7).length - (f + 1) = a by omega, iW, getD_of hy]
        have eR : iR S (L 7) ((L 7).length - (f + 1)) = 9 := by rw [show (L 7).length - (f + 1) = a by omega, iR, getD_of hy, if_pos (ib_n.mp c3)]
        refine J.bipush 9 47 dX4_putFrom_45 rfl (by decide) ?_
        refine J.goto 54 dX4_putFrom_47 (by decide) ?_
        refine J.ist_4 56 dX4_putFrom_54 rfl (by decide) ?_
        refine J.iconst 0 57 dX4_putFrom_56 rfl (by decide) ?_
        refine J.ist_5 59 dX4_putFrom_57 rfl (by decide) ?_
        have loop59 : ∀ (j k : Nat) (x5 : Int32), k ≤ (min (u + 1) 9) → (min (u + 1) 9) + 1 ≤ k + j → x5 = nI k → ∀ Q : Int32, (Q = ptL (fun v fw => ptF (iW S (L 7)) (iR S (L 7)) (L 7).length (X.1 1) f (upd (X.2 3) v (X.2 3 v + iW S (L 7) ((L 7).length - (f + 1)))) (upd (X.2 4) v (X.2 4 v + iR S (L 7) ((L 7).length - (f + 1)))) (if v = u then u + 1 else u) fw) (fun v => X.2 3 v + iW S (L 7) ((L 7).length - (f + 1)) ≤ X.1 1 ∧ X.2 4 v + iR S (L 7) ((L 7).length - (f + 1)) ≤ 9) P k) → ∀ h, KR G O ad S (vf_upd X.1 2 Q, X.2) L wn sl fl h → KF O h0 h → J Y_X4_putFrom (d + 4) G 0 0 59 [some (.ref (ad 13 0)), some (.int (nI a)), some (.int (nI u)), some (.ref (ad 6 y)), some (.int 9), some (.int x5)] [] h post := by
          intro j
          induction j with
          | zero => intro k _ g1 g2; exact absurd g2 (by omega)
          | succ j ih =>
            intro k x5 g1 g2 e5 Q eQ h hK hF
            have q5 : x5.toNatClampNeg = k := by rw [e5]; exact nI_clamp (by omega)
            refine J.iload 61 dX4_putFrom_59 rfl rfl ?_
            refine J.iload_n 62 dX4_putFrom_61 rfl rfl ?_
            refine J.icmp_gt 184 65 dX4_putFrom_62 (by decide) rfl (fun c9 => ?_) (fun c9 => ?_)
            · skip
              have hk : k = min (u + 1) 9 := by have z := c9; rw [e5] at z; have := (nI_ltI (by omega) (by omega)).mp z; omega
              exact J.vret dX4_putFrom_184 rfl (by rw [← hpost]; exact ⟨rfl, by rw [ptX, ptF, if_pos h1, ← hk, ← eQ]; exact hK, hF⟩)
            · skip
              have hku : k ≤ u := by refine Nat.le_of_not_lt (fun y => c9 ?_); rw [e5]; exact (nI_ltI (by omega) (by omega)).mpr y
              refine J.iload 67 dX4_putFrom_65 rfl rfl ?_
              refine J.bipush 9 69 dX4_putFrom_67 rfl (by decide) ?_
              refine J.icmp_ge 184 72 dX4_putFrom_69 (by decide) rfl (fun c10 => ?_) (fun c10 => ?_)
              · skip
                have hk : k = min (u + 1) 9 := by have z := c10; rw [e5] at z; have := (nI_leI (a := 9) (by omega) (by omega)).mp z; omega
                exact J.vret dX4_putFrom_184 rfl (by rw [← hpost]; exact ⟨rfl, by rw [ptX, ptF, if_pos h1, ← hk, ← eQ]; exact hK, hF⟩)
              · skip
                have hk : k < min (u + 1) 9 := by have : k < 9 := Nat.lt_of_not_le (fun y => c10 (by rw [e5]; exact nI_le (a := 9) y (by omega))); omega
                have hin : vp_in x5 9 := by rw [e5]; exact vp_in_nI (by omega) (by decide)
                refine J.aload_n 73 dX4_putFrom_72 rfl rfl ?_
                refine gf_X4_18 rfl 76 dX4_putFrom_73 rfl (hK.pack) (v := .ref (ad 15 6)) rfl ?_
                refine J.iload 78 dX4_putFrom_76 rfl rfl ?_
                refine J.iald2 k q5 (x := X.2 3 k) rfl 79 dX4_putFrom_78 rfl hK.arr6 (by assumption) ?_
                refine J.aload_n 80 dX4_putFrom_79 rfl rfl ?_
                refine gf_X4_50 rfl 83 dX4_putFrom_80 rfl (hK.load (hK.mem6 (by omega) rfl hy)) (v := .int (S.2 18 y)) rfl ?_
                refine J.iadd 84 dX4_putFrom_83 rfl ?_
                refine J.aload_n 85 dX4_putFrom_84 rfl rfl ?_
                refine gf_X4_53 rfl 88 dX4_putFrom_85 rfl (hK.pack) (v := .int (X.1 1)) rfl ?_
                refine J.icmp_gt 178 91 dX4_putFrom_88 (by decide) rfl (fun c11 => ?_) (fun c11 => ?_)
                · skip
                  refine J.iinc_5 1 181 dX4_putFrom_178 rfl (by decide) (by decide) ?_
                  refine J.goto 59 dX4_putFrom_181 (by decide) ?_
                  exact ih (k + 1) _ (by omega) (by omega) (by rw [e5]; exact nI_1 k) Q (by rw [ptL, if_neg (fun z => Int32.not_le.mpr c11 (by have z1 := z.1; have z2 := z.2; rw [eW] at z1; rw [eR] at z2; first | exact z1 | exact z2))]; exact eQ) _ hK hF
                · skip
                  refine J.aload_n 92 dX4_putFrom_91 rfl rfl ?_
                  refine gf_X4_22 rfl 95 dX4_putFrom_92 rfl (hK.pack) (v := .ref (ad 15 7)) rfl ?_
                  refine J.iload 97 dX4_putFrom_95 rfl rfl ?_
                  refine J.iald2 k q5 (x := X.2 4 k) rfl 98 dX4_putFrom_97 rfl hK.arr7 (by assumption) ?_
                  refine J.iload 100 dX4_putFrom_98 rfl rfl ?_
                  refine J.iadd 101 dX4_putFrom_100 rfl ?_
                  refine J.bipush 9 103 dX4_putFrom_101 rfl (by decide) ?_
                  refine J.icmp_gt 178 106 dX4_putFrom_103 (by decide) rfl (fun c12 => ?_) (fun c12 => ?_)
                  · skip
                    refine J.iinc_5 1 181 dX4_putFrom_178 rfl (by decide) (by decide) ?_
                    refine J.goto 59 dX4_putFrom_181 (by decide) ?_
                    exact ih (k + 1) _ (by omega) (by omega) (by rw [e5]; exact nI_1 k) Q (by rw [ptL, if_neg (fun z => Int32.not_le.mpr c12 (by have z1 := z.1; have z2 := z.2; rw [eW] at z1; rw [eR] at z2; first | exact z1 | exact z2))]; exact eQ) _ hK hF
                  · skip
                    refine J.aload_n 107 dX4_putFrom_106 rfl rfl ?_
                    refine gf_X4_18 rfl 110 dX4_putFrom_107 rfl (hK.pack) (v := .ref (ad 15 6)) rfl ?_
                    refine J.iload 112 dX4_putFrom_110 rfl rfl ?_
                    refine J.dup2 113 dX4_putFrom_112 rfl rfl rfl ?_
                    refine J.iald2 k q5 (x := X.2 3 k) rfl 114 dX4_putFrom_113 rfl hK.arr6 (by assumption) ?_
                    refine J.aload_n 115 dX4_putFrom_114 rfl rfl ?_
                    refine gf_X4_50 rfl 118 dX4_putFrom_115 rfl (hK.load (hK.mem6 (by omega) rfl hy)) (v := .int (S.2 18 y)) rfl ?_
                    refine J.iadd 119 dX4_putFrom_118 rfl ?_
                    refine J.iast2 k q5 120 dX4_putFrom_119 rfl hK.arr6 (by assumption) ?_
                    refine ks_15_6 hK hF (fun h hK hF => ?_)
                    refine J.aload_n 121 dX4_putFrom_120 rfl rfl ?_
                    refine gf_X4_22 rfl 124 dX4_putFrom_121 rfl (hK.pack) (v := .ref (ad 15 7)) rfl ?_
                    refine J.iload 126 dX4_putFrom_124 rfl rfl ?_
                    refine J.dup2 127 dX4_putFrom_126 rfl rfl rfl ?_
                    refine J.iald2 k q5 (x := X.2 4 k) rfl 128 dX4_putFrom_127 rfl hK.arr7 (by assumption) ?_
                    refine J.iload 130 dX4_putFrom_128 rfl rfl ?_
                    refine J.iadd 131 dX4_putFrom_130 rfl ?_
                    refine J.iast2 k q5 132 dX4_putFrom_131 rfl hK.arr7 (by assumption) ?_
                    refine ks_15_7 hK hF (fun h hK hF => ?_)
                    refine J.aload_n 133 dX4_putFrom_132 rfl rfl ?_
                    refine J.iload_n 134 dX4_putFrom_133 rfl rfl ?_
                    refine J.iconst 1 135 dX4_putFrom_134 rfl (by decide) ?_
                    refine J.iadd 136 dX4_putFrom_135 rfl ?_
                    refine J.iload 138 dX4_putFrom_136 rfl rfl ?_
                    refine J.iload_n 139 dX4_putFrom_138 rfl rfl ?_
                    refine J.icmp_ne 148 142 dX4_putFrom_139 (by decide) rfl (fun c13 => ?_) (fun c13 => ?_)
                    · skip
                      have hnu : ¬ k = u := fun z => c13 (by rw [e5, z])
                      refine J.iload_n 149 dX4_putFrom_148 rfl rfl ?_
                      have kp := ihf (X.1, u2 (u2 X.2 3 k ((X.2 3 k) + (S.2 18 y))) 4 k ((X.2 4 k) + 9)) Q u h (by omega) hK hF
                      rw [← nI_1 a] at kp
                      refine cv_X4_59 rfl 152 kp dX4_putFrom_149 rfl (hK.pack) rfl rfl (Nat.le_of_ble_eq_true rfl) (Nat.zero_le _) (Nat.zero_le _) (fun r h hp => ?_)
                      obtain ⟨rfl, hK, hF⟩ := hp
                      refine J.aload_n 153 dX4_putFrom_152 rfl rfl ?_
                      refine gf_X4_18 rfl 156 dX4_putFrom_153 rfl (hK.pack) (v := .ref (ad 15 6)) rfl ?_
                      refine J.iload 158 dX4_putFrom_156 rfl rfl ?_
                      refine J.dup2 159 dX4_putFrom_158 rfl rfl rfl ?_
                      refine J.iald2 k q5 (x := upd (X.2 3) k ((X.2 3 k) + (S.2 18 y)) k) rfl 160 dX4_putFrom_159 rfl hK.arr6 (by assumption) ?_
                      refine J.aload_n 161 dX4_putFrom_160 rfl rfl ?_
                      refine gf_X4_50 rfl 164 dX4_putFrom_161 rfl (hK.load (hK.mem6 (by omega) rfl hy)) (v := .int (S.2 18 y)) rfl ?_
                      refine J.isub 165 dX4_putFrom_164 rfl ?_
                      refine J.iast2 k q5 166 dX4_putFrom_165 rfl hK.arr6 (by assumption) ?_
                      refine ks_15_6 hK hF (fun h hK hF => ?_)
                      refine J.aload_n 167 dX4_putFrom_166 rfl rfl ?_
                      refine gf_X4_22 rfl 170 dX4_putFrom_167 rfl (hK.pack) (v := .ref (ad 15 7)) rfl ?_
                      refine J.iload 172 dX4_putFrom_170 rfl rfl ?_
                      refine J.dup2 173 dX4_putFrom_172 rfl rfl rfl ?_
                      refine J.iald2 k q5 (x := upd (X.2 4) k ((X.2 4 k) + 9) k) rfl 174 dX4_putFrom_173 rfl hK.arr7 (by assumption) ?_
                      refine J.iload 176 dX4_putFrom_174 rfl rfl ?_
                      refine J.isub 177 dX4_putFrom_176 rfl ?_
                      refine J.iast2 k q5 178 dX4_putFrom_177 rfl hK.arr7 (by assumption) ?_
                      refine ks_15_7 hK hF (fun h hK hF => ?_)
                      refine J.iinc_5 1 181 dX4_putFrom_178 rfl (by decide) (by decide) ?_
                      refine J.goto 59 dX4_putFrom_181 (by decide) ?_
                      change KR G O ad S (vf_upd X.1 2 (ptF (iW S (L 7)) (iR S (L 7)) (L 7).length (X.1 1) f (upd (X.2 3) k (X.2 3 k + S.2 18 y)) (upd (X.2 4) k (X.2 4 k + 9)) u Q), u2 (u2 (u2 (u2 X.2 3 k ((X.2 3 k) + (S.2 18 y))) 4 k ((X.2 4 k) + 9)) 3 k ((upd (X.2 3) k ((X.2 3 k) + (S.2 18 y)) k) - (S.2 18 y))) 4 k ((upd (X.2 4) k ((X.2 4 k) + 9) k) - 9)) L wn sl fl h at hK
                      rw [pt_rest] at hK
                      exact ih (k + 1) _ (by omega) (by omega) (by rw [e5]; exact nI_1 k) (ptF (iW S (L 7)) (iR S (L 7)) (L 7).length (X.1 1) f (upd (X.2 3) k (X.2 3 k + S.2 18 y)) (upd (X.2 4) k (X.2 4 k + 9)) u Q) (by rw [ptL, if_pos ⟨by rw [eW]; exact Int32.not_lt.mp c11, by rw [eR]; exact Int32.not_lt.mp c12⟩, ← eQ, eW, eR, if_neg hnu]) _ hK hF
                    · skip
                      have hnu : k = u := (nI_eq (by omega) (by omega)).mp (by rw [← e5]; exact c13)
                      refine J.iload_n 143 dX4_putFrom_142 rfl rfl ?_
                      refine J.iconst 1 144 dX4_putFrom_143 rfl (by decide) ?_
                      refine J.iadd 145 dX4_putFrom_144 rfl ?_
                      refine J.goto 149 dX4_putFrom_145 (by decide) ?_
                      have kp := ihf (X.1, u2 (u2 X.2 3 k ((X.2 3 k) + (S.2 18 y))) 4 k ((X.2 4 k) + 9)) Q (u + 1) h (by omega) hK hF
                      rw [← nI_1 a, ← nI_1 u] at kp
                      refine cv_X4_59 rfl 152 kp dX4_putFrom_149 rfl (hK.pack) rfl rfl (Nat.le_of_ble_eq_true rfl) (Nat.zero_le _) (Nat.zero_le _) (fun r h hp => ?_)
                      obtain ⟨rfl, hK, hF⟩ := hp
                      refine J.aload_n 153 dX4_putFrom_152 rfl rfl ?_
                      refine gf_X4_18 rfl 156 dX4_putFrom_153 rfl (hK.pack) (v := .ref (ad 15 6)) rfl ?_
                      refine J.iload 158 dX4_putFrom_156 rfl rfl ?_
                      refine J.dup2 159 dX4_putFrom_158 rfl rfl rfl ?_
                      refine J.iald2 k q5 (x := upd (X.2 3) k ((X.2 3 k) + (S.2 18 y)) k) rfl 160 dX4_putFrom_159 rfl hK.arr6 (by assumption) ?_
                      refine J.aload_n 161 dX4_putFrom_160 rfl rfl ?_
                      refine gf_X4_50 rfl 164 dX4_putFrom_161 rfl (hK.load (hK.mem6 (by omega) rfl hy)) (v := .int (S.2 18 y)) rfl ?_
                      refine J.isub 165 dX4_putFrom_164 rfl ?_
                      refine J.iast2 k q5 166 dX4_putFrom_165 rfl hK.arr6 (by assumption) ?_
                      refine ks_15_6 hK hF (fun h hK hF => ?_)
                      refine J.aload_n 167 dX4_putFrom_166 rfl rfl ?_
                      refine gf_X4_22 rfl 170 dX4_putFrom_167 rfl (hK.pack) (v := .ref (ad 15 7)) rfl ?_
                      refine J.iload 172 dX4_putFrom_170 rfl rfl ?_
                      refine J.dup2 173 dX4_putFrom_172 rfl rfl rfl ?_
                      refine J.iald2 k q5 (x := upd (X.2 4) k ((X.2 4 k) + 9) k) rfl 174 dX4_putFrom_173 rfl hK.arr7 (by assumption) ?_
                      refine J.iload 176 dX4_putFrom_174 rfl rfl ?_
                      refine J.isub 177 dX4_putFrom_176 rfl ?_
                      refine J.iast2 k q5 178 dX4_putFrom_177 rfl hK.arr7 (by assumption) ?_
                      refine ks_15_7 hK hF (fun h hK hF => ?_)
                      refine J.iinc_5 1 181 dX4_putFrom_178 rfl (by decide) (by decide) ?_
                      refine J.goto 59 dX4_putFrom_181 (by decide) ?_
                      change KR G O ad S (vf_upd X.1 2 (ptF (iW S (L 7)) (iR S (L 7)) (L 7).length (X.1 1) f (upd (X.2 3) k (X.2 3 k + S.2 18 y)) (upd (X.2 4) k (X.2 4 k + 9)) (u + 1) Q), u2 (u2 (u2 (u2 X.2 3 k ((X.2 3 k) + (S.2 18 y))) 4 k ((X.2 4 k) + 9)) 3 k ((upd (X.2 3) k ((X.2 3 k) + (S.2 18 y)) k) - (S.2 18 y))) 4 k ((upd (X.2 4) k ((X.2 4 k) + 9) k) - 9)) L wn sl fl h at hK
                      rw [pt_rest] at hK
                      exact ih (k + 1) _ (by omega) (by omega) (by rw [e5]; exact nI_1 k) (ptF (iW S (L 7)) (iR S (L 7)) (L 7).length (X.1 1) f (upd (X.2 3) k (X.2 3 k + S.2 18 y)) (upd (X.2 4) k (X.2 4 k + 9)) (u + 1) Q) (by rw [ptL, if_pos ⟨by rw [eW]; exact Int32.not_lt.mp c11, by rw [eR]; exact Int32.not_lt.mp c12⟩, ← eQ, eW, eR, if_pos hnu]) _ hK hF
        exact loop59 ((min (u + 1) 9) + 1) 0 _ (Nat.zero_le _) (by omega) rfl P rfl _ hK hF
    · skip
      exact absurd ((nI_ltI (by omega) (by omega)).mpr (show a < (L 7).length by omega)) c2
  · skip
    have h1 := c1
    exact J.vret dX4_putFrom_8 rfl (by rw [← hpost]; exact ⟨rfl, by rw [ptX, ptF, if_neg h1]; exact hK, hF⟩)
