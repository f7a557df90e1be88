theorem c_fltInit {d : Nat} {G : Nat → Nat} {h : AH} {a : Nat} {u v w x z : Int32} (ha : h a = some (Ob 1 [.int 0, .int 0, .int 0, .int 0, .int 0, .int 0, .int 0, .int 0, .int 0])) : Ct Y_X0_init (d + 1) G 0 0 [.ref a, .int u, .int v, .int w, .int x, .int z] h (fun r h2 => r = none ∧ h2 = hu h a (Ob 1 [.int u, .int v, .int w, .int x, .int (x + z), .int (x + z + 2 + z), .int 0, .int 0, .int 0])) := by
  refine Ct.ofn 0 rfl (Nat.le_of_ble_eq_true rfl) (by simp [Value.category]) ?_
  generalize hpost : (fun (r : Option Value) (h2 : AH) => r = none ∧ h2 = hu h a (Ob 1 [.int u, .int v, .int w, .int x, .int (x + z), .int (x + z + 2 + z), .int 0, .int 0, .int 0])) = post
  show J Y_X0_init (d + 1) G 0 0 0 [some (.ref a), some (.int u), some (.int v), some (.int w), some (.int x), some (.int z)] [] h post
  refine J.aload_n 1 dX0_init_0 rfl rfl ?_
  refine co_X0_3 rfl 4 dX0_init_1 rfl (Nat.le_of_ble_eq_true rfl) ?_
  refine J.aload_n 5 dX0_init_4 rfl rfl ?_
  refine J.iload_n 6 dX0_init_5 rfl rfl ?_
  refine pf_X0_9 rfl rfl 9 dX0_init_6 rfl ha (Nat.le_of_ble_eq_true rfl) ?_
  refine J.nmH (fun h1 eh1 => ?_)
  have f1 : h1 a = some (Ob 1 [.int u, .int 0, .int 0, .int 0, .int 0, .int 0, .int 0, .int 0, .int 0]) := by rw [eh1]; exact hu_s
  refine J.aload_n 10 dX0_init_9 rfl rfl ?_
  refine J.iload_n 11 dX0_init_10 rfl rfl ?_
  refine pf_X0_15 rfl rfl 14 dX0_init_11 rfl f1 (Nat.le_of_ble_eq_true rfl) ?_
  refine J.nmH (fun h2 eh2 => ?_)
  have f2 : h2 a = some (Ob 1 [.int u, .int v, .int 0, .int 0, .int 0, .int 0, .int 0, .int 0, .int 0]) := by rw [eh2]; exact hu_s
  refine J.aload_n 15 dX0_init_14 rfl rfl ?_
  refine J.iload_n 16 dX0_init_15 rfl rfl ?_
  refine pf_X0_18 rfl rfl 19 dX0_init_16 rfl f2 (Nat.le_of_ble_eq_true rfl) ?_
  refine J.nmH (fun h3 eh3 => ?_)
  have f3 : h3 a = some (Ob 1 [.int u, .int v, .int w, .int 0, .int 0, .int 0, .int 0, .int 0, .int 0]) := by rw [eh3]; exact hu_s
  refine J.aload_n 20 dX0_init_19 rfl rfl ?_
  refine J.iload 22 dX0_init_20 rfl rfl ?_
  refine pf_X0_21 rfl rfl 25 dX0_init_22 rfl f3 (Nat.le_of_ble_eq_true rfl) ?_
  refine J.nmH (fun h4 eh4 => ?_)
  have f4 : h4 a = some (Ob 1 [.int u, .int v, .int w, .int x, .int 0, .int 0, .int 0, .int 0, .int 0]) := by rw [eh4]; exact hu_s
  refine J.aload_n 26 dX0_init_25 rfl rfl ?_
  refine J.iload 28 dX0_init_26 rfl rfl ?_
  refine J.iload 30 dX0_init_28 rfl rfl ?_
  refine J.iadd 31 dX0_init_30 rfl ?_
  refine pf_X0_24 rfl rfl 34 dX0_init_31 rfl f4 (Nat.le_of_ble_eq_true rfl) ?_
  refine J.nmH (fun h5 eh5 => ?_)
  have f5 : h5 a = some (Ob 1 [.int u, .int v, .int w, .int x, .int (x + z), .int 0, .int 0, .int 0, .int 0]) := by rw [eh5]; exact hu_s
  refine J.aload_n 35 dX0_init_34 rfl rfl ?_
  refine J.iload 37 dX0_init_35 rfl rfl ?_
  refine J.iload 39 dX0_init_37 rfl rfl ?_
  refine J.iadd 40 dX0_init_39 rfl ?_
  refine J.iconst 2 41 dX0_init_40 rfl (by decide) ?_
  refine J.iadd 42 dX0_init_41 rfl ?_
  refine J.iload 44 dX0_init_42 rfl rfl ?_
  refine J.iadd 45 dX0_init_44 rfl ?_
  refine pf_X0_27 rfl rfl 48 dX0_init_45 rfl f5 (Nat.le_of_ble_eq_true rfl) ?_
  refine J.nmH (fun h6 eh6 => ?_)
  have f6 : h6 a = some (Ob 1 [.int u, .int v, .int w, .int x, .int (x + z), .int (((x + z) + 2) + z), .int 0, .int 0, .int 0]) := by rw [eh6]; exact hu_s
  exact J.vret dX0_init_48 rfl (by rw [← hpost]; exact ⟨rfl, by rw [eh6, eh5, eh4, eh3, eh2, eh1]; simp only [hu_hu]; rfl⟩)
theorem lset_lset {L : Nat → List Nat} {r : Nat} {a b : List Nat} : lset (lset L r a) r b = lset L r b := by
  funext x
  unfold lset
  split <;> rfl
def ridC (S : MS) (p t l : Int32) (k : Nat) (s : List Nat × Int32 × Int32) : Prop := (S.2 23 k = 0 ∧ S.2 17 k = p) ∧ S.2 20 k = 4 ∧ S.2 21 k ≤ t ∧ s.2.1 + S.2 18 k ≤ l ∧ s.2.2 + S.2 19 k ≤ 9
def ridS (S : MS) (p t l : Int32) (k : Nat) (s : List Nat × Int32 × Int32) : List Nat × Int32 × Int32 := if (S.2 23 k = 0 ∧ S.2 17 k = p) ∧ S.2 20 k = 4 ∧ S.2 21 k ≤ t ∧ s.2.1 + S.2 18 k ≤ l ∧ s.2.2 + S.2 19 k ≤ 9 then (s.1 ++ [k], s.2.1 + S.2 18 k, s.2.2 + S.2 19 k) else s
def ridN (S : MS) (p t l : Int32) : Nat → List Nat × Int32 × Int32
  | 0 => ([], 0, 0)
  | k + 1 => ridS S p t l k (ridN S p t l k)
theorem rid_len (S : MS) (p t l : Int32) : ∀ k, (ridN S p t l k).1.length ≤ k
  | 0 => Nat.le_refl _
  | k + 1 => by
    have ih := rid_len S p t l k
    simp only [ridN, ridS]
    split
    · show ((ridN S p t l k).1 ++ [k]).length ≤ _
      rw [List.length_append, List.length_singleton]
      omega
    · omega
theorem rid_t {S : MS} {p t l : Int32} {k : Nat} (h : ridC S p t l k (ridN S p t l k)) : ridN S p t l (k + 1) = ((ridN S p t l k).1 ++ [k], (ridN S p t l k).2.1 + S.2 18 k, (ridN S p t l k).2.2 + S.2 19 k) := if_pos h
theorem rid_f {S : MS} {p t l : Int32} {k : Nat} (h : ¬ ridC S p t l k (ridN S p t l k)) : ridN S p t l (k + 1) = ridN S p t l k := if_neg h
theorem c_choose {G : Nat → Nat} {O : Nat → Prop} {ad : Nat → Nat → Nat} {S X : MS} {L : Nat → List Nat} {wn : Nat → Option Nat} {sl : Nat → Nat} {fl : Nat} {h h0 : AH} {d : Nat} {p t l : Int32} (hK : KR G O ad S X L wn sl fl h) (hF : KF O h0 h) (h3r : L 3 = List.range (L 3).length) (hb3 : (L 3).length ≤ 80) : Ct Y_X11_chooseRiders (d + 7) G (L 3).length (170 * (L 3).length) [.ref (ad 0 0), .int p, .int t, .int l] h (fun r h2 => r = none ∧ KR G O ad S X (lset L 5 (ridN S p t l (L 3).length).1) wn sl fl h2 ∧ KF O h0 h2) := by
  refine Ct.ofn 4 rfl (Nat.le_of_ble_eq_true rfl) (by simp [Value.category]) ?_
  generalize hpost : (fun (r : Option Value) (h2 : AH) => r = none ∧ KR G O ad S X (lset L 5 (ridN S p t l (L 3).length).1) wn sl fl h2 ∧ KF O h0 h2) = post
  show J Y_X11_chooseRiders (d + 7) G (L 3).length (170 * (L 3).length) 0 [some (.ref (ad 0 0)), some (.int p), some (.int t), some (.int l), none, none, none, none] [] h post
  refine J.aload_n 1 dX11_chooseRiders_0 rfl rfl ?_
  refine gf_X11_63 rfl 4 dX11_chooseRiders_1 rfl (hK.hut) (v := .ref (ad 1 5)) rfl ?_
  refine J.neG (hK.listOb (r := 5) (by omega)).choose_spec (fun hg => ?_)
  refine cv_X11_339 rfl 7 (hK.clear (h0 := h0) (r := 5) hF (by omega) (by omega) hg) dX11_chooseRiders_4 rfl (hK.listOb (by omega)).choose_spec rfl rfl (Nat.le_of_ble_eq_true rfl) (Nat.zero_le _) (Nat.zero_le _) (fun r h hp => ?_)
  obtain ⟨rfl, hK, hF⟩ := hp
  refine J.iconst 0 8 dX11_chooseRiders_7 rfl (by decide) ?_
  refine J.ist_4 10 dX11_chooseRiders_8 rfl (by decide) ?_
  refine J.iconst 0 11 dX11_chooseRiders_10 rfl (by decide) ?_
  refine J.ist_5 13 dX11_chooseRiders_11 rfl (by decide) ?_
  refine J.iconst 0 14 dX11_chooseRiders_13 rfl (by decide) ?_
  refine J.ist_6 16 dX11_chooseRiders_14 rfl (by decide) ?_
  have loop16 : ∀ (j k : Nat) (x4 x5 x6 : Int32), k ≤ (L 3).length → (L 3).length + 1 ≤ k + j → x6 = nI k → ∀ lx : List Nat, (x4 = (ridN S p t l k).2.1) → (x5 = (ridN S p t l k).2.2) → (lx = (ridN S p t l k).1) → ∀ h, KR G O ad S X (lset L 5 lx) wn sl fl h → KF O h0 h → J Y_X11_chooseRiders (d + 7) G ((L 3).length - k) (170 * ((L 3).length - k)) 16 [some (.ref (ad 0 0)), some (.int p), some (.int t), some (.int l), some (.int x4), some (.int x5), some (.int x6), none] [] h post := by
    intro j
    induction j with
    | zero => intro k _ _ _ g1 g2; exact absurd g2 (by omega)
    | succ j ih =>
      intro k x4 x5 x6 g1 g2 e6 lx e4 e5 elx h hK hF
      have q6 : x6.toNatClampNeg = k := by rw [e6]; exact nI_clamp (by omega)
      refine J.iload 18 dX11_chooseRiders_16 rfl rfl ?_
      refine J.aload_n 19 dX11_chooseRiders_18 rfl rfl ?_
      refine gf_X11_22 rfl 22 dX11_chooseRiders_19 rfl (hK.hut) (v := .ref (ad 1 3)) rfl ?_
      have ks := hK.size (d := d + 6) (r := 3) (by omega)
      rw [lset_n (by omega)] at ks
      refine cv_X11_79 rfl 25 ks dX11_chooseRiders_22 rfl (hK.listOb (by omega)).choose_spec rfl rfl (Nat.le_of_ble_eq_true rfl) (Nat.zero_le _) (Nat.zero_le _) (fun r h2 hp => ?_)
      obtain ⟨rfl, rfl⟩ := hp
      refine J.icmp_ge 133 28 dX11_chooseRiders_25 (by decide) rfl (fun c1 => ?_) (fun c1 => ?_)
      · skip
        have hk : k = (L 3).length := Nat.le_antisymm g1 ((nI_leI (by omega) (by omega)).mp (by have z := c1; rw [e6] at z; exact z))
        exact J.vret dX11_chooseRiders_133 rfl (by rw [← hpost]; exact ⟨rfl, by rw [← hk, ← elx]; exact hK, hF⟩)
      · skip
        have hk : k < (L 3).length := Nat.lt_of_not_le (fun y => c1 (by rw [e6]; exact nI_le y (by omega)))
        have hin : vp_in x6 80 := by rw [e6]; exact vp_in_nI (by omega) (by decide)
        have hk3 : k < ((lset L 5 lx) 3).length := by rw [lset_n (by decide)]; exact hk
        refine J.aload_n 29 dX11_chooseRiders_28 rfl rfl ?_
        refine gf_X11_22 rfl 32 dX11_chooseRiders_29 rfl (hK.hut) (v := .ref (ad 1 3)) rfl ?_
        refine J.iload 34 dX11_chooseRiders_32 rfl rfl ?_
        have kg := hK.get (d := d + 4) (r := 3) (i := k) (by omega) (by rw [lset_n (by decide)]; exact rng_get h3r hk)
        rw [← e6] at kg
        refine cv_X11_132 rfl 37 kg dX11_chooseRiders_34 rfl (hK.listOb (by omega)).choose_spec rfl rfl (Nat.le_of_ble_eq_true rfl) (Nat.zero_le _) (Nat.zero_le _) (fun r h2 hp => ?_)
        obtain ⟨rfl, rfl⟩ := hp
        refine cc_X11_95 rfl 40 dX11_chooseRiders_37 rfl (hK.load hk3) ?_
        refine J.ast_7 42 dX11_chooseRiders_40 rfl (by decide) ?_
        refine J.aload 44 dX11_chooseRiders_42 rfl rfl ?_
        refine J.iload_n 45 dX11_chooseRiders_44 rfl rfl ?_
        refine cv_X11_342 rfl 48 (c_waitsFor (i := k) (p := p) hK hk3) dX11_chooseRiders_45 rfl (hK.load hk3) rfl rfl (Nat.le_of_ble_eq_true rfl) (Nat.zero_le _) (Nat.zero_le _) (fun r h2 hp => ?_)
        obtain ⟨rfl, rfl⟩ := hp
        refine J.if_eq 127 51 dX11_chooseRiders_48 (by decide) rfl (fun c2 => ?_) (fun c2 => ?_)
        · skip
          refine J.iinc_6 1 130 dX11_chooseRiders_127 rfl (by decide) (by decide) ?_
          refine J.goto 16 dX11_chooseRiders_130 (by decide) ?_
          refine J.fg_7 ?_
          refine J.room (kc2 := (L 3).length - (k + 1)) (ks2 := 170 * ((L 3).length - (k + 1))) (by omega) (by omega) ?_
          exact ih (k + 1) _ _ _ (by omega) (by omega) (by rw [e6]; exact nI_1 k) _ (by rw [(rid_f (fun z => ib_0.mp c2 z.1))]; exact e4) (by rw [(rid_f (fun z => ib_0.mp c2 z.1))]; exact e5) (by rw [(rid_f (fun z => ib_0.mp c2 z.1))]; exact elx) _ hK hF
        · skip
          refine J.aload 53 dX11_chooseRiders_51 rfl rfl ?_
          refine gf_X11_345 rfl 56 dX11_chooseRiders_53 rfl (hK.load hk3) (v := .int (S.2 20 k)) rfl ?_
          refine J.iconst 4 57 dX11_chooseRiders_56 rfl (by decide) ?_
          refine J.icmp_ne 127 60 dX11_chooseRiders_57 (by decide) rfl (fun c3 => ?_) (fun c3 => ?_)
          · skip
            refine J.iinc_6 1 130 dX11_chooseRiders_127 rfl (by decide) (by decide) ?_
            refine J.goto 16 dX11_chooseRiders_130 (by decide) ?_
            refine J.fg_7 ?_
            refine J.room (kc2 := (L 3).length - (k + 1)) (ks2 := 170 * ((L 3).length - (k + 1))) (by omega) (by omega) ?_
            exact ih (k + 1) _ _ _ (by omega) (by omega) (by rw [e6]; exact nI_1 k) _ (by rw [(rid_f (fun z => c3 z.2.1))]; exact e4) (by rw [(rid_f (fun z => c3 z.2.1))]; exact e5) (by rw [(rid_f (fun z => c3 z.2.1))]; exact elx) _ hK hF
          · skip
            refine J.aload 62 dX11_chooseRiders_60 rfl rfl ?_
            refine gf_X11_348 rfl 65 dX11_chooseRiders_62 rfl (hK.load hk3) (v := .int (S.2 21 k)) rfl ?_
            refine J.iload_n 66 dX11_chooseRiders_65 rfl rfl ?_
            refine J.icmp_le 72 69 dX11_chooseRiders_66 (by decide) rfl (fun c4 => ?_) (fun c4 => ?_)
            · skip
              refine J.iload 74 dX11_chooseRiders_72 rfl rfl ?_
              refine J.aload 76 dX11_chooseRiders_74 rfl rfl ?_
              refine gf_X11_313 rfl 79 dX11_chooseRiders_76 rfl (hK.load hk3) (v := .int (S.2 18 k)) rfl ?_
              refine J.iadd 80 dX11_chooseRiders_79 rfl ?_
              refine J.iload_n 81 dX11_chooseRiders_80 rfl rfl ?_
              refine J.icmp_gt 127 84 dX11_chooseRiders_81 (by decide) rfl (fun c5 => ?_) (fun c5 => ?_)
              · skip
                refine J.iinc_6 1 130 dX11_chooseRiders_127 rfl (by decide) (by decide) ?_
                refine J.goto 16 dX11_chooseRiders_130 (by decide) ?_
                refine J.fg_7 ?_
                refine J.room (kc2 := (L 3).length - (k + 1)) (ks2 := 170 * ((L 3).length - (k + 1))) (by omega) (by omega) ?_
                exact ih (k + 1) _ _ _ (by omega) (by omega) (by rw [e6]; exact nI_1 k) _ (by rw [(rid_f (fun z => (Int32.not_le.mpr c5) (by rw [e4]; exact z.2.2.2.1)))]; exact e4) (by rw [(rid_f (fun z => (Int32.not_le.mpr c5) (by rw [e4]; exact z.2.2.2.1)))]; exact e5) (by rw [(rid_f (fun z => (Int32.not_le.mpr c5) (by rw [e4]; exact z.2.2.2.1)))]; exact elx) _ hK hF
              · skip
                refine J.iload 86 dX11_chooseRiders_84 rfl rfl ?_
                refine J.aload 88 dX11_chooseRiders_86 rfl rfl ?_
                refine gf_X11_316 rfl 91 dX11_chooseRiders_88 rfl (hK.load hk3) (v := .int (S.2 19 k)) rfl ?_
                refine J.iadd 92 dX11_chooseRiders_91 rfl ?_
                refine J.bipush 9 94 dX11_chooseRiders_92 rfl (by decide) ?_
                refine J.icmp_gt 127 97 dX11_chooseRiders_94 (by decide) rfl (fun c6 => ?_) (fun c6 => ?_)
                · skip
                  refine J.iinc_6 1 130 dX11_chooseRiders_127 rfl (by decide) (by decide) ?_
                  refine J.goto 16 dX11_chooseRiders_130 (by decide) ?_
                  refine J.fg_7 ?_
                  refine J.room (kc2 := (L 3).length - (k + 1)) (ks2 := 170 * ((L 3).length - (k + 1))) (by omega) (by omega) ?_
                  exact ih (k + 1) _ _ _ (by omega) (by omega) (by rw [e6]; exact nI_1 k) _ (by rw [(rid_f (fun z => (Int32.not_le.mpr c6) (by rw [e5]; exact z.2.2.2.2)))]; exact e4) (by rw [(rid_f (fun z => (Int32.not_le.mpr c6) (by rw [e5]; exact z.2.2.2.2)))]; exact e5) (by rw [(rid_f (fun z => (Int32.not_le.mpr c6) (by rw [e5]; exact z.2.2.2.2)))]; exact elx) _ hK hF
                · skip
                  refine J.aload_n 98 dX11_chooseRiders_97 rfl rfl ?_
                  refine gf_X11_63 rfl 101 dX11_chooseRiders_98 rfl (hK.hut) (v := .ref (ad 1 5)) rfl ?_
                  refine J.aload 103 dX11_chooseRiders_101 rfl rfl ?_
                  have ka := hK.add (M := 170) (d := d) (h0 := h0) (r := 5) (x := k) hF (by omega) (by omega) (by rw [lset_s, elx]; have := rid_len S p t l k; omega) (by rw [lset_s, elx]; have := rid_len S p t l k; omega) (show cs _ _ _ _ _ _ _ 6 _ ≠ none from by rw [cs_load hk3]; exact fun z => by cases z)
                  rw [show ek 5 = 6 from rfl, lset_lset, lset_s] at ka
                  refine cv_X11_71 rfl 106 ka dX11_chooseRiders_103 rfl (hK.listOb (by omega)).choose_spec rfl rfl (Nat.le_of_ble_eq_true rfl) (by omega) (by omega) (fun r h hp => ?_)
                  obtain ⟨rfl, hK, hF⟩ := hp
                  refine J.pop 107 dX11_chooseRiders_106 rfl rfl ?_
                  refine J.iload 109 dX11_chooseRiders_107 rfl rfl ?_
                  refine J.aload 111 dX11_chooseRiders_109 rfl rfl ?_
                  refine gf_X11_313 rfl 114 dX11_chooseRiders_111 rfl (hK.load hk3) (v := .int (S.2 18 k)) rfl ?_
                  refine J.iadd 115 dX11_chooseRiders_114 rfl ?_
                  refine J.ist_4 117 dX11_chooseRiders_115 rfl (by decide) ?_
                  refine J.iload 119 dX11_chooseRiders_117 rfl rfl ?_
                  refine J.aload 121 dX11_chooseRiders_119 rfl rfl ?_
                  refine gf_X11_316 rfl 124 dX11_chooseRiders_121 rfl (hK.load hk3) (v := .int (S.2 19 k)) rfl ?_
                  refine J.iadd 125 dX11_chooseRiders_124 rfl ?_
                  refine J.ist_5 127 dX11_chooseRiders_125 rfl (by decide) ?_
                  refine J.iinc_6 1 130 dX11_chooseRiders_127 rfl (by decide) (by decide) ?_
                  refine J.goto 16 dX11_chooseRiders_130 (by decide) ?_
                  refine J.fg_7 ?_
                  refine J.room (kc2 := (L 3).length - (k + 1)) (ks2 := 170 * ((L 3).length - (k + 1))) (by omega) (by omega) ?_
                  exact ih (k + 1) _ _ _ (by omega) (by omega) (by rw [e6]; exact nI_1 k) _ (by rw [(rid_t ⟨ib_n.mp (by assumption), by assumption, by assumption, by rw [← e4]; exact Int32.not_lt.mp (by assumption), by rw [← e5]; exact Int32.not_lt.mp (by assumption)⟩), e4]) (by rw [(rid_t ⟨ib_n.mp (by assumption), by assumption, by assumption, by rw [← e4]; exact Int32.not_lt.mp (by assumption), by rw [← e5]; exact Int32.not_lt.mp (by assumption)⟩), e5]) (by rw [(rid_t ⟨ib_n.mp (by assumption), by assumption, by assumption, by rw [← e4]; exact Int32.not_lt.mp (by assumption), by rw [← e5]; exact Int32.not_lt.mp (by assumption)⟩), elx]) _ hK hF
            · skip
              refine J.goto 127 dX11_chooseRiders_69 (by decide) ?_
              refine J.iinc_6 1 130 dX11_chooseRiders_127 rfl (by decide) (by decide) ?_
              refine J.goto 16 dX11_chooseRiders_130 (by decide) ?_
              refine J.fg_7 ?_
              refine J.room (kc2 := (L 3).length - (k + 1)) (ks2 := 170 * ((L 3).length - (k + 1))) (by omega) (by omega) ?_
              exact ih (k + 1) _ _ _ (by omega) (by omega) (by rw [e6]; exact nI_1 k) _ (by rw [(rid_f (fun z => c4 z.2.2.1))]; exact e4) (by rw [(rid_f (fun z => c4 z.2.2.1))]; exact e5) (by rw [(rid_f (fun z => c4 z.2.2.1))]; exact elx) _ hK hF
  exact loop16 ((L 3).length + 1) 0 _ _ _ (Nat.zero_le _) (by omega) rfl ([]) rfl rfl rfl _ hK hF
