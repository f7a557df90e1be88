theorem KR.nomem {G : Nat → Nat} {O : Nat → Prop} {ad : Nat → Nat → Nat} {S X : MS} {L : Nat → List Nat} {wn : Nat → Option Nat} {sl : Nat → Nat} {fl : Nat} {h : AH} (hK : KR G O ad S X L wn sl fl h) {c0 n r2 : Nat} (hdd : cs ad S X L wn sl fl c0 n = none) (hr : r2 < 8 + (L 1).length) (he : ek r2 = c0) : n ∉ L r2 := by
  obtain ⟨ed, cp, h1, h2, h3, h4, h5, h6⟩ := hK
  exact fun hm => h6 r2 hr n hm (by rw [he]; exact hdd)
theorem c_plInit {d : Nat} {G : Nat → Nat} {h : AH} {a : Nat} {u v w : Int32} (ha : h a = some (Ob 7 [.int 0, .int 0, .int 0])) : Ct Y_X6_init (d + 1) G 0 0 [.ref a, .int u, .int v, .int w] h (fun r h2 => r = none ∧ h2 = hu h a (Ob 7 [.int u, .int v, .int w])) := by
  refine Ct.ofn 0 rfl (Nat.le_of_ble_eq_true rfl) (by simp [Value.category]) ?_
  generalize hpost : (fun (r : Option Value) (h2 : AH) => r = none ∧ h2 = hu h a (Ob 7 [.int u, .int v, .int w])) = post
  show J Y_X6_init (d + 1) G 0 0 0 [some (.ref a), some (.int u), some (.int v), some (.int w)] [] h post
  refine J.aload_n 1 dX6_init_0 rfl rfl ?_
  refine co_X6_3 rfl 4 dX6_init_1 rfl (Nat.le_of_ble_eq_true rfl) ?_
  refine J.aload_n 5 dX6_init_4 rfl rfl ?_
  refine J.iload_n 6 dX6_init_5 rfl rfl ?_
  refine pf_X6_9 rfl rfl 9 dX6_init_6 rfl ha (Nat.le_of_ble_eq_true rfl) ?_
  refine J.nmH (fun h1 eh1 => ?_)
  have f1 : h1 a = some (Ob 7 [.int u, .int 0, .int 0]) := by rw [eh1]; exact hu_s
  refine J.aload_n 10 dX6_init_9 rfl rfl ?_
  refine J.iload_n 11 dX6_init_10 rfl rfl ?_
  refine pf_X6_15 rfl rfl 14 dX6_init_11 rfl f1 (Nat.le_of_ble_eq_true rfl) ?_
  refine J.nmH (fun h2 eh2 => ?_)
  have f2 : h2 a = some (Ob 7 [.int u, .int v, .int 0]) := by rw [eh2]; exact hu_s
  refine J.aload_n 15 dX6_init_14 rfl rfl ?_
  refine J.iload_n 16 dX6_init_15 rfl rfl ?_
  refine pf_X6_18 rfl rfl 19 dX6_init_16 rfl f2 (Nat.le_of_ble_eq_true rfl) ?_
  refine J.nmH (fun h3 eh3 => ?_)
  have f3 : h3 a = some (Ob 7 [.int u, .int v, .int w]) := by rw [eh3]; exact hu_s
  exact J.vret dX6_init_19 rfl (by rw [← hpost]; exact ⟨rfl, by rw [eh3, eh2, eh1]; simp only [hu_hu]; rfl⟩)
def s_placeC (S : MS) (n : Nat) (x y : Int32) : MS := (S.1, u2 (u2 S.2 1 n x) 2 n y)
def a_place (L : Nat → List Nat) (x y : Int32) : Int32 := if ((0 ≤ x ∧ x ≤ 9) ∧ (1 ≤ y ∧ y ≤ 60)) then (if (L 0).length < 12 then nI (L 0).length else -2) else -1
theorem csN_place {ad : Nat → Nat → Nat} {S X : MS} {L : Nat → List Nat} {wn : Nat → Option Nat} {sl : Nat → Nat} {fl q : Nat} {x y : Int32} (hwa : ∀ j p, wn j = some p → p < (L 0).length) : ∀ c i, cs (adU ad 3 (L 0).length q) (s_placeC S (L 0).length x y) X (lset L 0 (L 0 ++ [(L 0).length])) wn sl fl c i = if c = 3 ∧ i = (L 0).length then some (Ob 7 [.int (nI (L 0).length), .int x, .int y]) else cs ad S X L wn sl fl c i
  | 0, i => rfl
  | 1, i => rfl
  | 2, i => rfl
  | 3, i => by
    show (if i < (L 0 ++ [(L 0).length]).length then some (Ob 7 [.int (nI i), .int (upd (S.2 1) (L 0).length x i), .int (upd (S.2 2) (L 0).length y i)]) else none) = if 3 = 3 ∧ i = (L 0).length then some (Ob 7 [.int (nI (L 0).length), .int x, .int y]) else if i < (L 0).length then some (Ob 7 (fPlace S i)) else none
    rw [List.length_append, List.length_singleton]
    by_cases e : i = (L 0).length
    · rw [if_pos (by omega), if_pos ⟨rfl, e⟩, e]
      simp only [pk_us]
    · rw [if_neg (show ¬ (3 = 3 ∧ i = (L 0).length) from fun z => e z.2)]
      by_cases e2 : i < (L 0).length
      · rw [if_pos (by omega), if_pos e2]
        simp only [pk_un e, fPlace]
      · rw [if_neg (by omega), if_neg e2]
  | 4, i => rfl
  | 5, i => rfl
  | 6, i => rfl
  | 7, i => rfl
  | 8, i => rfl
  | 9, i => rfl
  | 10, i => rfl
  | 11, i => rfl
  | 12, i => rfl
  | 13, i => rfl
  | 14, i => rfl
  | 15, i => rfl
  | 16, i => rfl
  | 17, i => by
    show (if i = 0 then some (Aq "HutLift$Place" 5 (fun j => (wn j).map ((adU ad 3 (L 0).length q) 3))) else none) = if i = 0 then some (Aq "HutLift$Place" 5 (fun j => (wn j).map (ad 3))) else none
    rw [show (fun j => (wn j).map ((adU ad 3 (L 0).length q) 3)) = (fun j => (wn j).map (ad 3)) from funext fun j => by
      cases hj : wn j with
      | none => rfl
      | some p =>
        have := hwa j p hj
        show some (adU ad 3 (L 0).length q 3 p) = some (ad 3 p)
        rw [adU_n (fun z => by have := z.2; omega)]]
  | n + 18, i => rfl
theorem c_place {G : Nat → Nat} {O : Nat → Prop} {ad : Nat → Nat → Nat} {S X : MS} {L : Nat → List Nat} {wn : Nat → Option Nat} {sl : Nat → Nat} {fl : Nat} {h h0 : AH} {d : Nat} {x y : Int32} (hK : KR G O ad S X L wn sl fl h) (hF : KF O h0 h) (h0r : L 0 = List.range (L 0).length) (hb0 : (L 0).length ≤ 12) (hwa : ∀ j p, wn j = some p → p < (L 0).length) : Ct Y_X11_place (d + 7) G 2 37 [.ref (ad 0 0), .int x, .int y] h (fun r h2 => r = some (.int (a_place L x y)) ∧ (((((0 ≤ x ∧ x ≤ 9) ∧ (1 ≤ y ∧ y ≤ 60)) ∧ (L 0).length < 12) ∧ ∃ q, KR G O (adU ad 3 (L 0).length q) (s_placeC S (L 0).length x y) X (lset L 0 (L 0 ++ [(L 0).length])) wn sl fl h2 ∧ KF O h0 h2) ∨ (¬ (((0 ≤ x ∧ x ≤ 9) ∧ (1 ≤ y ∧ y ≤ 60)) ∧ (L 0).length < 12) ∧ KR G O ad S X L wn sl fl h2 ∧ KF O h0 h2))) := by
  refine Ct.ofn 0 rfl (Nat.le_of_ble_eq_true rfl) (by simp [Value.category]) ?_
  generalize hpost : (fun (r : Option Value) (h2 : AH) => r = some (.int (a_place L x y)) ∧ (((((0 ≤ x ∧ x ≤ 9) ∧ (1 ≤ y ∧ y ≤ 60)) ∧ (L 0).length < 12) ∧ ∃ q, KR G O (adU ad 3 (L 0).length q) (s_placeC S (L 0).length x y) X (lset L 0 (L 0 ++ [(L 0).length])) wn sl fl h2 ∧ KF O h0 h2) ∨ (¬ (((0 ≤ x ∧ x ≤ 9) ∧ (1 ≤ y ∧ y ≤ 60)) ∧ (L 0).length < 12) ∧ KR G O ad S X L wn sl fl h2 ∧ KF O h0 h2))) = post
  show J Y_X11_place (d + 7) G 2 37 0 [some (.ref (ad 0 0)), some (.int x), some (.int y)] [] h post
  refine J.iload_n 1 dX11_place_0 rfl rfl ?_
  refine J.iconst 0 2 dX11_place_1 rfl (by decide) ?_
  refine J.bipush 9 4 dX11_place_2 rfl (by decide) ?_
  refine cs_X11_75 rfl 7 (c_isWithin (v := x) (a := 0) (b := 9) _ _) dX11_place_4 rfl rfl rfl (Nat.le_of_ble_eq_true rfl) (Nat.zero_le _) (Nat.zero_le _) (fun r h2 hp => ?_)
  obtain ⟨rfl, rfl⟩ := hp
  refine J.if_eq 20 10 dX11_place_7 (by decide) rfl (fun c1 => ?_) (fun c1 => ?_)
  · skip
    refine J.iconst (-1) 21 dX11_place_20 rfl (by decide) ?_
    exact J.iret dX11_place_21 rfl (by rw [← hpost]; have hn : ¬ ((0 ≤ x ∧ x ≤ 9) ∧ (1 ≤ y ∧ y ≤ 60)) := fun z => ib_0.mp c1 z.1; exact ⟨by rw [a_place, if_neg hn], Or.inr ⟨fun z => hn z.1, hK, hF⟩⟩)
  · skip
    have ho1 := ib_n.mp c1
    refine J.iload_n 11 dX11_place_10 rfl rfl ?_
    refine J.iconst 1 12 dX11_place_11 rfl (by decide) ?_
    refine J.bipush 60 14 dX11_place_12 rfl (by decide) ?_
    refine cs_X11_75 rfl 17 (c_isWithin (v := y) (a := 1) (b := 60) _ _) dX11_place_14 rfl rfl rfl (Nat.le_of_ble_eq_true rfl) (Nat.zero_le _) (Nat.zero_le _) (fun r h2 hp => ?_)
    obtain ⟨rfl, rfl⟩ := hp
    refine J.if_ne 22 20 dX11_place_17 (by decide) rfl (fun c2 => ?_) (fun c2 => ?_)
    · skip
      have hok := And.intro ho1 (ib_n.mp c2)
      refine J.aload_n 23 dX11_place_22 rfl rfl ?_
      refine gf_X11_10 rfl 26 dX11_place_23 rfl (hK.hut) (v := .ref (ad 1 0)) rfl ?_
      refine cv_X11_79 rfl 29 (hK.size (r := 0) (by omega)) dX11_place_26 rfl (hK.listOb (r := 0) (by omega)).choose_spec rfl rfl (Nat.le_of_ble_eq_true rfl) (Nat.zero_le _) (Nat.zero_le _) (fun r h2 hp => ?_)
      obtain ⟨rfl, rfl⟩ := hp
      refine J.bipush 12 31 dX11_place_29 rfl (by decide) ?_
      refine J.icmp_lt 37 34 dX11_place_31 (by decide) rfl (fun c3 => ?_) (fun c3 => ?_)
      · skip
        have hcap : (L 0).length < 12 := (nI_ltI (b := 12) (by omega) (by decide)).mp c3
        refine J.aload_n 38 dX11_place_37 rfl rfl ?_
        refine gf_X11_10 rfl 41 dX11_place_38 rfl (hK.hut) (v := .ref (ad 1 0)) rfl ?_
        refine nw_X11_66 rfl 44 dX11_place_41 rfl rfl rfl (fun q hq => ?_)
        have hK0 := hK
        have hK := hK.fresh (e := Ob 7 [.int 0, .int 0, .int 0]) hq
        refine J.dup 45 dX11_place_44 rfl rfl ?_
        refine J.aload_n 46 dX11_place_45 rfl rfl ?_
        refine gf_X11_10 rfl 49 dX11_place_46 rfl (hK.hut) (v := .ref (ad 1 0)) rfl ?_
        refine cv_X11_79 rfl 52 (hK.size (r := 0) (by omega)) dX11_place_49 rfl (hK.listOb (r := 0) (by omega)).choose_spec rfl rfl (Nat.le_of_ble_eq_true rfl) (Nat.zero_le _) (Nat.zero_le _) (fun r h2 hp => ?_)
        obtain ⟨rfl, rfl⟩ := hp
        refine J.iload_n 53 dX11_place_52 rfl rfl ?_
        refine J.iload_n 54 dX11_place_53 rfl rfl ?_
        refine cn_X11_68 rfl 57 (c_plInit (u := nI (L 0).length) (v := x) (w := y) hu_s) dX11_place_54 rfl rfl rfl (Nat.le_of_ble_eq_true rfl) (Nat.zero_le _) (Nat.zero_le _) (fun r h2 hp => ?_)
        obtain ⟨rfl, rfl⟩ := hp
        rw [hu_hu]
        replace hK := hK0.fresh (e := (Ob 7 [.int (nI (L 0).length), .int x, .int y])) hq
        have hdd : cs ad S X L wn sl fl 3 (L 0).length = none := if_neg (Nat.lt_irrefl _)
        have kad := hK0.growL (d := d) (h0 := h0) (S2 := (s_placeC S (L 0).length x y)) (X2 := X) (q := q) (c0 := 3) (r := 0) (n := (L 0).length) (M := 34) hF hq (by decide) rfl (fun r2 h1 h2 => hK0.nomem hdd h1 h2) (by omega) (by decide) (by omega) (by omega) (csN_place hwa) hdd ⟨7, _, rfl, by decide⟩ ⟨fun fs z => (by cases z), fun n f z => (by cases z)⟩
        refine cv_X11_71 rfl 60 kad dX11_place_57 rfl (hK.listOb (r := 0) (by omega)).choose_spec rfl rfl (Nat.le_of_ble_eq_true rfl) (by omega) (by omega) (fun r h hp => ?_)
        obtain ⟨rfl, hK, hF⟩ := hp
        refine J.pop 61 dX11_place_60 rfl rfl ?_
        refine J.aload_n 62 dX11_place_61 rfl rfl ?_
        refine gf_X11_10 rfl 65 dX11_place_62 rfl (hK.hut) (v := .ref ((adU ad 3 (L 0).length q) 1 0)) rfl ?_
        have ks := hK.size (d := d + 6) (r := 0) (by show 0 < 8 + (lset L 0 _ 1).length; omega)
        rw [lset_s, List.length_append, List.length_singleton] at ks
        refine cv_X11_79 rfl 68 ks dX11_place_65 rfl (hK.listOb (r := 0) (by omega)).choose_spec rfl rfl (Nat.le_of_ble_eq_true rfl) (Nat.zero_le _) (Nat.zero_le _) (fun r h2 hp => ?_)
        obtain ⟨rfl, rfl⟩ := hp
        refine J.iconst 1 69 dX11_place_68 rfl (by decide) ?_
        refine J.isub 70 dX11_place_69 rfl ?_
        exact J.iret dX11_place_70 rfl (by rw [← hpost]; exact ⟨by rw [a_place, if_pos hok, if_pos hcap, nI_m1], Or.inl ⟨⟨hok, hcap⟩, q, hK, hF⟩⟩)
      · skip
        have hcap : ¬ (L 0).length < 12 := fun z => c3 (nI_lt (b := 12) z (by decide))
        refine J.bipush (-2) 36 dX11_place_34 rfl (by decide) ?_
        exact J.iret dX11_place_36 rfl (by rw [← hpost]; exact ⟨by rw [a_place, if_pos hok, if_neg hcap], Or.inr ⟨fun z => hcap z.2, hK, hF⟩⟩)
    · skip
      refine J.iconst (-1) 21 dX11_place_20 rfl (by decide) ?_
      exact J.iret dX11_place_21 rfl (by rw [← hpost]; have hn : ¬ ((0 ≤ x ∧ x ≤ 9) ∧ (1 ≤ y ∧ y ≤ 60)) := fun z => ib_0.mp c2 z.2; exact ⟨by rw [a_place, if_neg hn], Or.inr ⟨fun z => hn z.1, hK, hF⟩⟩)
theorem c_piInit {d : Nat} {G : Nat → Nat} {h : AH} {a : Nat} {u v : Int32} (ha : h a = some (Ob 6 [.int 0, .int 0, .int 0, .int 0])) : Ct Y_X5_init (d + 1) G 0 0 [.ref a, .int u, .int v] h (fun r h2 => r = none ∧ h2 = hu h a (Ob 6 [.int u, .int v, .int 0, .int 0])) := by
  refine Ct.ofn 0 rfl (Nat.le_of_ble_eq_true rfl) (by simp [Value.category]) ?_
  generalize hpost : (fun (r : Option Value) (h2 : AH) => r = none ∧ h2 = hu h a (Ob 6 [.int u, .int v, .int 0, .int 0])) = post
  show J Y_X5_init (d + 1) G 0 0 0 [some (.ref a), some (.int u), some (.int v)] [] h post
  refine J.aload_n 1 dX5_init_0 rfl rfl ?_
  refine co_X5_1 rfl 4 dX5_init_1 rfl (Nat.le_of_ble_eq_true rfl) ?_
  refine J.aload_n 5 dX5_init_4 rfl rfl ?_
  refine J.iload_n 6 dX5_init_5 rfl rfl ?_
  refine pf_X5_7 rfl rfl 9 dX5_init_6 rfl ha (Nat.le_of_ble_eq_true rfl) ?_
  refine J.nmH (fun h4 eh4 => ?_)
  have f4 : h4 a = some (Ob 6 [.int u, .int 0, .int 0, .int 0]) := by rw [eh4]; exact hu_s
  refine J.aload_n 10 dX5_init_9 rfl rfl ?_
  refine J.iload_n 11 dX5_init_10 rfl rfl ?_
  refine pf_X5_13 rfl rfl 14 dX5_init_11 rfl f4 (Nat.le_of_ble_eq_true rfl) ?_
  refine J.nmH (fun h5 eh5 => ?_)
  have f5 : h5 a = some (Ob 6 [.int u, .int v, .int 0, .int 0]) := by rw [eh5]; exact hu_s
  exact J.vret dX5_init_14 rfl (by rw [← hpost]; exact ⟨rfl, by rw [eh5, eh4]; simp only [hu_hu]; rfl⟩)
def s_pilotC (S : MS) (n : Nat) (x y : Int32) : MS := (S.1, u2 (u2 (u2 (u2 S.2 12 n x) 13 n y) 14 n 0) 15 n 0)
def a_pilot (L : Nat → List Nat) (x y : Int32) : Int32 := if ((0 ≤ x ∧ x ≤ 720) ∧ (0 ≤ y ∧ y ≤ 120)) then (if (L 2).length < 6 then nI (L 2).length else -2) else -1
theorem csN_pilot {ad : Nat → Nat → Nat} {S X : MS} {L : Nat → List Nat} {wn : Nat → Option Nat} {sl : Nat → Nat} {fl q : Nat} {x y : Int32} : ∀ c i, cs (adU ad 5 (L 2).length q) (s_pilotC S (L 2).length x y) X (lset L 2 (L 2 ++ [(L 2).length])) wn sl fl c i = if c = 5 ∧ i = (L 2).length then some (Ob 6 [.int x, .int y, .int 0, .int 0]) else cs ad S X L wn sl fl c i
  | 0, i => rfl
  | 1, i => rfl
  | 2, i => rfl
  | 3, i => rfl
  | 4, i => rfl
  | 5, i => by
    show (if i < (L 2 ++ [(L 2).length]).length then some (Ob 6 [.int (upd (S.2 12) (L 2).length x i), .int (upd (S.2 13) (L 2).length y i), .int (upd (S.2 14) (L 2).length 0 i), .int (upd (S.2 15) (L 2).length 0 i)]) else none) = if 5 = 5 ∧ i = (L 2).length then some (Ob 6 [.int x, .int y, .int 0, .int 0]) else if i < (L 2).length then some (Ob 6 (fPil S i)) else none
    rw [List.length_append, List.length_singleton]
    by_cases e : i = (L 2).length
    · rw [if_pos (by omega), if_pos ⟨rfl, e⟩, e]
      simp only [pk_us]
    · rw [if_neg (show ¬ (5 = 5 ∧ i = (L 2).length) from fun z => e z.2)]
      by_cases e2 : i < (L 2).length
      · rw [if_pos (by omega), if_pos e2]
        simp only [pk_un e, fPil]
      · rw [if_neg (by omega), if_neg e2]
  | 6, i => rfl
  | 7, i => rfl
  | 8, i => rfl
  | 9, i => rfl
  | 10, i => rfl
  | 11, i => rfl
  | 12, i => rfl
  | 13, i => rfl
  | 14, i => rfl
  | 15, i => rfl
  | 16, i => rfl
  | 17, i => rfl
  | n + 18, i => rfl
theorem c_pilot {G : Nat → Nat} {O : Nat → Prop} {ad : Nat → Nat → Nat} {S X : MS} {L : Nat → List Nat} {wn : Nat → Option Nat} {sl : Nat → Nat} {fl : Nat} {h h0 : AH} {d : Nat} {x y : Int32} (hK : KR G O ad S X L wn sl fl h) (hF : KF O h0 h) (h2r : L 2 = List.range (L 2).length) (hb2 : (L 2).length ≤ 6) : Ct Y_X11_pilot (d + 7) G 2 38 [.ref (ad 0 0), .int x, .int y] h (fun r h2 => r = some (.int (a_pilot L x y)) ∧ (((((0 ≤ x ∧ x ≤ 720) ∧ (0 ≤ y ∧ y ≤ 120)) ∧ (L 2).length < 6) ∧ ∃ q, KR G O (adU ad 5 (L 2).length q) (s_pilotC S (L 2).length x y) X (lset L 2 (L 2 ++ [(L 2).length])) wn sl fl h2 ∧ KF O h0 h2) ∨ (¬ (((0 ≤ x ∧ x ≤ 720) ∧ (0 ≤ y ∧ y ≤ 120)) ∧ (L 2).length < 6) ∧ KR G O ad S X L wn sl fl h2 ∧ KF O h0 h2))) := by
  refine Ct.ofn 0 rfl (Nat.le_of_ble_eq_true rfl) (by simp [Value.category]) ?_
  generalize hpost : (fun (r : Option Value) (h2 : AH) => r = some (.int (a_pilot L x y)) ∧ (((((0 ≤ x ∧ x ≤ 720) ∧ (0 ≤ y ∧ y ≤ 120)) ∧ (L 2).length < 6) ∧ ∃ q, KR G O (adU ad 5 (L 2).length q) (s_pilotC S (L 2).length x y) X (lset L 2 (L 2 ++ [(L 2).length])) wn sl fl h2 ∧ KF O h0 h2) ∨ (¬ (((0 ≤ x ∧ x ≤ 720) ∧ (0 ≤ y ∧ y ≤ 120)) ∧ (L 2).length < 6) ∧ KR G O ad S X L wn sl fl h2 ∧ KF O h0 h2))) = post
  show J Y_X11_pilot (d + 7) G 2 38 0 [some (.ref (ad 0 0)), some (.int x), some (.int y)] [] h post
  refine J.iload_n 1 dX11_pilot_0 rfl rfl ?_
  refine J.iconst 0 2 dX11_pilot_1 rfl (by decide) ?_
  refine J.sipush 720 5 dX11_pilot_2 rfl (by decide) ?_
  refine cs_X11_75 rfl 8 (c_isWithin (v := x) (a := 0) (b := 720) _ _) dX11_pilot_5 rfl rfl rfl (Nat.le_of_ble_eq_true rfl) (Nat.zero_le _) (Nat.zero_le _) (fun r h2 hp => ?_)
  obtain ⟨rfl, rfl⟩ := hp
  refine J.if_eq 21 11 dX11_pilot_8 (by decide) rfl (fun c1 => ?_) (fun c1 => ?_)
  · skip
    refine J.iconst (-1) 22 dX11_pilot_21 rfl (by decide) ?_
    exact J.iret dX11_pilot_22 rfl (by rw [← hpost]; have hn : ¬ ((0 ≤ x ∧ x ≤ 720) ∧ (0 ≤ y ∧ y ≤ 120)) := fun z => ib_0.mp c1 z.1; exact ⟨by rw [a_pilot, if_neg hn], Or.inr ⟨fun z => hn z.1, hK, hF⟩⟩)
  · skip
    have ho1 := ib_n.mp c1
    refine J.iload_n 12 dX11_pilot_11 rfl rfl ?_
    refine J.iconst 0 13 dX11_pilot_12 rfl (by decide) ?_
    refine J.bipush 120 15 dX11_pilot_13 rfl (by decide) ?_
    refine cs_X11_75 rfl 18 (c_isWithin (v := y) (a := 0) (b := 120) _ _) dX11_pilot_15 rfl rfl rfl (Nat.le_of_ble_eq_true rfl) (Nat.zero_le _) (Nat.zero_le _) (fun r h2 hp => ?_)
    obtain ⟨rfl, rfl⟩ := hp
    refine J.if_ne 23 21 dX11_pilot_18 (by decide) rfl (fun c2 => ?_) (fun c2 => ?_)
    · skip
      have hok := And.intro ho1 (ib_n.mp c2)
      refine J.aload_n 24 dX11_pilot_23 rfl rfl ?_
      refine gf_X11_19 rfl 27 dX11_pilot_24 rfl (hK.hut) (v := .ref (ad 1 2)) rfl ?_
      refine cv_X11_79 rfl 30 (hK.size (r := 2) (by omega)) dX11_pilot_27 rfl (hK.listOb (r := 2) (by omega)).choose_spec rfl rfl (Nat.le_of_ble_eq_true rfl) (Nat.zero_le _) (Nat.zero_le _) (fun r h2 hp => ?_)
      obtain ⟨rfl, rfl⟩ := hp
      refine J.bipush 6 32 dX11_pilot_30 rfl (by decide) ?_
      refine J.icmp_lt 38 35 dX11_pilot_32 (by decide) rfl (fun c3 => ?_) (fun c3 => ?_)
      · skip
        have hcap : (L 2).length < 6 := (nI_ltI (b := 6) (by omega) (by decide)).mp c3
        refine J.aload_n 39 dX11_pilot_38 rfl rfl ?_
        refine gf_X11_19 rfl 42 dX11_pilot_39 rfl (hK.hut) (v := .ref (ad 1 2)) rfl ?_
        refine nw_X11_88 rfl 45 dX11_pilot_42 rfl rfl rfl (fun q hq => ?_)
        have hK0 := hK
        have hK := hK.fresh (e := Ob 6 [.int 0, .int 0, .int 0, .int 0]) hq
        refine J.dup 46 dX11_pilot_45 rfl rfl ?_
        refine J.iload_n 47 dX11_pilot_46 rfl rfl ?_
        refine J.iload_n 48 dX11_pilot_47 rfl rfl ?_
        refine cn_X11_90 rfl 51 (c_piInit (u := x) (v := y) hu_s) dX11_pilot_48 rfl rfl rfl (Nat.le_of_ble_eq_true rfl) (Nat.zero_le _) (Nat.zero_le _) (fun r h2 hp => ?_)
        obtain ⟨rfl, rfl⟩ := hp
        rw [hu_hu]
        replace hK := hK0.fresh (e := (Ob 6 [.int x, .int y, .int 0, .int 0])) hq
        have hdd : cs ad S X L wn sl fl 5 (L 2).length = none := if_neg (Nat.lt_irrefl _)
        have kad := hK0.growL (d := d) (h0 := h0) (S2 := (s_pilotC S (L 2).length x y)) (X2 := X) (q := q) (c0 := 5) (r := 2) (n := (L 2).length) (M := 34) hF hq (by decide) rfl (fun r2 h1 h2 => hK0.nomem hdd h1 h2) (by omega) (by decide) (by omega) (by omega) (csN_pilot) hdd ⟨6, _, rfl, by decide⟩ ⟨fun fs z => (by cases z), fun n f z => (by cases z)⟩
        refine cv_X11_71 rfl 54 kad dX11_pilot_51 rfl (hK.listOb (r := 2) (by omega)).choose_spec rfl rfl (Nat.le_of_ble_eq_true rfl) (by omega) (by omega) (fun r h hp => ?_)
        obtain ⟨rfl, hK, hF⟩ := hp
        refine J.pop 55 dX11_pilot_54 rfl rfl ?_
        refine J.aload_n 56 dX11_pilot_55 rfl rfl ?_
        refine gf_X11_19 rfl 59 dX11_pilot_56 rfl (hK.hut) (v := .ref ((adU ad 5 (L 2).length q) 1 2)) rfl ?_
        have ks := hK.size (d := d + 6) (r := 2) (by show 2 < 8 + (lset L 2 _ 1).length; omega)
        rw [lset_s, List.length_append, List.length_singleton] at ks
        refine cv_X11_79 rfl 62 ks dX11_pilot_59 rfl (hK.listOb (r := 2) (by omega)).choose_spec rfl rfl (Nat.le_of_ble_eq_true rfl) (Nat.zero_le _) (Nat.zero_le _) (fun r h2 hp => ?_)
        obtain ⟨rfl, rfl⟩ := hp
        refine J.iconst 1 63 dX11_pilot_62 rfl (by decide) ?_
        refine J.isub 64 dX11_pilot_63 rfl ?_
        exact J.iret dX11_pilot_64 rfl (by rw [← hpost]; exact ⟨by rw [a_pilot, if_pos hok, if_pos hcap, nI_m1], Or.inl ⟨⟨hok, hcap⟩, q, hK, hF⟩⟩)
      · skip
        have hcap : ¬ (L 2).length < 6 := fun z => c3 (nI_lt (b := 6) z (by decide))
        refine J.bipush (-2) 37 dX11_pilot_35 rfl (by decide) ?_
        exact J.iret dX11_pilot_37 rfl (by rw [← hpost]; exact ⟨by rw [a_pilot, if_pos hok, if_neg hcap], Or.inr ⟨fun z => hcap z.2, hK, hF⟩⟩)
    · skip
      refine J.iconst (-1) 22 dX11_pilot_21 rfl (by decide) ?_
      exact J.iret dX11_pilot_22 rfl (by rw [← hpost]; have hn : ¬ ((0 ≤ x ∧ x ≤ 720) ∧ (0 ≤ y ∧ y ≤ 120)) := fun z => ib_0.mp c2 z.2; exact ⟨by rw [a_pilot, if_neg hn], Or.inr ⟨fun z => hn z.1, hK, hF⟩⟩)
