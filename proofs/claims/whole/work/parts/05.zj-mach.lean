theorem c_maInit {d : Nat} {G : Nat → Nat} {h : AH} {a : Nat} {x y : Int32} (ha : h a = some (Ob 3 [.int 0, .int 0, .null, .int 0, .int 0])) : Ct Y_X2_init (d + 4) G 1 3 [.ref a, .int x, .int y] h (fun r h2 => r = none ∧ ∃ l, h l = none ∧ l ≠ a ∧ h2 = hu (hu h l (Ob 0 [.int 0, .ref (G 0), .int 0])) a (Ob 3 [.int x, .int y, .ref l, .int y, .int 0])) := by
  refine Ct.ofn 0 rfl (Nat.le_of_ble_eq_true rfl) (by simp [Value.category]) ?_
  generalize hpost : (fun (r : Option Value) (h2 : AH) => r = none ∧ ∃ l, h l = none ∧ l ≠ a ∧ h2 = hu (hu h l (Ob 0 [.int 0, .ref (G 0), .int 0])) a (Ob 3 [.int x, .int y, .ref l, .int y, .int 0])) = post
  show J Y_X2_init (d + 4) G 1 3 0 [some (.ref a), some (.int x), some (.int y)] [] h post
  refine J.aload_n 1 dX2_init_0 rfl rfl ?_
  refine co_X2_3 rfl 4 dX2_init_1 rfl (Nat.le_of_ble_eq_true rfl) ?_
  refine J.aload_n 5 dX2_init_4 rfl rfl ?_
  refine nw_X2_9 rfl 8 dX2_init_5 rfl rfl rfl (fun q1 hq1 => ?_)
  have n2 : a ≠ q1 := fun z => by rw [z, hq1] at ha; cases ha
  refine J.nmH (fun h3 eh3 => ?_)
  have f3 : h3 q1 = some (Ob 0 [.int 0, .null, .int 0]) := by rw [eh3]; exact hu_s
  have f4 : h3 a = some (Ob 3 [.int 0, .int 0, .null, .int 0, .int 0]) := by rw [eh3, hu_n n2]; exact ha
  refine J.dup 9 dX2_init_8 rfl rfl ?_
  refine cn_X2_11 rfl 12 (jl_init (d := d) f3) dX2_init_9 rfl rfl rfl (Nat.le_of_ble_eq_true rfl) (Nat.zero_le _) (Nat.zero_le _) (fun r h2 hp => ?_)
  obtain ⟨rfl, rfl⟩ := hp
  refine J.nmH (fun h5 eh5 => ?_)
  have f5 : h5 q1 = some (Ob 0 [.int 0, .ref (G 0), .int 0]) := by rw [eh5]; exact hu_s
  have f6 : h5 a = some (Ob 3 [.int 0, .int 0, .null, .int 0, .int 0]) := by rw [eh5, hu_n n2]; exact f4
  refine pf_X2_12 rfl rfl 15 dX2_init_12 rfl f6 (Nat.le_of_ble_eq_true rfl) ?_
  refine J.nmH (fun h7 eh7 => ?_)
  have f7 : h7 a = some (Ob 3 [.int 0, .int 0, .ref q1, .int 0, .int 0]) := by rw [eh7]; exact hu_s
  have f8 : h7 q1 = some (Ob 0 [.int 0, .ref (G 0), .int 0]) := by rw [eh7, hu_n (Ne.symm n2)]; exact f5
  refine J.aload_n 16 dX2_init_15 rfl rfl ?_
  refine J.iload_n 17 dX2_init_16 rfl rfl ?_
  refine pf_X2_18 rfl rfl 20 dX2_init_17 rfl f7 (Nat.le_of_ble_eq_true rfl) ?_
  refine J.nmH (fun h9 eh9 => ?_)
  have f9 : h9 a = some (Ob 3 [.int x, .int 0, .ref q1, .int 0, .int 0]) := by rw [eh9]; exact hu_s
  have f10 : h9 q1 = some (Ob 0 [.int 0, .ref (G 0), .int 0]) := by rw [eh9, hu_n (Ne.symm n2)]; exact f8
  refine J.aload_n 21 dX2_init_20 rfl rfl ?_
  refine J.iload_n 22 dX2_init_21 rfl rfl ?_
  refine pf_X2_22 rfl rfl 25 dX2_init_22 rfl f9 (Nat.le_of_ble_eq_true rfl) ?_
  refine J.nmH (fun h11 eh11 => ?_)
  have f11 : h11 a = some (Ob 3 [.int x, .int y, .ref q1, .int 0, .int 0]) := by rw [eh11]; exact hu_s
  have f12 : h11 q1 = some (Ob 0 [.int 0, .ref (G 0), .int 0]) := by rw [eh11, hu_n (Ne.symm n2)]; exact f10
  refine J.aload_n 26 dX2_init_25 rfl rfl ?_
  refine J.iload_n 27 dX2_init_26 rfl rfl ?_
  refine pf_X2_25 rfl 30 dX2_init_27 rfl f11 (Nat.le_of_ble_eq_true rfl) ?_
  refine J.nmH (fun h13 eh13 => ?_)
  have f13 : h13 a = some (Ob 3 [.int x, .int y, .ref q1, .int y, .int 0]) := by rw [eh13]; exact hu_s
  have f14 : h13 q1 = some (Ob 0 [.int 0, .ref (G 0), .int 0]) := by rw [eh13, hu_n (Ne.symm n2)]; exact f12
  exact J.vret dX2_init_30 rfl (by rw [← hpost]; exact ⟨rfl, q1, hq1, (Ne.symm n2), by rw [eh13, eh11, eh9, eh7, eh5, eh3]; simp only [hu_hu, hu_sw n2]; rfl⟩)
def s_maC (S : MS) (n : Nat) (x y : Int32) : MS := (S.1, u2 (u2 (u2 (u2 S.2 7 n x) 8 n y) 9 n y) 10 n 0)
def a_machine (L : Nat → List Nat) (x y : Int32) : Int32 := if ((1 ≤ x ∧ x ≤ 200) ∧ (1 ≤ y ∧ y ≤ 2000)) then (if (L 1).length < 4 then nI (L 1).length else -2) else -1
theorem lsM_n {L : Nat → List Nat} {n r : Nat} {v : List Nat} (h : r < 8) (h1 : r ≠ 1) : lset (lset L (8 + n) []) 1 v r = L r := by
  rw [lset_n h1, lset_n (by omega)]
theorem lsM_1 {L : Nat → List Nat} {n : Nat} {v : List Nat} : lset (lset L (8 + n) []) 1 v 1 = v := lset_s
theorem adM_n {ad : Nat → Nat → Nat} {n l q r : Nat} (h : r < 8) : adU (adU ad 1 (8 + n) l) 4 n q 1 r = ad 1 r := by
  rw [adU_n (fun z => absurd z.1 (by decide)), adU_n (fun z => absurd z.2 (by omega))]
theorem adM_c {ad : Nat → Nat → Nat} {n l q c r : Nat} (h : c ≠ 1) (h4 : c ≠ 4) : adU (adU ad 1 (8 + n) l) 4 n q c r = ad c r := by
  rw [adU_n (fun z => h4 z.1), adU_n (fun z => h z.1)]
theorem csN_ma {ad : Nat → Nat → Nat} {S X : MS} {L : Nat → List Nat} {wn : Nat → Option Nat} {sl : Nat → Nat} {fl l q : Nat} {x y : Int32} : ∀ c i, cs (adU (adU ad 1 (8 + (L 1).length) l) 4 (L 1).length q) (s_maC S (L 1).length x y) X (lset (lset L (8 + (L 1).length) []) 1 (L 1 ++ [(L 1).length])) wn sl fl c i = cU (cs ad S X L wn sl fl) 4 (L 1).length (Ob 3 [.int x, .int y, .ref l, .int y, .int 0]) c i
  | 0, i => by
    rw [cU_n (fun z => absurd z.1 (by decide))]
    show (if i = 0 then some (Ob 12 (fHut (adU (adU ad 1 (8 + (L 1).length) l) 4 (L 1).length q) (s_maC S (L 1).length x y))) else none) = (if i = 0 then some (Ob 12 (fHut ad S)) else none)
    simp only [fHut, adM_n (show 0 < 8 by decide), adM_n (show 1 < 8 by decide), adM_n (show 2 < 8 by decide), adM_n (show 3 < 8 by decide), adM_n (show 4 < 8 by decide), adM_n (show 5 < 8 by decide), adM_n (show 6 < 8 by decide), adM_n (show 7 < 8 by decide)]
    try rfl
  | 1, i => rfl
  | 2, i => rfl
  | 3, i => by
    rw [cU_n (fun z => absurd z.1 (by decide))]
    show (if i < ((lset (lset L (8 + (L 1).length) []) 1 (L 1 ++ [(L 1).length])) 0).length then some (Ob 7 (fPlace (s_maC S (L 1).length x y) i)) else none) = (if i < (L 0).length then some (Ob 7 (fPlace S i)) else none)
    rw [lsM_n (by decide) (by decide)]
    try rfl
  | 4, i => by
    show (if i < (lset (lset L (8 + (L 1).length) []) 1 (L 1 ++ [(L 1).length]) 1).length then some (Ob 3 [.int ((s_maC S (L 1).length x y).2 7 i), .int ((s_maC S (L 1).length x y).2 8 i), .ref ((adU (adU ad 1 (8 + (L 1).length) l) 4 (L 1).length q) 1 (8 + i)), .int ((s_maC S (L 1).length x y).2 9 i), .int ((s_maC S (L 1).length x y).2 10 i)]) else none) = if 4 = 4 ∧ i = (L 1).length then some (Ob 3 [.int x, .int y, .ref l, .int y, .int 0]) else if i < (L 1).length then some (Ob 3 [.int (S.2 7 i), .int (S.2 8 i), .ref (ad 1 (8 + i)), .int (S.2 9 i), .int (S.2 10 i)]) else none
    rw [lsM_1, List.length_append, List.length_singleton, show (s_maC S (L 1).length x y).2 7 = upd (S.2 7) (L 1).length x from rfl, show (s_maC S (L 1).length x y).2 8 = upd (S.2 8) (L 1).length y from rfl, show (s_maC S (L 1).length x y).2 9 = upd (S.2 9) (L 1).length y from rfl, show (s_maC S (L 1).length x y).2 10 = upd (S.2 10) (L 1).length 0 from rfl, adU_n (fun z => absurd z.1 (by decide))]
    by_cases e : i = (L 1).length
    · rw [if_pos (by omega), if_pos ⟨rfl, e⟩, e, adU_s]
      simp only [pk_us]
    · rw [if_neg (show ¬ (4 = 4 ∧ i = (L 1).length) from fun z => e z.2), adU_n (fun z => e (by have := z.2; omega))]
      by_cases e2 : i < (L 1).length
      · rw [if_pos (by omega), if_pos e2]
        simp only [pk_un e]
      · rw [if_neg (by omega), if_neg e2]
  | 5, i => by
    rw [cU_n (fun z => absurd z.1 (by decide))]
    show (if i < ((lset (lset L (8 + (L 1).length) []) 1 (L 1 ++ [(L 1).length])) 2).length then some (Ob 6 (fPil (s_maC S (L 1).length x y) i)) else none) = (if i < (L 2).length then some (Ob 6 (fPil S i)) else none)
    rw [lsM_n (by decide) (by decide)]
    try rfl
  | 6, i => by
    rw [cU_n (fun z => absurd z.1 (by decide))]
    show (if i < ((lset (lset L (8 + (L 1).length) []) 1 (L 1 ++ [(L 1).length])) 3).length then some (Ob 2 (fLoad (s_maC S (L 1).length x y) X i)) else none) = (if i < (L 3).length then some (Ob 2 (fLoad S X i)) else none)
    rw [lsM_n (by decide) (by decide)]
    try rfl
  | 7, i => rfl
  | 8, i => by
    rw [cU_n (fun z => absurd z.1 (by decide))]
    show (if i < ((lset (lset L (8 + (L 1).length) []) 1 (L 1 ++ [(L 1).length])) 6).length then some (Ob 8 (fRule (adU (adU ad 1 (8 + (L 1).length) l) 4 (L 1).length q) X i)) else none) = (if i < (L 6).length then some (Ob 8 (fRule ad X i)) else none)
    rw [lsM_n (by decide) (by decide)]
    try rfl
  | 9, i => by
    rw [cU_n (fun z => absurd z.1 (by decide))]
    show (if i < ((lset (lset L (8 + (L 1).length) []) 1 (L 1 ++ [(L 1).length])) 6).length then some (Ai (sl i) (X.2 (100 + i))) else none) = (if i < (L 6).length then some (Ai (sl i) (X.2 (100 + i))) else none)
    rw [lsM_n (by decide) (by decide)]
    try rfl
  | 10, i => rfl
  | 11, i => rfl
  | 12, i => by
    rw [cU_n (fun z => absurd z.1 (by decide))]
    show (if i = 0 then some (Ob 9 (fBook (adU (adU ad 1 (8 + (L 1).length) l) 4 (L 1).length q) X)) else none) = (if i = 0 then some (Ob 9 (fBook ad X)) else none)
    simp only [fBook, adM_n (show 0 < 8 by decide), adM_n (show 1 < 8 by decide), adM_n (show 2 < 8 by decide), adM_n (show 3 < 8 by decide), adM_n (show 4 < 8 by decide), adM_n (show 5 < 8 by decide), adM_n (show 6 < 8 by decide), adM_n (show 7 < 8 by decide)]
    try rfl
  | 13, i => by
    rw [cU_n (fun z => absurd z.1 (by decide))]
    show (if i = 0 then some (Ob 5 (fPack (adU (adU ad 1 (8 + (L 1).length) l) 4 (L 1).length q) X)) else none) = (if i = 0 then some (Ob 5 (fPack ad X)) else none)
    simp only [fPack, adM_n (show 0 < 8 by decide), adM_n (show 1 < 8 by decide), adM_n (show 2 < 8 by decide), adM_n (show 3 < 8 by decide), adM_n (show 4 < 8 by decide), adM_n (show 5 < 8 by decide), adM_n (show 6 < 8 by decide), adM_n (show 7 < 8 by decide)]
    try rfl
  | 14, i => rfl
  | 15, i => rfl
  | 16, i => rfl
  | 17, i => rfl
  | n + 18, i => rfl
theorem c_machine {G : Nat → Nat} {O : Nat → Prop} {ad : Nat → Nat → Nat} {S X : MS} {L : Nat → List Nat} {wn : Nat → Option Nat} {sl : Nat → Nat} {fl : Nat} {h h0 : AH} {d : Nat} {x y : Int32} (hK : KR G O ad S X L wn sl fl h) (hF : KF O h0 h) (h1r : L 1 = List.range (L 1).length) (hb1 : (L 1).length ≤ 4) : Ct Y_X11_machine (d + 7) G 3 26 [.ref (ad 0 0), .int x, .int y] h (fun r h2 => r = some (.int (a_machine L x y)) ∧ (((((1 ≤ x ∧ x ≤ 200) ∧ (1 ≤ y ∧ y ≤ 2000)) ∧ (L 1).length < 4) ∧ ∃ l q, KR G O (adU (adU ad 1 (8 + (L 1).length) l) 4 (L 1).length q) (s_maC S (L 1).length x y) X (lset (lset L (8 + (L 1).length) []) 1 (L 1 ++ [(L 1).length])) wn sl fl h2 ∧ KF O h0 h2) ∨ (¬ (((1 ≤ x ∧ x ≤ 200) ∧ (1 ≤ y ∧ y ≤ 2000)) ∧ (L 1).length < 4) ∧ KR G O ad S X L wn sl fl h2 ∧ KF O h0 h2))) := by
  refine Ct.ofn 0 rfl (Nat.le_of_ble_eq_true rfl) (by simp [Value.category]) ?_
  generalize hpost : (fun (r : Option Value) (h2 : AH) => r = some (.int (a_machine L x y)) ∧ (((((1 ≤ x ∧ x ≤ 200) ∧ (1 ≤ y ∧ y ≤ 2000)) ∧ (L 1).length < 4) ∧ ∃ l q, KR G O (adU (adU ad 1 (8 + (L 1).length) l) 4 (L 1).length q) (s_maC S (L 1).length x y) X (lset (lset L (8 + (L 1).length) []) 1 (L 1 ++ [(L 1).length])) wn sl fl h2 ∧ KF O h0 h2) ∨ (¬ (((1 ≤ x ∧ x ≤ 200) ∧ (1 ≤ y ∧ y ≤ 2000)) ∧ (L 1).length < 4) ∧ KR G O ad S X L wn sl fl h2 ∧ KF O h0 h2))) = post
  show J Y_X11_machine (d + 7) G 3 26 0 [some (.ref (ad 0 0)), some (.int x), some (.int y)] [] h post
  refine J.iload_n 1 dX11_machine_0 rfl rfl ?_
  refine J.iconst 1 2 dX11_machine_1 rfl (by decide) ?_
  refine J.sipush 200 5 dX11_machine_2 rfl (by decide) ?_
  refine cs_X11_75 rfl 8 (c_isWithin (v := x) (a := 1) (b := 200) _ _) dX11_machine_5 rfl rfl rfl (Nat.le_of_ble_eq_true rfl) (Nat.zero_le _) (Nat.zero_le _) (fun r h2 hp => ?_)
  obtain ⟨rfl, rfl⟩ := hp
  refine J.if_eq 22 11 dX11_machine_8 (by decide) rfl (fun c1 => ?_) (fun c1 => ?_)
  · skip
    refine J.iconst (-1) 23 dX11_machine_22 rfl (by decide) ?_
    exact J.iret dX11_machine_23 rfl (by rw [← hpost]; have hn : ¬ ((1 ≤ x ∧ x ≤ 200) ∧ (1 ≤ y ∧ y ≤ 2000)) := fun z => ib_0.mp c1 z.1; exact ⟨by rw [a_machine, if_neg hn], Or.inr ⟨fun z => hn z.1, hK, hF⟩⟩)
  · skip
    have ho1 := ib_n.mp c1
    refine J.iload_n 12 dX11_machine_11 rfl rfl ?_
    refine J.iconst 1 13 dX11_machine_12 rfl (by decide) ?_
    refine J.sipush 2000 16 dX11_machine_13 rfl (by decide) ?_
    refine cs_X11_75 rfl 19 (c_isWithin (v := y) (a := 1) (b := 2000) _ _) dX11_machine_16 rfl rfl rfl (Nat.le_of_ble_eq_true rfl) (Nat.zero_le _) (Nat.zero_le _) (fun r h2 hp => ?_)
    obtain ⟨rfl, rfl⟩ := hp
    refine J.if_ne 24 22 dX11_machine_19 (by decide) rfl (fun c2 => ?_) (fun c2 => ?_)
    · skip
      have hok := And.intro ho1 (ib_n.mp c2)
      refine J.aload_n 25 dX11_machine_24 rfl rfl ?_
      refine gf_X11_16 rfl 28 dX11_machine_25 rfl (hK.hut) (v := .ref (ad 1 1)) rfl ?_
      refine cv_X11_79 rfl 31 (hK.size (r := 1) (by omega)) dX11_machine_28 rfl (hK.listOb (r := 1) (by omega)).choose_spec rfl rfl (Nat.le_of_ble_eq_true rfl) (Nat.zero_le _) (Nat.zero_le _) (fun r h2 hp => ?_)
      obtain ⟨rfl, rfl⟩ := hp
      refine J.iconst 4 32 dX11_machine_31 rfl (by decide) ?_
      refine J.icmp_lt 38 35 dX11_machine_32 (by decide) rfl (fun c3 => ?_) (fun c3 => ?_)
      · skip
        have hcap : (L 1).length < 4 := (nI_ltI (b := 4) (by omega) (by decide)).mp c3
        refine J.aload_n 39 dX11_machine_38 rfl rfl ?_
        refine gf_X11_16 rfl 42 dX11_machine_39 rfl (hK.hut) (v := .ref (ad 1 1)) rfl ?_
        refine nw_X11_83 rfl 45 dX11_machine_42 rfl rfl rfl (fun q hq => ?_)
        refine J.dup 46 dX11_machine_45 rfl rfl ?_
        refine J.iload_n 47 dX11_machine_46 rfl rfl ?_
        refine J.iload_n 48 dX11_machine_47 rfl rfl ?_
        refine cn_X11_85 rfl 51 (c_maInit (d := d + 2) (x := x) (y := y) hu_s) dX11_machine_48 rfl rfl rfl (Nat.le_of_ble_eq_true rfl) (by decide) (by decide) (fun r h2 hp => ?_)
        obtain ⟨rfl, l, hl, nl, rfl⟩ := hp
        rw [hu_sw nl, hu_hu, hu_sw (Ne.symm nl)]
        rw [hu_n nl] at hl
        have hq1 := hu_fr (e := Ob 0 [.int 0, .ref (G 0), .int 0]) (Ne.symm nl) hq
        have g1 := hK.kg.list (r0 := 8 + (L 1).length) (mc := 0) hF hl (Nat.lt_irrefl _) (fun _ => rfl)
        have g2 := g1.1.cell (c0 := 4) (i0 := (L 1).length) (e := (Ob 3 [.int x, .int y, .ref l, .int y, .int 0])) g1.2 hq1 (by decide) (if_neg (Nat.lt_irrefl _)) ⟨fun fs z => (by cases z), fun n f z => (by first | (cases z; done) | (simp at z))⟩
        have kad := g2.1.add (d := d) (h0 := h0) (r := 1) (x := (L 1).length) (M := 18) g2.2 (Or.inl (by omega)) (by rw [lset_n (by omega)]; omega) (by rw [lset_n (by omega)]; omega) ⟨3, _, cU_s, by decide⟩
        rw [show (adU (adU ad 1 (8 + (L 1).length) l) 4 (L 1).length q) (ek 1) (L 1).length = q from adU_s, adM_n (by decide), lset_n (show 1 ≠ 8 + (L 1).length by omega)] at kad
        refine cv_X11_71 rfl 54 kad dX11_machine_51 rfl (((hK.fresh (e := Ob 0 [.int 0, .ref (G 0), .int 0]) hl).fresh (e := (Ob 3 [.int x, .int y, .ref l, .int y, .int 0])) hq1).listOb (r := 1) (by omega)).choose_spec rfl rfl (Nat.le_of_ble_eq_true rfl) (by decide) (by decide) (fun r h hp => ?_)
        obtain ⟨rfl, g3, hF⟩ := hp
        have hK := g3.kr (S := (s_maC S (L 1).length x y)) (X := X) (wn := wn) (sl := sl) (fl := fl) csN_ma (fun r hr => by rw [lsM_1, List.length_append, List.length_singleton] at hr; by_cases z : r = 8 + (L 1).length; exact Or.inr z; exact Or.inl (by omega))
        refine J.pop 55 dX11_machine_54 rfl rfl ?_
        refine J.aload_n 56 dX11_machine_55 rfl rfl ?_
        refine gf_X11_16 rfl 59 dX11_machine_56 rfl hK.hut (v := .ref (ad 1 1)) (by show some (Value.ref ((adU (adU ad 1 (8 + (L 1).length) l) 4 (L 1).length q) 1 1)) = _; rw [adM_n (by decide)]) ?_
        have ks := hK.size (d := d + 6) (r := 1) (by omega)
        rw [lsM_1, List.length_append, List.length_singleton, adM_n (by decide)] at ks
        obtain ⟨fs9, hlo⟩ := hK.listOb (r := 1) (by omega)
        rw [adM_n (by decide)] at hlo
        refine cv_X11_79 rfl 62 ks dX11_machine_59 rfl hlo rfl rfl (Nat.le_of_ble_eq_true rfl) (Nat.zero_le _) (Nat.zero_le _) (fun r h2 hp => ?_)
        obtain ⟨rfl, rfl⟩ := hp
        refine J.iconst 1 63 dX11_machine_62 rfl (by decide) ?_
        refine J.isub 64 dX11_machine_63 rfl ?_
        exact J.iret dX11_machine_64 rfl (by rw [← hpost]; exact ⟨by rw [a_machine, if_pos hok, if_pos hcap, nI_m1], Or.inl ⟨⟨hok, hcap⟩, l, q, hK, hF⟩⟩)
      · skip
        have hcap : ¬ (L 1).length < 4 := fun z => c3 (nI_lt (b := 4) z (by decide))
        refine J.bipush (-2) 37 dX11_machine_35 rfl (by decide) ?_
        exact J.iret dX11_machine_37 rfl (by rw [← hpost]; exact ⟨by rw [a_machine, if_pos hok, if_neg hcap], Or.inr ⟨fun z => hcap z.2, hK, hF⟩⟩)
    · skip
      refine J.iconst (-1) 23 dX11_machine_22 rfl (by decide) ?_
      exact J.iret dX11_machine_23 rfl (by rw [← hpost]; have hn : ¬ ((1 ≤ x ∧ x ≤ 200) ∧ (1 ≤ y ∧ y ≤ 2000)) := fun z => ib_0.mp c2 z.2; exact ⟨by rw [a_machine, if_neg hn], Or.inr ⟨fun z => hn z.1, hK, hF⟩⟩)
