theorem c_loInit {d : Nat} {G : Nat → Nat} {h : AH} {a : Nat} {u v w x z : Int32} (ha : h a = some (Ob 2 [.int 0, .int 0, .int 0, .int 0, .int 0, .int 0, .int 0, .int 0, .int 0, .int 0, .int 0, .int 0, .int 0])) : Ct Y_X1_init (d + 1) G 0 0 [.ref a, .int u, .int v, .int w, .int x, .int z] h (fun r h2 => r = none ∧ h2 = hu h a (Ob 2 [.int u, .int (v / 10000), .int (v / 100 - v / 100 / 100 * 100), .int (v - v / 100 * 100), .int w, .int x, .int z, .int 0, .int (-1), .int (-1), .int 0, .int (-1), .int 0])) := by
  refine Ct.ofn 0 rfl (Nat.le_of_ble_eq_true rfl) (by simp [Value.category]) ?_
  generalize hpost : (fun (r : Option Value) (h2 : AH) => r = none ∧ h2 = hu h a (Ob 2 [.int u, .int (v / 10000), .int (v / 100 - v / 100 / 100 * 100), .int (v - v / 100 * 100), .int w, .int x, .int z, .int 0, .int (-1), .int (-1), .int 0, .int (-1), .int 0])) = post
  show J Y_X1_init (d + 1) G 0 0 0 [some (.ref a), some (.int u), some (.int v), some (.int w), some (.int x), some (.int z)] [] h post
  refine J.aload_n 1 dX1_init_0 rfl rfl ?_
  refine co_X1_3 rfl 4 dX1_init_1 rfl (Nat.le_of_ble_eq_true rfl) ?_
  refine J.aload_n 5 dX1_init_4 rfl rfl ?_
  refine J.iconst 0 6 dX1_init_5 rfl (by decide) ?_
  refine pf_X1_9 rfl 9 dX1_init_6 rfl ha (Nat.le_of_ble_eq_true rfl) ?_
  refine J.nmH (fun h1 eh1 => ?_)
  have f1 : h1 a = some (Ob 2 [.int 0, .int 0, .int 0, .int 0, .int 0, .int 0, .int 0, .int 0, .int 0, .int 0, .int 0, .int 0, .int 0]) := by rw [eh1]; exact hu_s
  refine J.aload_n 10 dX1_init_9 rfl rfl ?_
  refine J.iconst (-1) 11 dX1_init_10 rfl (by decide) ?_
  refine pf_X1_15 rfl 14 dX1_init_11 rfl f1 (Nat.le_of_ble_eq_true rfl) ?_
  refine J.nmH (fun h2 eh2 => ?_)
  have f2 : h2 a = some (Ob 2 [.int 0, .int 0, .int 0, .int 0, .int 0, .int 0, .int 0, .int 0, .int (-1), .int 0, .int 0, .int 0, .int 0]) := by rw [eh2]; exact hu_s
  refine J.aload_n 15 dX1_init_14 rfl rfl ?_
  refine J.iconst (-1) 16 dX1_init_15 rfl (by decide) ?_
  refine pf_X1_18 rfl 19 dX1_init_16 rfl f2 (Nat.le_of_ble_eq_true rfl) ?_
  refine J.nmH (fun h3 eh3 => ?_)
  have f3 : h3 a = some (Ob 2 [.int 0, .int 0, .int 0, .int 0, .int 0, .int 0, .int 0, .int 0, .int (-1), .int (-1), .int 0, .int 0, .int 0]) := by rw [eh3]; exact hu_s
  refine J.aload_n 20 dX1_init_19 rfl rfl ?_
  refine J.iconst (-1) 21 dX1_init_20 rfl (by decide) ?_
  refine pf_X1_21 rfl 24 dX1_init_21 rfl f3 (Nat.le_of_ble_eq_true rfl) ?_
  refine J.nmH (fun h4 eh4 => ?_)
  have f4 : h4 a = some (Ob 2 [.int 0, .int 0, .int 0, .int 0, .int 0, .int 0, .int 0, .int 0, .int (-1), .int (-1), .int 0, .int (-1), .int 0]) := by rw [eh4]; exact hu_s
  refine J.aload_n 25 dX1_init_24 rfl rfl ?_
  refine J.iload_n 26 dX1_init_25 rfl rfl ?_
  refine pf_X1_24 rfl rfl 29 dX1_init_26 rfl f4 (Nat.le_of_ble_eq_true rfl) ?_
  refine J.nmH (fun h5 eh5 => ?_)
  have f5 : h5 a = some (Ob 2 [.int u, .int 0, .int 0, .int 0, .int 0, .int 0, .int 0, .int 0, .int (-1), .int (-1), .int 0, .int (-1), .int 0]) := by rw [eh5]; exact hu_s
  refine J.aload_n 30 dX1_init_29 rfl rfl ?_
  refine J.iload_n 31 dX1_init_30 rfl rfl ?_
  refine J.sipush 10000 34 dX1_init_31 rfl (by decide) ?_
  refine J.idiv 35 dX1_init_34 rfl (by decide) ?_
  refine pf_X1_27 rfl rfl 38 dX1_init_35 rfl f5 (Nat.le_of_ble_eq_true rfl) ?_
  refine J.nmH (fun h6 eh6 => ?_)
  have f6 : h6 a = some (Ob 2 [.int u, .int (v / 10000), .int 0, .int 0, .int 0, .int 0, .int 0, .int 0, .int (-1), .int (-1), .int 0, .int (-1), .int 0]) := by rw [eh6]; exact hu_s
  refine J.aload_n 39 dX1_init_38 rfl rfl ?_
  refine J.iload_n 40 dX1_init_39 rfl rfl ?_
  refine J.bipush 100 42 dX1_init_40 rfl (by decide) ?_
  refine J.idiv 43 dX1_init_42 rfl (by decide) ?_
  refine J.bipush 100 45 dX1_init_43 rfl (by decide) ?_
  refine J.irem 46 dX1_init_45 rfl (by decide) ?_
  refine pf_X1_30 rfl rfl 49 dX1_init_46 rfl f6 (Nat.le_of_ble_eq_true rfl) ?_
  refine J.nmH (fun h7 eh7 => ?_)
  have f7 : h7 a = some (Ob 2 [.int u, .int (v / 10000), .int ((v / 100) - (v / 100) / 100 * 100), .int 0, .int 0, .int 0, .int 0, .int 0, .int (-1), .int (-1), .int 0, .int (-1), .int 0]) := by rw [eh7]; exact hu_s
  refine J.aload_n 50 dX1_init_49 rfl rfl ?_
  refine J.iload_n 51 dX1_init_50 rfl rfl ?_
  refine J.bipush 100 53 dX1_init_51 rfl (by decide) ?_
  refine J.irem 54 dX1_init_53 rfl (by decide) ?_
  refine pf_X1_33 rfl rfl 57 dX1_init_54 rfl f7 (Nat.le_of_ble_eq_true rfl) ?_
  refine J.nmH (fun h8 eh8 => ?_)
  have f8 : h8 a = some (Ob 2 [.int u, .int (v / 10000), .int ((v / 100) - (v / 100) / 100 * 100), .int (v - v / 100 * 100), .int 0, .int 0, .int 0, .int 0, .int (-1), .int (-1), .int 0, .int (-1), .int 0]) := by rw [eh8]; exact hu_s
  refine J.aload_n 58 dX1_init_57 rfl rfl ?_
  refine J.iload_n 59 dX1_init_58 rfl rfl ?_
  refine pf_X1_36 rfl rfl 62 dX1_init_59 rfl f8 (Nat.le_of_ble_eq_true rfl) ?_
  refine J.nmH (fun h9 eh9 => ?_)
  have f9 : h9 a = some (Ob 2 [.int u, .int (v / 10000), .int ((v / 100) - (v / 100) / 100 * 100), .int (v - v / 100 * 100), .int w, .int 0, .int 0, .int 0, .int (-1), .int (-1), .int 0, .int (-1), .int 0]) := by rw [eh9]; exact hu_s
  refine J.aload_n 63 dX1_init_62 rfl rfl ?_
  refine J.iload 65 dX1_init_63 rfl rfl ?_
  refine pf_X1_39 rfl rfl 68 dX1_init_65 rfl f9 (Nat.le_of_ble_eq_true rfl) ?_
  refine J.nmH (fun h10 eh10 => ?_)
  have f10 : h10 a = some (Ob 2 [.int u, .int (v / 10000), .int ((v / 100) - (v / 100) / 100 * 100), .int (v - v / 100 * 100), .int w, .int x, .int 0, .int 0, .int (-1), .int (-1), .int 0, .int (-1), .int 0]) := by rw [eh10]; exact hu_s
  refine J.aload_n 69 dX1_init_68 rfl rfl ?_
  refine J.iload 71 dX1_init_69 rfl rfl ?_
  refine pf_X1_42 rfl rfl 74 dX1_init_71 rfl f10 (Nat.le_of_ble_eq_true rfl) ?_
  refine J.nmH (fun h11 eh11 => ?_)
  have f11 : h11 a = some (Ob 2 [.int u, .int (v / 10000), .int ((v / 100) - (v / 100) / 100 * 100), .int (v - v / 100 * 100), .int w, .int x, .int z, .int 0, .int (-1), .int (-1), .int 0, .int (-1), .int 0]) := by rw [eh11]; exact hu_s
  exact J.vret dX1_init_74 rfl (by rw [← hpost]; exact ⟨rfl, by rw [eh11, eh10, eh9, eh8, eh7, eh6, eh5, eh4, eh3, eh2, eh1]; simp only [hu_hu]; rfl⟩)
def s_loadC (S : MS) (n : Nat) (x w y z : Int32) : MS := (S.1, u2 (u2 (u2 (u2 (u2 (u2 (u2 (u2 (u2 (u2 (u2 S.2 20 n (x / 10000)) 17 n (x / 100 - x / 100 / 100 * 100)) 19 n (x - x / 100 * 100)) 18 n w) 21 n y) 22 n z) 23 n 0) 24 n (-1)) 25 n (-1)) 26 n (-1)) 27 n 0)
def a_load (L : Nat → List Nat) (x w y z : Int32) : Int32 := if ((0 ≤ x ∧ x / 10000 ≤ 4 ∧ (0 < x / 100 - x / 100 / 100 * 100 ∧ x / 100 - x / 100 / 100 * 100 < nI (L 0).length) ∧ (1 ≤ x - x / 100 * 100 ∧ x - x / 100 * 100 ≤ 9)) ∧ (1 ≤ w ∧ w ≤ 99) ∧ (0 ≤ y ∧ y ≤ 720) ∧ (0 ≤ z ∧ z ≤ 720)) then (if (L 3).length < 80 then nI (L 3).length else -2) else -1
theorem csN_load {ad : Nat → Nat → Nat} {S X : MS} {L : Nat → List Nat} {wn : Nat → Option Nat} {sl : Nat → Nat} {fl q : Nat} {x w y z : Int32} : ∀ c i, cs (adU ad 6 (L 3).length q) (s_loadC S (L 3).length x w y z) (X.1, u2 X.2 0 (L 3).length 0) (lset L 3 (L 3 ++ [(L 3).length])) wn sl fl c i = if c = 6 ∧ i = (L 3).length then some (Ob 2 [.int (nI (L 3).length), .int (x / 10000), .int (x / 100 - x / 100 / 100 * 100), .int (x - x / 100 * 100), .int w, .int y, .int z, .int 0, .int (-1), .int (-1), .int 0, .int (-1), .int 0]) else cs ad S X L wn sl fl c i
  | 0, i => rfl
  | 1, i => rfl
  | 2, i => rfl
  | 3, i => rfl
  | 4, i => rfl
  | 5, i => rfl
  | 6, i => by
    show (if i < (L 3 ++ [(L 3).length]).length then some (Ob 2 [.int (nI i), .int (upd (S.2 20) (L 3).length (x / 10000) i), .int (upd (S.2 17) (L 3).length (x / 100 - x / 100 / 100 * 100) i), .int (upd (S.2 19) (L 3).length (x - x / 100 * 100) i), .int (upd (S.2 18) (L 3).length w i), .int (upd (S.2 21) (L 3).length y i), .int (upd (S.2 22) (L 3).length z i), .int (upd (S.2 23) (L 3).length 0 i), .int (upd (S.2 24) (L 3).length (-1) i), .int (upd (S.2 25) (L 3).length (-1) i), .int (upd (X.2 0) (L 3).length 0 i), .int (upd (S.2 26) (L 3).length (-1) i), .int (upd (S.2 27) (L 3).length 0 i)]) else none) = if 6 = 6 ∧ i = (L 3).length then some (Ob 2 [.int (nI (L 3).length), .int (x / 10000), .int (x / 100 - x / 100 / 100 * 100), .int (x - x / 100 * 100), .int w, .int y, .int z, .int 0, .int (-1), .int (-1), .int 0, .int (-1), .int 0]) else if i < (L 3).length then some (Ob 2 (fLoad S X i)) else none
    rw [List.length_append, List.length_singleton]
    by_cases e : i = (L 3).length
    · rw [if_pos (by omega), if_pos ⟨rfl, e⟩, e]
      simp only [pk_us]
    · rw [if_neg (show ¬ (6 = 6 ∧ i = (L 3).length) from fun z => e z.2)]
      by_cases e2 : i < (L 3).length
      · rw [if_pos (by omega), if_pos e2]
        simp only [pk_un e, fLoad]
      · rw [if_neg (by omega), if_neg e2]
  | 7, i => rfl
  | 8, i => rfl
  | 9, i => by
    show (if i < (L 6).length then some (Ai (sl i) (u2 X.2 0 (L 3).length 0 (100 + i))) else none) = (if i < (L 6).length then some (Ai (sl i) (X.2 (100 + i))) else none)
    rw [u2_n (by omega)]
  | 10, i => rfl
  | 11, i => rfl
  | 12, i => rfl
  | 13, i => rfl
  | 14, i => rfl
  | 15, i => rfl
  | 16, i => rfl
  | 17, i => rfl
  | n + 18, i => rfl
theorem c_load {G : Nat → Nat} {O : Nat → Prop} {ad : Nat → Nat → Nat} {S X : MS} {L : Nat → List Nat} {wn : Nat → Option Nat} {sl : Nat → Nat} {fl : Nat} {h h0 : AH} {d : Nat} {x w y z : Int32} (hK : KR G O ad S X L wn sl fl h) (hF : KF O h0 h) (hb0 : (L 0).length ≤ 12) (h3r : L 3 = List.range (L 3).length) (hb3 : (L 3).length ≤ 80) : Ct Y_X11_load (d + 7) G 2 183 [.ref (ad 0 0), .int x, .int w, .int y, .int z] h (fun r h2 => r = some (.int (a_load L x w y z)) ∧ (((((0 ≤ x ∧ x / 10000 ≤ 4 ∧ (0 < x / 100 - x / 100 / 100 * 100 ∧ x / 100 - x / 100 / 100 * 100 < nI (L 0).length) ∧ (1 ≤ x - x / 100 * 100 ∧ x - x / 100 * 100 ≤ 9)) ∧ (1 ≤ w ∧ w ≤ 99) ∧ (0 ≤ y ∧ y ≤ 720) ∧ (0 ≤ z ∧ z ≤ 720)) ∧ (L 3).length < 80) ∧ ∃ q, KR G O (adU ad 6 (L 3).length q) (s_loadC S (L 3).length x w y z) (X.1, u2 X.2 0 (L 3).length 0) (lset L 3 (L 3 ++ [(L 3).length])) wn sl fl h2 ∧ KF O h0 h2) ∨ (¬ (((0 ≤ x ∧ x / 10000 ≤ 4 ∧ (0 < x / 100 - x / 100 / 100 * 100 ∧ x / 100 - x / 100 / 100 * 100 < nI (L 0).length) ∧ (1 ≤ x - x / 100 * 100 ∧ x - x / 100 * 100 ≤ 9)) ∧ (1 ≤ w ∧ w ≤ 99) ∧ (0 ≤ y ∧ y ≤ 720) ∧ (0 ≤ z ∧ z ≤ 720)) ∧ (L 3).length < 80) ∧ KR G O ad S X L wn sl fl h2 ∧ KF O h0 h2))) := by
  refine Ct.ofn 0 rfl (Nat.le_of_ble_eq_true rfl) (by simp [Value.category]) ?_
  generalize hpost : (fun (r : Option Value) (h2 : AH) => r = some (.int (a_load L x w y z)) ∧ (((((0 ≤ x ∧ x / 10000 ≤ 4 ∧ (0 < x / 100 - x / 100 / 100 * 100 ∧ x / 100 - x / 100 / 100 * 100 < nI (L 0).length) ∧ (1 ≤ x - x / 100 * 100 ∧ x - x / 100 * 100 ≤ 9)) ∧ (1 ≤ w ∧ w ≤ 99) ∧ (0 ≤ y ∧ y ≤ 720) ∧ (0 ≤ z ∧ z ≤ 720)) ∧ (L 3).length < 80) ∧ ∃ q, KR G O (adU ad 6 (L 3).length q) (s_loadC S (L 3).length x w y z) (X.1, u2 X.2 0 (L 3).length 0) (lset L 3 (L 3 ++ [(L 3).length])) wn sl fl h2 ∧ KF O h0 h2) ∨ (¬ (((0 ≤ x ∧ x / 10000 ≤ 4 ∧ (0 < x / 100 - x / 100 / 100 * 100 ∧ x / 100 - x / 100 / 100 * 100 < nI (L 0).length) ∧ (1 ≤ x - x / 100 * 100 ∧ x - x / 100 * 100 ≤ 9)) ∧ (1 ≤ w ∧ w ≤ 99) ∧ (0 ≤ y ∧ y ≤ 720) ∧ (0 ≤ z ∧ z ≤ 720)) ∧ (L 3).length < 80) ∧ KR G O ad S X L wn sl fl h2 ∧ KF O h0 h2))) = post
  show J Y_X11_load (d + 7) G 2 183 0 [some (.ref (ad 0 0)), some (.int x), some (.int w), some (.int y), some (.int z)] [] h post
  refine J.aload_n 1 dX11_load_0 rfl rfl ?_
  refine J.iload_n 2 dX11_load_1 rfl rfl ?_
  refine cv_X11_91 rfl 5 (c_isCargo (x := x) hK hb0) dX11_load_2 rfl (hK.hut) rfl rfl (Nat.le_of_ble_eq_true rfl) (Nat.zero_le _) (Nat.zero_le _) (fun r h2 hp => ?_)
  obtain ⟨rfl, rfl⟩ := hp
  refine J.if_eq 18 8 dX11_load_5 (by decide) rfl (fun c1 => ?_) (fun c1 => ?_)
  · skip
    refine J.iconst (-1) 19 dX11_load_18 rfl (by decide) ?_
    exact J.iret dX11_load_19 rfl (by rw [← hpost]; have hn : ¬ ((0 ≤ x ∧ x / 10000 ≤ 4 ∧ (0 < x / 100 - x / 100 / 100 * 100 ∧ x / 100 - x / 100 / 100 * 100 < nI (L 0).length) ∧ (1 ≤ x - x / 100 * 100 ∧ x - x / 100 * 100 ≤ 9)) ∧ (1 ≤ w ∧ w ≤ 99) ∧ (0 ≤ y ∧ y ≤ 720) ∧ (0 ≤ z ∧ z ≤ 720)) := fun z => ib_0.mp c1 z.1; exact ⟨by rw [a_load, if_neg hn], Or.inr ⟨fun z => hn z.1, hK, hF⟩⟩)
  · skip
    have ho1 := ib_n.mp c1
    refine J.iload_n 9 dX11_load_8 rfl rfl ?_
    refine J.iconst 1 10 dX11_load_9 rfl (by decide) ?_
    refine J.bipush 99 12 dX11_load_10 rfl (by decide) ?_
    refine cs_X11_75 rfl 15 (c_isWithin (v := w) (a := 1) (b := 99) _ _) dX11_load_12 rfl rfl rfl (Nat.le_of_ble_eq_true rfl) (Nat.zero_le _) (Nat.zero_le _) (fun r h2 hp => ?_)
    obtain ⟨rfl, rfl⟩ := hp
    refine J.if_ne 20 18 dX11_load_15 (by decide) rfl (fun c2 => ?_) (fun c2 => ?_)
    · skip
      have ho2 := ib_n.mp c2
      refine J.iload_n 21 dX11_load_20 rfl rfl ?_
      refine J.iconst 0 22 dX11_load_21 rfl (by decide) ?_
      refine J.sipush 720 25 dX11_load_22 rfl (by decide) ?_
      refine cs_X11_75 rfl 28 (c_isWithin (v := y) (a := 0) (b := 720) _ _) dX11_load_25 rfl rfl rfl (Nat.le_of_ble_eq_true rfl) (Nat.zero_le _) (Nat.zero_le _) (fun r h2 hp => ?_)
      obtain ⟨rfl, rfl⟩ := hp
      refine J.if_eq 43 31 dX11_load_28 (by decide) rfl (fun c3 => ?_) (fun c3 => ?_)
      · skip
        refine J.iconst (-1) 44 dX11_load_43 rfl (by decide) ?_
        exact J.iret dX11_load_44 rfl (by rw [← hpost]; have hn : ¬ ((0 ≤ x ∧ x / 10000 ≤ 4 ∧ (0 < x / 100 - x / 100 / 100 * 100 ∧ x / 100 - x / 100 / 100 * 100 < nI (L 0).length) ∧ (1 ≤ x - x / 100 * 100 ∧ x - x / 100 * 100 ≤ 9)) ∧ (1 ≤ w ∧ w ≤ 99) ∧ (0 ≤ y ∧ y ≤ 720) ∧ (0 ≤ z ∧ z ≤ 720)) := fun z => ib_0.mp c3 z.2.2.1; exact ⟨by rw [a_load, if_neg hn], Or.inr ⟨fun z => hn z.1, hK, hF⟩⟩)
      · skip
        have ho3 := ib_n.mp c3
        refine J.iload 33 dX11_load_31 rfl rfl ?_
        refine J.iconst 0 34 dX11_load_33 rfl (by decide) ?_
        refine J.sipush 720 37 dX11_load_34 rfl (by decide) ?_
        refine cs_X11_75 rfl 40 (c_isWithin (v := z) (a := 0) (b := 720) _ _) dX11_load_37 rfl rfl rfl (Nat.le_of_ble_eq_true rfl) (Nat.zero_le _) (Nat.zero_le _) (fun r h2 hp => ?_)
        obtain ⟨rfl, rfl⟩ := hp
        refine J.if_ne 45 43 dX11_load_40 (by decide) rfl (fun c4 => ?_) (fun c4 => ?_)
        · skip
          have hok := And.intro ho1 (And.intro ho2 (And.intro ho3 (ib_n.mp c4)))
          refine J.aload_n 46 dX11_load_45 rfl rfl ?_
          refine gf_X11_22 rfl 49 dX11_load_46 rfl (hK.hut) (v := .ref (ad 1 3)) rfl ?_
          refine cv_X11_79 rfl 52 (hK.size (r := 3) (by omega)) dX11_load_49 rfl (hK.listOb (r := 3) (by omega)).choose_spec rfl rfl (Nat.le_of_ble_eq_true rfl) (Nat.zero_le _) (Nat.zero_le _) (fun r h2 hp => ?_)
          obtain ⟨rfl, rfl⟩ := hp
          refine J.bipush 80 54 dX11_load_52 rfl (by decide) ?_
          refine J.icmp_lt 60 57 dX11_load_54 (by decide) rfl (fun c5 => ?_) (fun c5 => ?_)
          · skip
            have hcap : (L 3).length < 80 := (nI_ltI (b := 80) (by omega) (by decide)).mp c5
            refine J.aload_n 61 dX11_load_60 rfl rfl ?_
            refine gf_X11_22 rfl 64 dX11_load_61 rfl (hK.hut) (v := .ref (ad 1 3)) rfl ?_
            refine nw_X11_95 rfl 67 dX11_load_64 rfl rfl rfl (fun q hq => ?_)
            have hK0 := hK
            have hK := hK.fresh (e := Ob 2 [.int 0, .int 0, .int 0, .int 0, .int 0, .int 0, .int 0, .int 0, .int 0, .int 0, .int 0, .int 0, .int 0]) hq
            refine J.dup 68 dX11_load_67 rfl rfl ?_
            refine J.aload_n 69 dX11_load_68 rfl rfl ?_
            refine gf_X11_22 rfl 72 dX11_load_69 rfl (hK.hut) (v := .ref (ad 1 3)) rfl ?_
            refine cv_X11_79 rfl 75 (hK.size (r := 3) (by omega)) dX11_load_72 rfl (hK.listOb (r := 3) (by omega)).choose_spec rfl rfl (Nat.le_of_ble_eq_true rfl) (Nat.zero_le _) (Nat.zero_le _) (fun r h2 hp => ?_)
            obtain ⟨rfl, rfl⟩ := hp
            refine J.iload_n 76 dX11_load_75 rfl rfl ?_
            refine J.iload_n 77 dX11_load_76 rfl rfl ?_
            refine J.iload_n 78 dX11_load_77 rfl rfl ?_
            refine J.iload 80 dX11_load_78 rfl rfl ?_
            refine cn_X11_97 rfl 83 (c_loInit (u := nI (L 3).length) (v := x) (w := w) (x := y) (z := z) hu_s) dX11_load_80 rfl rfl rfl (Nat.le_of_ble_eq_true rfl) (Nat.zero_le _) (Nat.zero_le _) (fun r h2 hp => ?_)
            obtain ⟨rfl, rfl⟩ := hp
            rw [hu_hu]
            replace hK := hK0.fresh (e := (Ob 2 [.int (nI (L 3).length), .int (x / 10000), .int (x / 100 - x / 100 / 100 * 100), .int (x - x / 100 * 100), .int w, .int y, .int z, .int 0, .int (-1), .int (-1), .int 0, .int (-1), .int 0])) hq
            have hdd : cs ad S X L wn sl fl 6 (L 3).length = none := if_neg (Nat.lt_irrefl _)
            have kad := hK0.growL (d := d) (h0 := h0) (S2 := (s_loadC S (L 3).length x w y z)) (X2 := (X.1, u2 X.2 0 (L 3).length 0)) (q := q) (c0 := 6) (r := 3) (n := (L 3).length) (M := 170) hF hq (by decide) rfl (fun r2 h1 h2 => hK0.nomem hdd h1 h2) (by omega) (by decide) (by omega) (by omega) (csN_load) hdd ⟨2, _, rfl, by decide⟩ ⟨fun fs z => (by cases z), fun n f z => (by cases z)⟩
            refine cv_X11_71 rfl 86 kad dX11_load_83 rfl (hK.listOb (r := 3) (by omega)).choose_spec rfl rfl (Nat.le_of_ble_eq_true rfl) (by omega) (by omega) (fun r h hp => ?_)
            obtain ⟨rfl, hK, hF⟩ := hp
            refine J.pop 87 dX11_load_86 rfl rfl ?_
            refine J.aload_n 88 dX11_load_87 rfl rfl ?_
            refine gf_X11_22 rfl 91 dX11_load_88 rfl (hK.hut) (v := .ref ((adU ad 6 (L 3).length q) 1 3)) rfl ?_
            have ks := hK.size (d := d + 6) (r := 3) (by show 3 < 8 + (lset L 3 _ 1).length; omega)
            rw [lset_s, List.length_append, List.length_singleton] at ks
            refine cv_X11_79 rfl 94 ks dX11_load_91 rfl (hK.listOb (r := 3) (by omega)).choose_spec rfl rfl (Nat.le_of_ble_eq_true rfl) (Nat.zero_le _) (Nat.zero_le _) (fun r h2 hp => ?_)
            obtain ⟨rfl, rfl⟩ := hp
            refine J.iconst 1 95 dX11_load_94 rfl (by decide) ?_
            refine J.isub 96 dX11_load_95 rfl ?_
            exact J.iret dX11_load_96 rfl (by rw [← hpost]; exact ⟨by rw [a_load, if_pos hok, if_pos hcap, nI_m1], Or.inl ⟨⟨hok, hcap⟩, q, hK, hF⟩⟩)
          · skip
            have hcap : ¬ (L 3).length < 80 := fun z => c5 (nI_lt (b := 80) z (by decide))
            refine J.bipush (-2) 59 dX11_load_57 rfl (by decide) ?_
            exact J.iret dX11_load_59 rfl (by rw [← hpost]; exact ⟨by rw [a_load, if_pos hok, if_neg hcap], Or.inr ⟨fun z => hcap z.2, hK, hF⟩⟩)
        · skip
          refine J.iconst (-1) 44 dX11_load_43 rfl (by decide) ?_
          exact J.iret dX11_load_44 rfl (by rw [← hpost]; have hn : ¬ ((0 ≤ x ∧ x / 10000 ≤ 4 ∧ (0 < x / 100 - x / 100 / 100 * 100 ∧ x / 100 - x / 100 / 100 * 100 < nI (L 0).length) ∧ (1 ≤ x - x / 100 * 100 ∧ x - x / 100 * 100 ≤ 9)) ∧ (1 ≤ w ∧ w ≤ 99) ∧ (0 ≤ y ∧ y ≤ 720) ∧ (0 ≤ z ∧ z ≤ 720)) := fun z => ib_0.mp c4 z.2.2.2; exact ⟨by rw [a_load, if_neg hn], Or.inr ⟨fun z => hn z.1, hK, hF⟩⟩)
    · skip
      refine J.iconst (-1) 19 dX11_load_18 rfl (by decide) ?_
      exact J.iret dX11_load_19 rfl (by rw [← hpost]; have hn : ¬ ((0 ≤ x ∧ x / 10000 ≤ 4 ∧ (0 < x / 100 - x / 100 / 100 * 100 ∧ x / 100 - x / 100 / 100 * 100 < nI (L 0).length) ∧ (1 ≤ x - x / 100 * 100 ∧ x - x / 100 * 100 ≤ 9)) ∧ (1 ≤ w ∧ w ≤ 99) ∧ (0 ≤ y ∧ y ≤ 720) ∧ (0 ≤ z ∧ z ≤ 720)) := fun z => ib_0.mp c2 z.2.1; exact ⟨by rw [a_load, if_neg hn], Or.inr ⟨fun z => hn z.1, hK, hF⟩⟩)
