theorem pf_X7_29 {Y : YM} {d kc ks pc : Nat} {G : Nat → Nat} {lv : List (Option Value)} {st : List Value} {h : AH} {post : Option Value → AH → Prop} {a : Nat} {fs : List Value} {x : Int32} (hx : x = 0 ∨ x = 1) (hy : Y.1.cls = RX7) (hin : Y.1.name = "<init>") (pn : Nat) (hd : decode Y.2.1 pc = .ok (.putfield 29, 3)) (hn : pc + 3 = pn) (ha : h a = some (.inr (8, fs))) (hl : 2 < fs.length) (kk : J Y d G kc ks pn lv st (hu h a (.inr (8, fs.set 2 (.int x)))) post) : J Y d G kc ks pc lv (.int x :: .ref a :: st) h post := J.putf (k := 2) (ref := "HutLift$Rule") (ty := .boolean) tyX7 pn hd hn (by rfl : vwCl[8]? = some (RX7, TX7, 4)) inT_X7 tyX7_ok nmX7 (by decide) (by rw [hy]; exact wm_578) (fun _ _ _ _ h9 => h9) (Or.inr ⟨rfl, hin, hy.symm⟩) (by decide +kernel) (by rcases hx with rfl | rfl <;> rfl) (by rcases hx with rfl | rfl <;> rfl) ha hl kk
theorem pf_X7_33 {Y : YM} {d kc ks pc : Nat} {G : Nat → Nat} {lv : List (Option Value)} {st : List Value} {h : AH} {post : Option Value → AH → Prop} {a : Nat} {fs : List Value} {x : Int32} (hx : x = 0 ∨ x = 1) (hy : Y.1.cls = RX7) (hin : Y.1.name = "<init>") (pn : Nat) (hd : decode Y.2.1 pc = .ok (.putfield 33, 3)) (hn : pc + 3 = pn) (ha : h a = some (.inr (8, fs))) (hl : 3 < fs.length) (kk : J Y d G kc ks pn lv st (hu h a (.inr (8, fs.set 3 (.int x)))) post) : J Y d G kc ks pc lv (.int x :: .ref a :: st) h post := J.putf (k := 3) (ref := "HutLift$Rule") (ty := .boolean) tyX7 pn hd hn (by rfl : vwCl[8]? = some (RX7, TX7, 4)) inT_X7 tyX7_ok nmX7 (by decide) (by rw [hy]; exact wm_579) (fun _ _ _ _ h9 => h9) (Or.inr ⟨rfl, hin, hy.symm⟩) (by decide +kernel) (by rcases hx with rfl | rfl <;> rfl) (by rcases hx with rfl | rfl <;> rfl) ha hl kk
def amN (f : Nat → Int32) : Nat → Int32
  | 0 => 0
  | k + 1 => if ¬ amN f k = 0 ∨ f k - 1000 = 4 then 1 else 0
def ahN (f : Nat → Int32) : Nat → Int32
  | 0 => 0
  | k + 1 => if ¬ ahN f k = 0 ∨ (0 ≤ f k - 1000 ∧ f k - 1000 ≤ 3) then 1 else 0
theorem amN_b (f : Nat → Int32) : ∀ k, amN f k = 0 ∨ amN f k = 1
  | 0 => Or.inl rfl
  | k + 1 => by rw [amN]; split; exact Or.inr rfl; exact Or.inl rfl
theorem ahN_b (f : Nat → Int32) : ∀ k, ahN f k = 0 ∨ ahN f k = 1
  | 0 => Or.inl rfl
  | k + 1 => by rw [ahN]; split; exact Or.inr rfl; exact Or.inl rfl
theorem c_ruInit {d : Nat} {G : Nat → Nat} {h : AH} {a p z t : Nat} {f : Nat → Int32} (hpa : p ≠ a) (hzt : z ≤ t) (ht : t ≤ 60) (ha : h a = some (Ob 8 [.null, .int 0, .int 0, .int 0])) (hp : h p = some (Ai t f)) : Ct Y_X7_init (d + 1) G 0 0 [.ref a, .ref p, .int (nI z)] h (fun r h2 => r = none ∧ h2 = hu h a (Ob 8 [.ref p, .int (nI z), .int (amN f z), .int (ahN f z)])) := by
  refine Ct.ofn 4 rfl (Nat.le_of_ble_eq_true rfl) (by simp [Value.category]) ?_
  generalize hpost : (fun (r : Option Value) (h2 : AH) => r = none ∧ h2 = hu h a (Ob 8 [.ref p, .int (nI z), .int (amN f z), .int (ahN f z)])) = post
  show J Y_X7_init (d + 1) G 0 0 0 [some (.ref a), some (.ref p), some (.int (nI z)), none, none, none, none] [] h post
  refine J.aload_n 1 dX7_init_0 rfl rfl ?_
  refine co_X7_3 rfl 4 dX7_init_1 rfl (Nat.le_of_ble_eq_true rfl) ?_
  refine J.aload_n 5 dX7_init_4 rfl rfl ?_
  refine J.aload_n 6 dX7_init_5 rfl rfl ?_
  refine pf_X7_9 rfl rfl 9 dX7_init_6 rfl ha (Nat.le_of_ble_eq_true rfl) ?_
  refine J.nmH (fun h1 eh1 => ?_)
  have f1 : h1 a = some (Ob 8 [.ref p, .int 0, .int 0, .int 0]) := by rw [eh1]; exact hu_s
  have f2 : h1 p = some (Ai t f) := by rw [eh1, hu_n hpa]; exact hp
  refine J.aload_n 10 dX7_init_9 rfl rfl ?_
  refine J.iload_n 11 dX7_init_10 rfl rfl ?_
  refine J.aload_n 12 dX7_init_11 rfl rfl ?_
  refine J.alen 13 dX7_init_12 rfl f2 ?_
  show J _ _ _ _ _ _ _ (.int (nI t) :: _) _ _
  refine J.mmin 16 dX7_init_13 rfl wm_572 (Nat.le_of_ble_eq_true rfl) ?_
  rw [if_neg (nI_nlt hzt (by omega))]
  refine pf_X7_21 rfl rfl 19 dX7_init_16 rfl f1 (Nat.le_of_ble_eq_true rfl) ?_
  refine J.nmH (fun h3 eh3 => ?_)
  have f3 : h3 a = some (Ob 8 [.ref p, .int (nI z), .int 0, .int 0]) := by rw [eh3]; exact hu_s
  have f4 : h3 p = some (Ai t f) := by rw [eh3, hu_n hpa]; exact f2
  refine J.iconst 0 20 dX7_init_19 rfl (by decide) ?_
  refine J.ist_3 21 dX7_init_20 rfl (by decide) ?_
  refine J.iconst 0 22 dX7_init_21 rfl (by decide) ?_
  refine J.ist_4 24 dX7_init_22 rfl (by decide) ?_
  refine J.iconst 0 25 dX7_init_24 rfl (by decide) ?_
  refine J.ist_5 27 dX7_init_25 rfl (by decide) ?_
  have loop27 : ∀ (j k : Nat) (x3 x4 x5 : Int32), k ≤ z → z + 1 ≤ k + j → x5 = nI k → (x3 = amN f k) → (x4 = ahN f k) → J Y_X7_init (d + 1) G 0 0 27 [some (.ref a), some (.ref p), some (.int (nI z)), some (.int x3), some (.int x4), some (.int x5), none] [] h3 post := by
    intro j
    induction j with
    | zero => intro k _ _ _ g1 g2; exact absurd g2 (by omega)
    | succ j ih =>
      intro k x3 x4 x5 g1 g2 e5 e3 e4 
      have q5 : x5.toNatClampNeg = k := by rw [e5]; exact nI_clamp (by omega)
      refine J.iload 29 dX7_init_27 rfl rfl ?_
      refine J.aload_n 30 dX7_init_29 rfl rfl ?_
      refine gf_X7_21 rfl 33 dX7_init_30 rfl f3 rfl ?_
      refine J.icmp_ge 90 36 dX7_init_33 (by decide) rfl (fun c1 => ?_) (fun c1 => ?_)
      · skip
        have hk : k = z := Nat.le_antisymm g1 ((nI_leI (by omega) (by omega)).mp (by have z := c1; rw [e5] at z; exact z))
        refine J.aload_n 91 dX7_init_90 rfl rfl ?_
        refine J.iload_n 92 dX7_init_91 rfl rfl ?_
        refine pf_X7_29 (by rw [e3]; exact amN_b f k) rfl rfl 95 dX7_init_92 rfl f3 (Nat.le_of_ble_eq_true rfl) ?_
        refine J.nmH (fun h5 eh5 => ?_)
        have f5 : h5 a = some (Ob 8 [.ref p, .int (nI z), .int x3, .int 0]) := by rw [eh5]; exact hu_s
        have f6 : h5 p = some (Ai t f) := by rw [eh5, hu_n hpa]; exact f4
        refine J.aload_n 96 dX7_init_95 rfl rfl ?_
        refine J.iload 98 dX7_init_96 rfl rfl ?_
        refine pf_X7_33 (by rw [e4]; exact ahN_b f k) rfl rfl 101 dX7_init_98 rfl f5 (Nat.le_of_ble_eq_true rfl) ?_
        refine J.nmH (fun h7 eh7 => ?_)
        have f7 : h7 a = some (Ob 8 [.ref p, .int (nI z), .int x3, .int x4]) := by rw [eh7]; exact hu_s
        have f8 : h7 p = some (Ai t f) := by rw [eh7, hu_n hpa]; exact f6
        exact J.vret dX7_init_101 rfl (by rw [← hpost]; exact ⟨rfl, by rw [eh7, eh5, eh3, eh1]; simp only [hu_hu]; rw [← hk, ← e3, ← e4]; rfl⟩)
      · skip
        have hk : k < z := Nat.lt_of_not_le (fun y => c1 (by rw [e5]; exact nI_le y (by omega)))
        have hin : vp_in x5 60 := by rw [e5]; exact vp_in_nI (by omega) (by decide)
        have hin2 : vp_in x5 t := by rw [e5]; exact vp_in_nI (by omega) (by omega)
        refine J.aload_n 37 dX7_init_36 rfl rfl ?_
        refine J.iload 39 dX7_init_37 rfl rfl ?_
        refine J.iald2 k q5 (x := f k) rfl 40 dX7_init_39 rfl f4 hin2 ?_
        refine J.sipush 1000 43 dX7_init_40 rfl (by decide) ?_
        refine J.isub 44 dX7_init_43 rfl ?_
        refine J.ist_6 46 dX7_init_44 rfl (by decide) ?_
        refine J.iload_n 47 dX7_init_46 rfl rfl ?_
        refine J.if_ne 56 50 dX7_init_47 (by decide) rfl (fun c2 => ?_) (fun c2 => ?_)
        · skip
          have m1 : ¬ amN f k = 0 ∨ f k - 1000 = 4 := Or.inl (by rw [← e3]; exact c2)
          refine J.iconst 1 57 dX7_init_56 rfl (by decide) ?_
          refine J.goto 61 dX7_init_57 (by decide) ?_
          refine J.ist_3 62 dX7_init_61 rfl (by decide) ?_
          refine J.iload 64 dX7_init_62 rfl rfl ?_
          refine J.if_ne 77 67 dX7_init_64 (by decide) rfl (fun c3 => ?_) (fun c3 => ?_)
          · skip
            have n1 : ¬ ahN f k = 0 ∨ (0 ≤ f k - 1000 ∧ f k - 1000 ≤ 3) := Or.inl (by rw [← e4]; exact c3)
            refine J.iconst 1 78 dX7_init_77 rfl (by decide) ?_
            refine J.goto 82 dX7_init_78 (by decide) ?_
            refine J.ist_4 84 dX7_init_82 rfl (by decide) ?_
            refine J.iinc_5 1 87 dX7_init_84 rfl (by decide) (by decide) ?_
            refine J.goto 27 dX7_init_87 (by decide) ?_
            refine J.fg_6 ?_
            exact ih (k + 1) _ _ _ (by omega) (by omega) (by rw [e5]; exact nI_1 k) (by rw [amN, if_pos m1]) (by rw [ahN, if_pos n1]) 
          · skip
            have n0 := c3
            refine J.iload 69 dX7_init_67 rfl rfl ?_
            refine J.iconst 0 70 dX7_init_69 rfl (by decide) ?_
            refine J.iconst 3 71 dX7_init_70 rfl (by decide) ?_
            refine cs_X7_25 rfl 74 (c_isWithin (v := (f k) - 1000) (a := 0) (b := 3) _ _) dX7_init_71 rfl rfl rfl (Nat.le_of_ble_eq_true rfl) (Nat.le_refl _) (Nat.le_refl _) (fun r h2 hp => ?_)
            obtain ⟨rfl, rfl⟩ := hp
            refine J.if_eq 81 77 dX7_init_74 (by decide) rfl (fun c4 => ?_) (fun c4 => ?_)
            · skip
              have n1 : ¬ (¬ ahN f k = 0 ∨ (0 ≤ f k - 1000 ∧ f k - 1000 ≤ 3)) := fun z => z.elim (fun y => y (by rw [← e4]; exact n0)) (ib_0.mp c4)
              refine J.iconst 0 82 dX7_init_81 rfl (by decide) ?_
              refine J.ist_4 84 dX7_init_82 rfl (by decide) ?_
              refine J.iinc_5 1 87 dX7_init_84 rfl (by decide) (by decide) ?_
              refine J.goto 27 dX7_init_87 (by decide) ?_
              refine J.fg_6 ?_
              exact ih (k + 1) _ _ _ (by omega) (by omega) (by rw [e5]; exact nI_1 k) (by rw [amN, if_pos m1]) (by rw [ahN, if_neg n1]) 
            · skip
              have n1 : ¬ ahN f k = 0 ∨ (0 ≤ f k - 1000 ∧ f k - 1000 ≤ 3) := Or.inr (ib_n.mp c4)
              refine J.iconst 1 78 dX7_init_77 rfl (by decide) ?_
              refine J.goto 82 dX7_init_78 (by decide) ?_
              refine J.ist_4 84 dX7_init_82 rfl (by decide) ?_
              refine J.iinc_5 1 87 dX7_init_84 rfl (by decide) (by decide) ?_
              refine J.goto 27 dX7_init_87 (by decide) ?_
              refine J.fg_6 ?_
              exact ih (k + 1) _ _ _ (by omega) (by omega) (by rw [e5]; exact nI_1 k) (by rw [amN, if_pos m1]) (by rw [ahN, if_pos n1]) 
        · skip
          have m0 := c2
          refine J.iload 52 dX7_init_50 rfl rfl ?_
          refine J.iconst 4 53 dX7_init_52 rfl (by decide) ?_
          refine J.icmp_ne 60 56 dX7_init_53 (by decide) rfl (fun c5 => ?_) (fun c5 => ?_)
          · skip
            have m1 : ¬ (¬ amN f k = 0 ∨ f k - 1000 = 4) := fun z => z.elim (fun y => y (by rw [← e3]; exact m0)) c5
            refine J.iconst 0 61 dX7_init_60 rfl (by decide) ?_
            refine J.ist_3 62 dX7_init_61 rfl (by decide) ?_
            refine J.iload 64 dX7_init_62 rfl rfl ?_
            refine J.if_ne 77 67 dX7_init_64 (by decide) rfl (fun c6 => ?_) (fun c6 => ?_)
            · skip
              have n1 : ¬ ahN f k = 0 ∨ (0 ≤ f k - 1000 ∧ f k - 1000 ≤ 3) := Or.inl (by rw [← e4]; exact c6)
              refine J.iconst 1 78 dX7_init_77 rfl (by decide) ?_
              refine J.goto 82 dX7_init_78 (by decide) ?_
              refine J.ist_4 84 dX7_init_82 rfl (by decide) ?_
              refine J.iinc_5 1 87 dX7_init_84 rfl (by decide) (by decide) ?_
              refine J.goto 27 dX7_init_87 (by decide) ?_
              refine J.fg_6 ?_
              exact ih (k + 1) _ _ _ (by omega) (by omega) (by rw [e5]; exact nI_1 k) (by rw [amN, if_neg m1]) (by rw [ahN, if_pos n1]) 
            · skip
              have n0 := c6
              refine J.iload 69 dX7_init_67 rfl rfl ?_
              refine J.iconst 0 70 dX7_init_69 rfl (by decide) ?_
              refine J.iconst 3 71 dX7_init_70 rfl (by decide) ?_
              refine cs_X7_25 rfl 74 (c_isWithin (v := (f k) - 1000) (a := 0) (b := 3) _ _) dX7_init_71 rfl rfl rfl (Nat.le_of_ble_eq_true rfl) (Nat.le_refl _) (Nat.le_refl _) (fun r h2 hp => ?_)
              obtain ⟨rfl, rfl⟩ := hp
              refine J.if_eq 81 77 dX7_init_74 (by decide) rfl (fun c7 => ?_) (fun c7 => ?_)
              · skip
                have n1 : ¬ (¬ ahN f k = 0 ∨ (0 ≤ f k - 1000 ∧ f k - 1000 ≤ 3)) := fun z => z.elim (fun y => y (by rw [← e4]; exact n0)) (ib_0.mp c7)
                refine J.iconst 0 82 dX7_init_81 rfl (by decide) ?_
                refine J.ist_4 84 dX7_init_82 rfl (by decide) ?_
                refine J.iinc_5 1 87 dX7_init_84 rfl (by decide) (by decide) ?_
                refine J.goto 27 dX7_init_87 (by decide) ?_
                refine J.fg_6 ?_
                exact ih (k + 1) _ _ _ (by omega) (by omega) (by rw [e5]; exact nI_1 k) (by rw [amN, if_neg m1]) (by rw [ahN, if_neg n1]) 
              · skip
                have n1 : ¬ ahN f k = 0 ∨ (0 ≤ f k - 1000 ∧ f k - 1000 ≤ 3) := Or.inr (ib_n.mp c7)
                refine J.iconst 1 78 dX7_init_77 rfl (by decide) ?_
                refine J.goto 82 dX7_init_78 (by decide) ?_
                refine J.ist_4 84 dX7_init_82 rfl (by decide) ?_
                refine J.iinc_5 1 87 dX7_init_84 rfl (by decide) (by decide) ?_
                refine J.goto 27 dX7_init_87 (by decide) ?_
                refine J.fg_6 ?_
                exact ih (k + 1) _ _ _ (by omega) (by omega) (by rw [e5]; exact nI_1 k) (by rw [amN, if_neg m1]) (by rw [ahN, if_pos n1]) 
          · skip
            have m1 : ¬ amN f k = 0 ∨ f k - 1000 = 4 := Or.inr c5
            refine J.iconst 1 57 dX7_init_56 rfl (by decide) ?_
            refine J.goto 61 dX7_init_57 (by decide) ?_
            refine J.ist_3 62 dX7_init_61 rfl (by decide) ?_
            refine J.iload 64 dX7_init_62 rfl rfl ?_
            refine J.if_ne 77 67 dX7_init_64 (by decide) rfl (fun c8 => ?_) (fun c8 => ?_)
            · skip
              have n1 : ¬ ahN f k = 0 ∨ (0 ≤ f k - 1000 ∧ f k - 1000 ≤ 3) := Or.inl (by rw [← e4]; exact c8)
              refine J.iconst 1 78 dX7_init_77 rfl (by decide) ?_
              refine J.goto 82 dX7_init_78 (by decide) ?_
              refine J.ist_4 84 dX7_init_82 rfl (by decide) ?_
              refine J.iinc_5 1 87 dX7_init_84 rfl (by decide) (by decide) ?_
              refine J.goto 27 dX7_init_87 (by decide) ?_
              refine J.fg_6 ?_
              exact ih (k + 1) _ _ _ (by omega) (by omega) (by rw [e5]; exact nI_1 k) (by rw [amN, if_pos m1]) (by rw [ahN, if_pos n1]) 
            · skip
              have n0 := c8
              refine J.iload 69 dX7_init_67 rfl rfl ?_
              refine J.iconst 0 70 dX7_init_69 rfl (by decide) ?_
              refine J.iconst 3 71 dX7_init_70 rfl (by decide) ?_
              refine cs_X7_25 rfl 74 (c_isWithin (v := (f k) - 1000) (a := 0) (b := 3) _ _) dX7_init_71 rfl rfl rfl (Nat.le_of_ble_eq_true rfl) (Nat.le_refl _) (Nat.le_refl _) (fun r h2 hp => ?_)
              obtain ⟨rfl, rfl⟩ := hp
              refine J.if_eq 81 77 dX7_init_74 (by decide) rfl (fun c9 => ?_) (fun c9 => ?_)
              · skip
                have n1 : ¬ (¬ ahN f k = 0 ∨ (0 ≤ f k - 1000 ∧ f k - 1000 ≤ 3)) := fun z => z.elim (fun y => y (by rw [← e4]; exact n0)) (ib_0.mp c9)
                refine J.iconst 0 82 dX7_init_81 rfl (by decide) ?_
                refine J.ist_4 84 dX7_init_82 rfl (by decide) ?_
                refine J.iinc_5 1 87 dX7_init_84 rfl (by decide) (by decide) ?_
                refine J.goto 27 dX7_init_87 (by decide) ?_
                refine J.fg_6 ?_
                exact ih (k + 1) _ _ _ (by omega) (by omega) (by rw [e5]; exact nI_1 k) (by rw [amN, if_pos m1]) (by rw [ahN, if_neg n1]) 
              · skip
                have n1 : ¬ ahN f k = 0 ∨ (0 ≤ f k - 1000 ∧ f k - 1000 ≤ 3) := Or.inr (ib_n.mp c9)
                refine J.iconst 1 78 dX7_init_77 rfl (by decide) ?_
                refine J.goto 82 dX7_init_78 (by decide) ?_
                refine J.ist_4 84 dX7_init_82 rfl (by decide) ?_
                refine J.iinc_5 1 87 dX7_init_84 rfl (by decide) (by decide) ?_
                refine J.goto 27 dX7_init_87 (by decide) ?_
                refine J.fg_6 ?_
                exact ih (k + 1) _ _ _ (by omega) (by omega) (by rw [e5]; exact nI_1 k) (by rw [amN, if_pos m1]) (by rw [ahN, if_pos n1]) 
  exact loop27 (z + 1) 0 _ _ _ (Nat.zero_le _) (by omega) rfl rfl rfl 
