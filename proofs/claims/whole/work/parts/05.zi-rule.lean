theorem hu_fr {h : AH} {a p : Nat} {e : AE} (n : a ≠ p) (ha : h a = none) : (hu h p e) a = none := by
  rw [hu_n n]
  exact ha
def rw_ (g : Nat → Nat → Int32) (k : Nat) (F : Nat → Int32) : Nat → Nat → Int32 := fun k2 => if k2 = k then F else g k2
theorem rw_s {g : Nat → Nat → Int32} {k : Nat} {F : Nat → Int32} : rw_ g k F k = F := if_pos rfl
theorem rw_n {g : Nat → Nat → Int32} {k k2 : Nat} {F : Nat → Int32} (h : k2 ≠ k) : rw_ g k F k2 = g k2 := if_neg h
def s_ruX (X : MS) (n : Nat) (s : (Nat → Int32) × Nat × Int32) : MS := (X.1, rw_ (u2 (u2 (u2 X.2 8 n (nI s.2.1)) 9 n (amN s.1 s.2.1)) 10 n (ahN s.1 s.2.1)) (100 + n) s.1)
def slU (sl : Nat → Nat) (n q : Nat) : Nat → Nat := fun i => if i = n then q else sl i
def s_tp0 (S : MS) : MS := (vf_upd S.1 30 0, S.2)
def a_rule (S : MS) (L : Nat → List Nat) (q : Nat) : Int32 := if (L 6).length < 10 then (if cfF S q 0 0 0 < 0 then nI (L 6).length else -100 - cfF S q 0 0 0) else -2
theorem s_ruX_lo {X : MS} {n k : Nat} {s : (Nat → Int32) × Nat × Int32} (h : k < 8) : (s_ruX X n s).2 k = X.2 k := by
  show rw_ _ _ _ k = X.2 k
  rw [rw_n (by omega), u2_n (by omega), u2_n (by omega), u2_n (by omega)]
theorem s_ruX_100 {X : MS} {n i : Nat} {s : (Nat → Int32) × Nat × Int32} (h : i ≠ n) : (s_ruX X n s).2 (100 + i) = X.2 (100 + i) := by
  show rw_ _ _ _ (100 + i) = X.2 (100 + i)
  rw [rw_n (by omega), u2_n (by omega), u2_n (by omega), u2_n (by omega)]
theorem s_ruX_100s {X : MS} {n : Nat} {s : (Nat → Int32) × Nat × Int32} : (s_ruX X n s).2 (100 + n) = s.1 := rw_s
theorem s_ruX_8 {X : MS} {n i : Nat} {s : (Nat → Int32) × Nat × Int32} : (s_ruX X n s).2 8 i = if i = n then nI s.2.1 else X.2 8 i := by
  show rw_ _ _ _ 8 i = _
  rw [rw_n (by omega), u2_n (by omega), u2_n (by omega), u2_s]
  rfl
theorem s_ruX_9 {X : MS} {n i : Nat} {s : (Nat → Int32) × Nat × Int32} : (s_ruX X n s).2 9 i = if i = n then amN s.1 s.2.1 else X.2 9 i := by
  show rw_ _ _ _ 9 i = _
  rw [rw_n (by omega), u2_n (by omega), u2_s, u2_n (by omega)]
  rfl
theorem s_ruX_10 {X : MS} {n i : Nat} {s : (Nat → Int32) × Nat × Int32} : (s_ruX X n s).2 10 i = if i = n then ahN s.1 s.2.1 else X.2 10 i := by
  show rw_ _ _ _ 10 i = _
  rw [rw_n (by omega), u2_s, u2_n (by omega), u2_n (by omega)]
  rfl
theorem csN_rule {ad : Nat → Nat → Nat} {S X : MS} {L : Nat → List Nat} {wn : Nat → Option Nat} {sl : Nat → Nat} {fl p a q : Nat} : ∀ c i, cs (adU (adU ad 9 (L 6).length p) 8 (L 6).length a) S (s_ruX X (L 6).length (arS (S.2 29) q)) (lset L 6 (L 6 ++ [(L 6).length])) wn (slU sl (L 6).length q) fl c i = cU (cU (cs ad S X L wn sl fl) 9 (L 6).length (Ai q (arS (S.2 29) q).1)) 8 (L 6).length (Ob 8 [.ref p, .int (nI (arS (S.2 29) q).2.1), .int (amN (arS (S.2 29) q).1 (arS (S.2 29) q).2.1), .int (ahN (arS (S.2 29) q).1 (arS (S.2 29) q).2.1)]) c i
  | 0, i => rfl
  | 1, i => rfl
  | 2, i => rfl
  | 3, i => rfl
  | 4, i => rfl
  | 5, i => rfl
  | 6, i => by
    show (if i < (L 3).length then some (Ob 2 (fLoad S (s_ruX X (L 6).length (arS (S.2 29) q)) i)) else none) = (if i < (L 3).length then some (Ob 2 (fLoad S X i)) else none)
    simp only [fLoad, s_ruX_lo (show 0 < 8 by decide)]
  | 7, i => rfl
  | 8, i => by
    show (if i < (L 6 ++ [(L 6).length]).length then some (Ob 8 [.ref ((adU (adU ad 9 (L 6).length p) 8 (L 6).length a) 9 i), .int ((s_ruX X (L 6).length (arS (S.2 29) q)).2 8 i), .int ((s_ruX X (L 6).length (arS (S.2 29) q)).2 9 i), .int ((s_ruX X (L 6).length (arS (S.2 29) q)).2 10 i)]) else none) = if 8 = 8 ∧ i = (L 6).length then some (Ob 8 [.ref p, .int (nI (arS (S.2 29) q).2.1), .int (amN (arS (S.2 29) q).1 (arS (S.2 29) q).2.1), .int (ahN (arS (S.2 29) q).1 (arS (S.2 29) q).2.1)]) else if 8 = 9 ∧ i = (L 6).length then some (Ai q (arS (S.2 29) q).1) else if i < (L 6).length then some (Ob 8 [.ref (ad 9 i), .int (X.2 8 i), .int (X.2 9 i), .int (X.2 10 i)]) else none
    rw [List.length_append, List.length_singleton, s_ruX_8, s_ruX_9, s_ruX_10]
    by_cases e : i = (L 6).length
    · rw [if_pos e, if_pos e, if_pos e, if_pos (by omega), if_pos (show 8 = 8 ∧ i = (L 6).length from ⟨rfl, e⟩), e, adU_n (fun z => absurd z.1 (by decide)), adU_s]
    · rw [if_neg (show ¬ (8 = 8 ∧ i = (L 6).length) from fun z => e z.2), if_neg (show ¬ (8 = 9 ∧ i = (L 6).length) from fun z => e z.2), if_neg e, if_neg e, if_neg e, adU_n (fun z => absurd z.1 (by decide)), adU_n (fun z => e z.2)]
      by_cases e2 : i < (L 6).length
      · rw [if_pos (by omega), if_pos e2]
      · rw [if_neg (by omega), if_neg e2]
  | 9, i => by
    show (if i < (L 6 ++ [(L 6).length]).length then some (Ai ((slU sl (L 6).length q) i) ((s_ruX X (L 6).length (arS (S.2 29) q)).2 (100 + i))) else none) = if 9 = 8 ∧ i = (L 6).length then some (Ob 8 [.ref p, .int (nI (arS (S.2 29) q).2.1), .int (amN (arS (S.2 29) q).1 (arS (S.2 29) q).2.1), .int (ahN (arS (S.2 29) q).1 (arS (S.2 29) q).2.1)]) else if 9 = 9 ∧ i = (L 6).length then some (Ai q (arS (S.2 29) q).1) else if i < (L 6).length then some (Ai (sl i) (X.2 (100 + i))) else none
    rw [List.length_append, List.length_singleton, if_neg (show ¬ (9 = 8 ∧ i = (L 6).length) from fun z => absurd z.1 (by decide))]
    by_cases e : i = (L 6).length
    · rw [if_pos (by omega), if_pos (show 9 = 9 ∧ i = (L 6).length from ⟨rfl, e⟩), e, s_ruX_100s, show (slU sl (L 6).length q) (L 6).length = q from if_pos rfl]
    · rw [if_neg (show ¬ (9 = 9 ∧ i = (L 6).length) from fun z => e z.2), s_ruX_100 e, show (slU sl (L 6).length q) i = sl i from if_neg e]
      by_cases e2 : i < (L 6).length
      · rw [if_pos (by omega), if_pos e2]
      · rw [if_neg (by omega), if_neg e2]
  | 10, i => rfl
  | 11, i => rfl
  | 12, i => rfl
  | 13, i => rfl
  | 14, i => rfl
  | 15, i => by
    show aCell S (s_ruX X (L 6).length (arS (S.2 29) q)) i = aCell S X i
    match i with
    | 0 => rfl
    | 1 => rfl
    | 2 => rfl
    | 3 => rfl
    | 4 => show some (Ai 11 ((s_ruX X (L 6).length (arS (S.2 29) q)).2 1)) = some (Ai 11 (X.2 1)); rw [s_ruX_lo (by decide)]
    | 5 => show some (Ai 20 ((s_ruX X (L 6).length (arS (S.2 29) q)).2 2)) = some (Ai 20 (X.2 2)); rw [s_ruX_lo (by decide)]
    | 6 => show some (Ai 9 ((s_ruX X (L 6).length (arS (S.2 29) q)).2 3)) = some (Ai 9 (X.2 3)); rw [s_ruX_lo (by decide)]
    | 7 => show some (Ai 9 ((s_ruX X (L 6).length (arS (S.2 29) q)).2 4)) = some (Ai 9 (X.2 4)); rw [s_ruX_lo (by decide)]
    | 8 => show some (Ai 5 ((s_ruX X (L 6).length (arS (S.2 29) q)).2 5)) = some (Ai 5 (X.2 5)); rw [s_ruX_lo (by decide)]
    | 9 => show some (Ai 5 ((s_ruX X (L 6).length (arS (S.2 29) q)).2 6)) = some (Ai 5 (X.2 6)); rw [s_ruX_lo (by decide)]
    | n + 10 => rfl
  | 16, i => by
    show (if i = 0 then some (Ai 32 ((s_ruX X (L 6).length (arS (S.2 29) q)).2 7)) else none) = (if i = 0 then some (Ai 32 (X.2 7)) else none)
    rw [s_ruX_lo (by decide)]
  | 17, i => rfl
  | n + 18, i => rfl
theorem c_rule {G : Nat → Nat} {O : Nat → Prop} {ad : Nat → Nat → Nat} {S X : MS} {L : Nat → List Nat} {wn : Nat → Option Nat} {sl : Nat → Nat} {fl : Nat} {h h0 : AH} {d : Nat} {q : Nat} (hK : KR G O ad S X L wn sl fl h) (hF : KF O h0 h) (ht : S.1 30 = nI q) (hq : q ≤ 60) (hb6 : (L 6).length ≤ 10) : Ct Y_X11_rule (d + 7) G 3 94 [.ref (ad 0 0)] h (fun r h2 => r = some (.int (a_rule S L q)) ∧ (((L 6).length < 10 ∧ cfF S q 0 0 0 < 0 ∧ ∃ p a, KR G O (adU (adU ad 9 (L 6).length p) 8 (L 6).length a) (s_tp0 S) (s_ruX X (L 6).length (arS (S.2 29) q)) (lset L 6 (L 6 ++ [(L 6).length])) wn (slU sl (L 6).length q) fl h2 ∧ KF O h0 h2) ∨ ((L 6).length < 10 ∧ ¬ cfF S q 0 0 0 < 0 ∧ KR G O ad (s_tp0 S) X L wn sl fl h2 ∧ KF O h0 h2) ∨ (¬ (L 6).length < 10 ∧ KR G O ad S X L wn sl fl h2 ∧ KF O h0 h2))) := by
  refine Ct.ofn 1 rfl (Nat.le_of_ble_eq_true rfl) (by simp [Value.category]) ?_
  generalize hpost : (fun (r : Option Value) (h2 : AH) => r = some (.int (a_rule S L q)) ∧ (((L 6).length < 10 ∧ cfF S q 0 0 0 < 0 ∧ ∃ p a, KR G O (adU (adU ad 9 (L 6).length p) 8 (L 6).length a) (s_tp0 S) (s_ruX X (L 6).length (arS (S.2 29) q)) (lset L 6 (L 6 ++ [(L 6).length])) wn (slU sl (L 6).length q) fl h2 ∧ KF O h0 h2) ∨ ((L 6).length < 10 ∧ ¬ cfF S q 0 0 0 < 0 ∧ KR G O ad (s_tp0 S) X L wn sl fl h2 ∧ KF O h0 h2) ∨ (¬ (L 6).length < 10 ∧ KR G O ad S X L wn sl fl h2 ∧ KF O h0 h2))) = post
  show J Y_X11_rule (d + 7) G 3 94 0 [some (.ref (ad 0 0)), none] [] h post
  refine J.aload_n 1 dX11_rule_0 rfl rfl ?_
  refine gf_X11_45 rfl 4 dX11_rule_1 rfl (hK.hut) (v := .ref (ad 12 0)) rfl ?_
  refine gf_X11_111 rfl 7 dX11_rule_4 rfl (hK.book) (v := .ref (ad 1 6)) rfl ?_
  refine cv_X11_79 rfl 10 (hK.size (r := 6) (by omega)) dX11_rule_7 rfl (hK.listOb (r := 6) (by omega)).choose_spec rfl rfl (Nat.le_of_ble_eq_true rfl) (Nat.zero_le _) (Nat.zero_le _) (fun r h2 hp => ?_)
  obtain ⟨rfl, rfl⟩ := hp
  refine J.bipush 10 12 dX11_rule_10 rfl (by decide) ?_
  refine J.icmp_lt 18 15 dX11_rule_12 (by decide) rfl (fun c1 => ?_) (fun c1 => ?_)
  · skip
    have hcap : (L 6).length < 10 := (nI_ltI (b := 10) (by omega) (by decide)).mp c1
    refine J.aload_n 19 dX11_rule_18 rfl rfl ?_
    refine gf_X11_38 rfl 22 dX11_rule_19 rfl (hK.hut) (v := .ref (ad 11 0)) rfl ?_
    refine cv_X11_114 rfl 25 (c_fault (d := d + 1) (q := q) hK ht hq) dX11_rule_22 rfl (hK.tape) rfl rfl (Nat.le_of_ble_eq_true rfl) (Nat.zero_le _) (Nat.zero_le _) (fun r h2 hp => ?_)
    obtain ⟨rfl, rfl⟩ := hp
    refine J.ist_1 26 dX11_rule_25 rfl (by decide) ?_
    refine J.iload_n 27 dX11_rule_26 rfl rfl ?_
    refine J.if_ge 48 30 dX11_rule_27 (by decide) rfl (fun c2 => ?_) (fun c2 => ?_)
    · skip
      have hff : ¬ cfF S q 0 0 0 < 0 := Int32.not_lt.mpr c2
      refine J.aload_n 49 dX11_rule_48 rfl rfl ?_
      refine gf_X11_38 rfl 52 dX11_rule_49 rfl (hK.hut) (v := .ref (ad 11 0)) rfl ?_
      refine J.iconst 0 53 dX11_rule_52 rfl (by decide) ?_
      refine pf_X11_104 rfl 56 dX11_rule_53 rfl (hK.tape) (Nat.le_of_ble_eq_true rfl) ?_
      refine ks_11_1 hK hF (fun h hK hF => ?_)
      refine J.iload_n 57 dX11_rule_56 rfl rfl ?_
      refine J.if_ge 75 60 dX11_rule_57 (by decide) rfl (fun c3 => ?_) (fun c3 => ?_)
      · skip
        refine J.bipush (-100) 77 dX11_rule_75 rfl (by decide) ?_
        refine J.iload_n 78 dX11_rule_77 rfl rfl ?_
        refine J.isub 79 dX11_rule_78 rfl ?_
        exact J.iret dX11_rule_79 rfl (by rw [← hpost]; exact ⟨by rw [a_rule, if_pos hcap, if_neg hff], Or.inr (Or.inl ⟨hcap, hff, hK, hF⟩)⟩)
      · skip
        exact absurd c2 c3
    · skip
      have hff : cfF S q 0 0 0 < 0 := Int32.not_le.mp c2
      refine J.aload_n 31 dX11_rule_30 rfl rfl ?_
      refine gf_X11_45 rfl 34 dX11_rule_31 rfl (hK.hut) (v := .ref (ad 12 0)) rfl ?_
      refine gf_X11_111 rfl 37 dX11_rule_34 rfl (hK.book) (v := .ref (ad 1 6)) rfl ?_
      refine J.aload_n 38 dX11_rule_37 rfl rfl ?_
      refine gf_X11_38 rfl 41 dX11_rule_38 rfl (hK.hut) (v := .ref (ad 11 0)) rfl ?_
      refine cv_X11_117 rfl 44 (c_asRule (d := d + 1) (T := ad 11 0) (B := ad 15 3) (q := q) (g := S.2 29) hq (by rw [← ht]; exact hK.tape) hK.arr3) dX11_rule_41 rfl hK.tape rfl rfl (Nat.le_of_ble_eq_true rfl) (by omega) (by omega) (fun r h2 hp => ?_)
      obtain ⟨p, a, hp0, ha0, npa, rfl, rfl⟩ := hp
      have ha1 := hu_fr (e := (Ai q (arS (S.2 29) q).1)) (Ne.symm npa) ha0
      have g1 := hK.kg.cell (c0 := 9) (i0 := (L 6).length) (e := (Ai q (arS (S.2 29) q).1)) hF hp0 (by decide) (if_neg (Nat.lt_irrefl _)) ⟨fun fs z => (by cases z), fun n f z => (by first | (cases z; done) | (simp at z))⟩
      have g2 := g1.1.cell (c0 := 8) (i0 := (L 6).length) (e := (Ob 8 [.ref p, .int (nI (arS (S.2 29) q).2.1), .int (amN (arS (S.2 29) q).1 (arS (S.2 29) q).2.1), .int (ahN (arS (S.2 29) q).1 (arS (S.2 29) q).2.1)])) g1.2 ha1 (by decide) ((cU_n (fun z => absurd z.1 (by decide))).trans (if_neg (Nat.lt_irrefl _))) ⟨fun fs z => (by cases z), fun n f z => (by first | (cases z; done) | (simp at z))⟩
      have kad := g2.1.add (d := d) (h0 := h0) (r := 6) (x := (L 6).length) (M := 30) g2.2 (by show 6 < 8 + _; omega) (by omega) (by omega) ⟨8, _, cU_s, by decide⟩
      rw [show (adU (adU ad 9 (L 6).length p) 8 (L 6).length a) (ek 6) (L 6).length = a from adU_s] at kad
      refine cv_X11_71 rfl 47 kad dX11_rule_44 rfl (((hK.fresh (e := (Ai q (arS (S.2 29) q).1)) hp0).fresh (e := (Ob 8 [.ref p, .int (nI (arS (S.2 29) q).2.1), .int (amN (arS (S.2 29) q).1 (arS (S.2 29) q).2.1), .int (ahN (arS (S.2 29) q).1 (arS (S.2 29) q).2.1)])) ha1).listOb (r := 6) (by omega)).choose_spec rfl rfl (Nat.le_of_ble_eq_true rfl) (by omega) (by omega) (fun r h hp => ?_)
      obtain ⟨rfl, g3, hF⟩ := hp
      have hK := g3.kr (S := S) (X := (s_ruX X (L 6).length (arS (S.2 29) q))) (wn := wn) (sl := (slU sl (L 6).length q)) (fl := fl) csN_rule (fun r hr => hr)
      refine J.pop 48 dX11_rule_47 rfl rfl ?_
      refine J.aload_n 49 dX11_rule_48 rfl rfl ?_
      refine gf_X11_38 rfl 52 dX11_rule_49 rfl (hK.hut) (v := .ref ((adU (adU ad 9 (L 6).length p) 8 (L 6).length a) 11 0)) rfl ?_
      refine J.iconst 0 53 dX11_rule_52 rfl (by decide) ?_
      refine pf_X11_104 rfl 56 dX11_rule_53 rfl (hK.tape) (Nat.le_of_ble_eq_true rfl) ?_
      refine ks_11_1 hK hF (fun h hK hF => ?_)
      refine J.iload_n 57 dX11_rule_56 rfl rfl ?_
      refine J.if_ge 75 60 dX11_rule_57 (by decide) rfl (fun c4 => ?_) (fun c4 => ?_)
      · skip
        exact absurd c4 c2
      · skip
        refine J.aload_n 61 dX11_rule_60 rfl rfl ?_
        refine gf_X11_45 rfl 64 dX11_rule_61 rfl (hK.hut) (v := .ref ((adU (adU ad 9 (L 6).length p) 8 (L 6).length a) 12 0)) rfl ?_
        refine gf_X11_111 rfl 67 dX11_rule_64 rfl (hK.book) (v := .ref ((adU (adU ad 9 (L 6).length p) 8 (L 6).length a) 1 6)) rfl ?_
        have ks := hK.size (d := d + 6) (r := 6) (by show 6 < 8 + (lset L 6 _ 1).length; omega)
        rw [lset_s, List.length_append, List.length_singleton] at ks
        refine cv_X11_79 rfl 70 ks dX11_rule_67 rfl (hK.listOb (r := 6) (by omega)).choose_spec rfl rfl (Nat.le_of_ble_eq_true rfl) (Nat.zero_le _) (Nat.zero_le _) (fun r h2 hp => ?_)
        obtain ⟨rfl, rfl⟩ := hp
        refine J.iconst 1 71 dX11_rule_70 rfl (by decide) ?_
        refine J.isub 72 dX11_rule_71 rfl ?_
        refine J.goto 79 dX11_rule_72 (by decide) ?_
        exact J.iret dX11_rule_79 rfl (by rw [← hpost]; exact ⟨by rw [a_rule, if_pos hcap, if_pos hff, nI_m1], Or.inl ⟨hcap, hff, p, a, hK, hF⟩⟩)
  · skip
    have hcap : ¬ (L 6).length < 10 := fun z => c1 (nI_lt (b := 10) z (by decide))
    refine J.bipush (-2) 17 dX11_rule_15 rfl (by decide) ?_
    exact J.iret dX11_rule_17 rfl (by rw [← hpost]; exact ⟨by rw [a_rule, if_neg hcap], Or.inr (Or.inr ⟨hcap, hK, hF⟩)⟩)
