def lsum (f : Nat → Int32) (l : List Nat) : Int32 := l.foldl (fun a x => a + f x) 0
theorem take_1 {l : List Nat} {k y : Nat} (h : l[k]? = some y) : l.take (k + 1) = l.take k ++ [y] := by
  rw [List.take_add_one, h]
  rfl
theorem lsum_1 {f : Nat → Int32} {l : List Nat} {k y : Nat} (h : l[k]? = some y) : lsum f (l.take (k + 1)) = lsum f (l.take k) + f y := by
  rw [take_1 h, lsum, lsum, List.foldl_append]
  rfl
def lmax (f : Nat → Int32) (l : List Nat) : Int32 := l.foldl (fun a x => if a < f x then f x else a) 0
theorem lmax_1 {f : Nat → Int32} {l : List Nat} {k y : Nat} (h : l[k]? = some y) : lmax f (l.take (k + 1)) = if lmax f (l.take k) < f y then f y else lmax f (l.take k) := by
  rw [take_1 h, lmax, lmax, List.foldl_append]
  rfl
theorem any_1 {p : Nat → Bool} {l : List Nat} {k y : Nat} (h : l[k]? = some y) : (l.take (k + 1)).any p = ((l.take k).any p || p y) := by
  rw [take_1 h, List.any_append]
  simp
theorem any_of {p : Nat → Bool} {l : List Nat} {k y : Nat} (h : l[k]? = some y) (hp : p y = true) : l.any p = true := List.any_eq_true.mpr ⟨y, List.mem_of_getElem? h, hp⟩
theorem rng_get {l : List Nat} (h : l = List.range l.length) {i : Nat} (hi : i < l.length) : l[i]? = some i := by
  rw [h, List.getElem?_range hi]
theorem ek8 (m : Nat) : ek (8 + m) = 6 := by
  unfold ek
  split <;> first | rfl | omega
theorem KR.mem6 {G : Nat → Nat} {O : Nat → Prop} {ad : Nat → Nat → Nat} {S X : MS} {L : Nat → List Nat} {wn : Nat → Option Nat} {sl : Nat → Nat} {fl : Nat} {h : AH} (hK : KR G O ad S X L wn sl fl h) {r k y : Nat} (hr : r < 8 + (L 1).length) (he : ek r = 6) (hy : (L r)[k]? = some y) : y < (L 3).length := by
  obtain ⟨ed, cp, h1, h2, h3, h4, h5, h6⟩ := hK
  have z := h6 r hr y (List.mem_of_getElem? hy)
  rw [he] at z
  rcases Nat.lt_or_ge y (L 3).length with q | q
  · exact q
  · exact absurd (show cs ad S X L wn sl fl 6 y = none from if_neg (by omega)) z
theorem c_alone {G : Nat → Nat} {O : Nat → Prop} {ad : Nat → Nat → Nat} {S X : MS} {L : Nat → List Nat} {wn : Nat → Option Nat} {sl : Nat → Nat} {fl : Nat} {h : AH} {d : Nat} {i : Nat} (hK : KR G O ad S X L wn sl fl h) (hi : i < (L 3).length) : Ct Y_X1_hangsAlone d G 0 0 [.ref (ad 6 i)] h (fun r h2 => r = some (.int (ib (S.2 20 i = 3 ∨ S.2 20 i = 1))) ∧ h2 = h) := by
  refine Ct.ofn 0 rfl (Nat.le_of_ble_eq_true rfl) (by simp [Value.category]) ?_
  generalize hpost : (fun (r : Option Value) (h2 : AH) => r = some (.int (ib (S.2 20 i = 3 ∨ S.2 20 i = 1))) ∧ h2 = h) = post
  show J Y_X1_hangsAlone d G 0 0 0 [some (.ref (ad 6 i))] [] h post
  refine J.aload_n 1 dX1_hangsAlone_0 rfl rfl ?_
  refine gf_X1_27 rfl 4 dX1_hangsAlone_1 rfl (hK.load hi) (v := .int (S.2 20 i)) rfl ?_
  refine J.iconst 3 5 dX1_hangsAlone_4 rfl (by decide) ?_
  refine J.icmp_eq 16 8 dX1_hangsAlone_5 (by decide) rfl (fun c1 => ?_) (fun c1 => ?_)
  · skip
    refine J.iconst 1 17 dX1_hangsAlone_16 rfl (by decide) ?_
    refine J.goto 21 dX1_hangsAlone_17 (by decide) ?_
    exact J.zret dX1_hangsAlone_21 rfl (Or.inr rfl) (by rw [← hpost]; exact ⟨by simp [ib, c1], rfl⟩)
  · skip
    refine J.aload_n 9 dX1_hangsAlone_8 rfl rfl ?_
    refine gf_X1_27 rfl 12 dX1_hangsAlone_9 rfl (hK.load hi) (v := .int (S.2 20 i)) rfl ?_
    refine J.iconst 1 13 dX1_hangsAlone_12 rfl (by decide) ?_
    refine J.icmp_ne 20 16 dX1_hangsAlone_13 (by decide) rfl (fun c2 => ?_) (fun c2 => ?_)
    · skip
      refine J.iconst 0 21 dX1_hangsAlone_20 rfl (by decide) ?_
      exact J.zret dX1_hangsAlone_21 rfl (Or.inl rfl) (by rw [← hpost]; exact ⟨by simp [ib, c1, c2], rfl⟩)
    · skip
      refine J.iconst 1 17 dX1_hangsAlone_16 rfl (by decide) ?_
      refine J.goto 21 dX1_hangsAlone_17 (by decide) ?_
      exact J.zret dX1_hangsAlone_21 rfl (Or.inr rfl) (by rw [← hpost]; exact ⟨by simp [ib, c1, c2], rfl⟩)
theorem c_canHang {G : Nat → Nat} {O : Nat → Prop} {ad : Nat → Nat → Nat} {S X : MS} {L : Nat → List Nat} {wn : Nat → Option Nat} {sl : Nat → Nat} {fl : Nat} {h : AH} {d : Nat} {i : Nat} {t : Int32} (hK : KR G O ad S X L wn sl fl h) (hi : i < (L 3).length) : Ct Y_X1_canBeHung d G 0 0 [.ref (ad 6 i), .int t] h (fun r h2 => r = some (.int (ib (S.2 23 i = 0 ∧ S.2 21 i ≤ t ∧ ¬ S.2 20 i = 4))) ∧ h2 = h) := by
  refine Ct.ofn 0 rfl (Nat.le_of_ble_eq_true rfl) (by simp [Value.category]) ?_
  generalize hpost : (fun (r : Option Value) (h2 : AH) => r = some (.int (ib (S.2 23 i = 0 ∧ S.2 21 i ≤ t ∧ ¬ S.2 20 i = 4))) ∧ h2 = h) = post
  show J Y_X1_canBeHung d G 0 0 0 [some (.ref (ad 6 i)), some (.int t)] [] h post
  refine J.aload_n 1 dX1_canBeHung_0 rfl rfl ?_
  refine gf_X1_9 rfl 4 dX1_canBeHung_1 rfl (hK.load hi) (v := .int (S.2 23 i)) rfl ?_
  refine J.if_ne 27 7 dX1_canBeHung_4 (by decide) rfl (fun c1 => ?_) (fun c1 => ?_)
  · skip
    refine J.iconst 0 28 dX1_canBeHung_27 rfl (by decide) ?_
    exact J.zret dX1_canBeHung_28 rfl (Or.inl rfl) (by rw [← hpost]; exact ⟨by simp [ib, c1], rfl⟩)
  · skip
    refine J.aload_n 8 dX1_canBeHung_7 rfl rfl ?_
    refine gf_X1_39 rfl 11 dX1_canBeHung_8 rfl (hK.load hi) (v := .int (S.2 21 i)) rfl ?_
    refine J.iload_n 12 dX1_canBeHung_11 rfl rfl ?_
    refine J.icmp_gt 27 15 dX1_canBeHung_12 (by decide) rfl (fun c2 => ?_) (fun c2 => ?_)
    · skip
      refine J.iconst 0 28 dX1_canBeHung_27 rfl (by decide) ?_
      exact J.zret dX1_canBeHung_28 rfl (Or.inl rfl) (by rw [← hpost]; exact ⟨by simp [ib, c1, c2, Int32.not_le.mpr c2], rfl⟩)
    · skip
      refine J.aload_n 16 dX1_canBeHung_15 rfl rfl ?_
      refine gf_X1_27 rfl 19 dX1_canBeHung_16 rfl (hK.load hi) (v := .int (S.2 20 i)) rfl ?_
      refine J.iconst 4 20 dX1_canBeHung_19 rfl (by decide) ?_
      refine J.icmp_eq 27 23 dX1_canBeHung_20 (by decide) rfl (fun c3 => ?_) (fun c3 => ?_)
      · skip
        refine J.iconst 0 28 dX1_canBeHung_27 rfl (by decide) ?_
        exact J.zret dX1_canBeHung_28 rfl (Or.inl rfl) (by rw [← hpost]; exact ⟨by simp [ib, c1, c2, Int32.not_lt.mp c2, c3], rfl⟩)
      · skip
        refine J.iconst 1 24 dX1_canBeHung_23 rfl (by decide) ?_
        refine J.goto 28 dX1_canBeHung_24 (by decide) ?_
        exact J.zret dX1_canBeHung_28 rfl (Or.inr rfl) (by rw [← hpost]; exact ⟨by simp [ib, c1, c2, Int32.not_lt.mp c2, c3], rfl⟩)
theorem c_waitsFor {G : Nat → Nat} {O : Nat → Prop} {ad : Nat → Nat → Nat} {S X : MS} {L : Nat → List Nat} {wn : Nat → Option Nat} {sl : Nat → Nat} {fl : Nat} {h : AH} {d : Nat} {i : Nat} {p : Int32} (hK : KR G O ad S X L wn sl fl h) (hi : i < (L 3).length) : Ct Y_X1_waitsFor d G 0 0 [.ref (ad 6 i), .int p] h (fun r h2 => r = some (.int (ib (S.2 23 i = 0 ∧ S.2 17 i = p))) ∧ h2 = h) := by
  refine Ct.ofn 0 rfl (Nat.le_of_ble_eq_true rfl) (by simp [Value.category]) ?_
  generalize hpost : (fun (r : Option Value) (h2 : AH) => r = some (.int (ib (S.2 23 i = 0 ∧ S.2 17 i = p))) ∧ h2 = h) = post
  show J Y_X1_waitsFor d G 0 0 0 [some (.ref (ad 6 i)), some (.int p)] [] h post
  refine J.aload_n 1 dX1_waitsFor_0 rfl rfl ?_
  refine gf_X1_9 rfl 4 dX1_waitsFor_1 rfl (hK.load hi) (v := .int (S.2 23 i)) rfl ?_
  refine J.if_ne 19 7 dX1_waitsFor_4 (by decide) rfl (fun c1 => ?_) (fun c1 => ?_)
  · skip
    refine J.iconst 0 20 dX1_waitsFor_19 rfl (by decide) ?_
    exact J.zret dX1_waitsFor_20 rfl (Or.inl rfl) (by rw [← hpost]; exact ⟨by simp [ib, c1], rfl⟩)
  · skip
    refine J.aload_n 8 dX1_waitsFor_7 rfl rfl ?_
    refine gf_X1_30 rfl 11 dX1_waitsFor_8 rfl (hK.load hi) (v := .int (S.2 17 i)) rfl ?_
    refine J.iload_n 12 dX1_waitsFor_11 rfl rfl ?_
    refine J.icmp_ne 19 15 dX1_waitsFor_12 (by decide) rfl (fun c2 => ?_) (fun c2 => ?_)
    · skip
      refine J.iconst 0 20 dX1_waitsFor_19 rfl (by decide) ?_
      exact J.zret dX1_waitsFor_20 rfl (Or.inl rfl) (by rw [← hpost]; exact ⟨by simp [ib, c1, c2], rfl⟩)
    · skip
      refine J.iconst 1 16 dX1_waitsFor_15 rfl (by decide) ?_
      refine J.goto 20 dX1_waitsFor_16 (by decide) ?_
      exact J.zret dX1_waitsFor_20 rfl (Or.inr rfl) (by rw [← hpost]; exact ⟨by simp [ib, c1, c2], rfl⟩)
theorem c_isLate {G : Nat → Nat} {O : Nat → Prop} {ad : Nat → Nat → Nat} {S X : MS} {L : Nat → List Nat} {wn : Nat → Option Nat} {sl : Nat → Nat} {fl : Nat} {h : AH} {d : Nat} {i : Nat} (hK : KR G O ad S X L wn sl fl h) (hi : i < (L 3).length) : Ct Y_X1_isLate d G 0 0 [.ref (ad 6 i)] h (fun r h2 => r = some (.int (ib (S.2 23 i = 3 ∧ S.2 22 i < S.2 26 i))) ∧ h2 = h) := by
  refine Ct.ofn 0 rfl (Nat.le_of_ble_eq_true rfl) (by simp [Value.category]) ?_
  generalize hpost : (fun (r : Option Value) (h2 : AH) => r = some (.int (ib (S.2 23 i = 3 ∧ S.2 22 i < S.2 26 i))) ∧ h2 = h) = post
  show J Y_X1_isLate d G 0 0 0 [some (.ref (ad 6 i))] [] h post
  refine J.aload_n 1 dX1_isLate_0 rfl rfl ?_
  refine gf_X1_9 rfl 4 dX1_isLate_1 rfl (hK.load hi) (v := .int (S.2 23 i)) rfl ?_
  refine J.iconst 3 5 dX1_isLate_4 rfl (by decide) ?_
  refine J.icmp_ne 23 8 dX1_isLate_5 (by decide) rfl (fun c1 => ?_) (fun c1 => ?_)
  · skip
    refine J.iconst 0 24 dX1_isLate_23 rfl (by decide) ?_
    exact J.zret dX1_isLate_24 rfl (Or.inl rfl) (by rw [← hpost]; exact ⟨by simp [ib, c1], rfl⟩)
  · skip
    refine J.aload_n 9 dX1_isLate_8 rfl rfl ?_
    refine gf_X1_21 rfl 12 dX1_isLate_9 rfl (hK.load hi) (v := .int (S.2 26 i)) rfl ?_
    refine J.aload_n 13 dX1_isLate_12 rfl rfl ?_
    refine gf_X1_42 rfl 16 dX1_isLate_13 rfl (hK.load hi) (v := .int (S.2 22 i)) rfl ?_
    refine J.icmp_le 23 19 dX1_isLate_16 (by decide) rfl (fun c2 => ?_) (fun c2 => ?_)
    · skip
      refine J.iconst 0 24 dX1_isLate_23 rfl (by decide) ?_
      exact J.zret dX1_isLate_24 rfl (Or.inl rfl) (by rw [← hpost]; exact ⟨by simp [ib, c1, c2, Int32.not_lt.mpr c2], rfl⟩)
    · skip
      refine J.iconst 1 20 dX1_isLate_19 rfl (by decide) ?_
      refine J.goto 24 dX1_isLate_20 (by decide) ?_
      exact J.zret dX1_isLate_24 rfl (Or.inr rfl) (by rw [← hpost]; exact ⟨by simp [ib, c1, c2, Int32.not_le.mp c2], rfl⟩)
theorem c_there {G : Nat → Nat} {O : Nat → Prop} {ad : Nat → Nat → Nat} {S X : MS} {L : Nat → List Nat} {wn : Nat → Option Nat} {sl : Nat → Nat} {fl : Nat} {h : AH} {d : Nat} {p : Nat} (hK : KR G O ad S X L wn sl fl h) (hp : p < (L 0).length) : Ct Y_X6_minutesThereAndBack d G 0 0 [.ref (ad 3 p)] h (fun r h2 => r = some (.int (2 * S.2 2 p + 2)) ∧ h2 = h) := by
  refine Ct.ofn 0 rfl (Nat.le_of_ble_eq_true rfl) (by simp [Value.category]) ?_
  generalize hpost : (fun (r : Option Value) (h2 : AH) => r = some (.int (2 * S.2 2 p + 2)) ∧ h2 = h) = post
  show J Y_X6_minutesThereAndBack d G 0 0 0 [some (.ref (ad 3 p))] [] h post
  refine J.iconst 2 1 dX6_minutesThereAndBack_0 rfl (by decide) ?_
  refine J.aload_n 2 dX6_minutesThereAndBack_1 rfl rfl ?_
  refine gf_X6_18 rfl 5 dX6_minutesThereAndBack_2 rfl (hK.place hp) (v := .int (S.2 2 p)) rfl ?_
  refine J.imul 6 dX6_minutesThereAndBack_5 rfl ?_
  refine J.iconst 2 7 dX6_minutesThereAndBack_6 rfl (by decide) ?_
  refine J.iadd 8 dX6_minutesThereAndBack_7 rfl ?_
  exact J.iret dX6_minutesThereAndBack_8 rfl (by rw [← hpost]; exact ⟨by rfl, rfl⟩)
def c_hour (t : Int32) : Int32 := if 0 < (if t / 60 < 11 then t / 60 else 11) then (if t / 60 < 11 then t / 60 else 11) else 0
theorem c_hourOf {t : Int32} {d : Nat} : CF Y_X10_hourOf (d + 1) [.int t] (c_hour t) := by
  refine CF.of 0 rfl (Nat.le_of_ble_eq_true rfl) (by simp [Value.category]) ?_
  intro G h post fin
  show J Y_X10_hourOf (d + 1) G 0 0 0 [some (.int t)] [] h post
  refine J.iconst 0 1 dX10_hourOf_0 rfl (by decide) ?_
  refine J.bipush 11 3 dX10_hourOf_1 rfl (by decide) ?_
  refine J.iload_n 4 dX10_hourOf_3 rfl rfl ?_
  refine J.bipush 60 6 dX10_hourOf_4 rfl (by decide) ?_
  refine J.idiv 7 dX10_hourOf_6 rfl (by decide) ?_
  refine J.mmin 10 dX10_hourOf_7 rfl wm_637 (Nat.le_of_ble_eq_true rfl) ?_
  refine J.mmax 13 dX10_hourOf_10 rfl wm_638 (Nat.le_of_ble_eq_true rfl) ?_
  exact J.iret dX10_hourOf_13 rfl (fin _ rfl)
theorem c_warmthAt {G : Nat → Nat} {O : Nat → Prop} {ad : Nat → Nat → Nat} {S X : MS} {L : Nat → List Nat} {wn : Nat → Option Nat} {sl : Nat → Nat} {fl : Nat} {h : AH} {d : Nat} {t : Int32} (hK : KR G O ad S X L wn sl fl h) (ht : vp_in (c_hour t) 12) : Ct Y_X10_warmthAt (d + 2) G 0 0 [.ref (ad 10 0), .int t] h (fun r h2 => r = some (.int (S.2 5 (c_hour t).toNatClampNeg)) ∧ h2 = h) := by
  refine Ct.ofn 0 rfl (Nat.le_of_ble_eq_true rfl) (by simp [Value.category]) ?_
  generalize hpost : (fun (r : Option Value) (h2 : AH) => r = some (.int (S.2 5 (c_hour t).toNatClampNeg)) ∧ h2 = h) = post
  show J Y_X10_warmthAt (d + 2) G 0 0 0 [some (.ref (ad 10 0)), some (.int t)] [] h post
  refine J.aload_n 1 dX10_warmthAt_0 rfl rfl ?_
  refine gf_X10_15 rfl 4 dX10_warmthAt_1 rfl (hK.wea) (v := .ref (ad 15 1)) rfl ?_
  refine J.iload_n 5 dX10_warmthAt_4 rfl rfl ?_
  refine cs_X10_30 rfl 8 (c_hourOf (t := t) _ _) dX10_warmthAt_5 rfl rfl rfl (Nat.le_of_ble_eq_true rfl) (Nat.zero_le _) (Nat.zero_le _) (fun r h2 hp => ?_)
  obtain ⟨rfl, rfl⟩ := hp
  refine J.iald2 ((c_hour t).toNatClampNeg) rfl (x := S.2 5 ((c_hour t).toNatClampNeg)) rfl 9 dX10_warmthAt_8 rfl hK.arr1 ht ?_
  exact J.iret dX10_warmthAt_9 rfl (by rw [← hpost]; exact ⟨by rfl, rfl⟩)
theorem c_strength {G : Nat → Nat} {O : Nat → Prop} {ad : Nat → Nat → Nat} {S X : MS} {L : Nat → List Nat} {wn : Nat → Option Nat} {sl : Nat → Nat} {fl : Nat} {h : AH} {d : Nat} {m : Nat} {x y : Int32} (hK : KR G O ad S X L wn sl fl h) (hm : m < (L 1).length) : Ct Y_X2_strength (d + 1) G 0 0 [.ref (ad 4 m), .int x, .int y] h (fun r h2 => r = some (.int (if 0 < S.2 7 m - 4 * x - y then S.2 7 m - 4 * x - y else 0)) ∧ h2 = h) := by
  refine Ct.ofn 0 rfl (Nat.le_of_ble_eq_true rfl) (by simp [Value.category]) ?_
  generalize hpost : (fun (r : Option Value) (h2 : AH) => r = some (.int (if 0 < S.2 7 m - 4 * x - y then S.2 7 m - 4 * x - y else 0)) ∧ h2 = h) = post
  show J Y_X2_strength (d + 1) G 0 0 0 [some (.ref (ad 4 m)), some (.int x), some (.int y)] [] h post
  refine J.iconst 0 1 dX2_strength_0 rfl (by decide) ?_
  refine J.aload_n 2 dX2_strength_1 rfl rfl ?_
  refine gf_X2_18 rfl 5 dX2_strength_2 rfl (hK.mach hm) (v := .int (S.2 7 m)) rfl ?_
  refine J.iconst 4 6 dX2_strength_5 rfl (by decide) ?_
  refine J.iload_n 7 dX2_strength_6 rfl rfl ?_
  refine J.imul 8 dX2_strength_7 rfl ?_
  refine J.isub 9 dX2_strength_8 rfl ?_
  refine J.iload_n 10 dX2_strength_9 rfl rfl ?_
  refine J.isub 11 dX2_strength_10 rfl ?_
  refine J.mmax 14 dX2_strength_11 rfl wm_662 (Nat.le_of_ble_eq_true rfl) ?_
  exact J.iret dX2_strength_14 rfl (by rw [← hpost]; exact ⟨by rfl, rfl⟩)
theorem c_weightOf {G : Nat → Nat} {O : Nat → Prop} {ad : Nat → Nat → Nat} {S X : MS} {L : Nat → List Nat} {wn : Nat → Option Nat} {sl : Nat → Nat} {fl : Nat} {h : AH} {d : Nat} {r : Nat} (hK : KR G O ad S X L wn sl fl h) (hr : r < 8 + (L 1).length) (hek : ek r = 6) (hlen : (L r).length ≤ 1000) : Ct Y_X11_weightOf (d + 3) G 0 0 [.ref (ad 1 r)] h (fun r2 h2 => r2 = some (.int (lsum (S.2 18) (L r))) ∧ h2 = h) := by
  refine Ct.ofn 2 rfl (Nat.le_of_ble_eq_true rfl) (by simp [Value.category]) ?_
  generalize hpost : (fun (r2 : Option Value) (h2 : AH) => r2 = some (.int (lsum (S.2 18) (L r))) ∧ h2 = h) = post
  show J Y_X11_weightOf (d + 3) G 0 0 0 [some (.ref (ad 1 r)), none, none] [] h post
  refine J.iconst 0 1 dX11_weightOf_0 rfl (by decide) ?_
  refine J.ist_1 2 dX11_weightOf_1 rfl (by decide) ?_
  refine J.iconst 0 3 dX11_weightOf_2 rfl (by decide) ?_
  refine J.ist_2 4 dX11_weightOf_3 rfl (by decide) ?_
  have loop4 : ∀ (j k : Nat) (x1 x2 : Int32), k ≤ (L r).length → (L r).length + 1 ≤ k + j → x2 = nI k → (x1 = lsum (S.2 18) ((L r).take k)) → J Y_X11_weightOf (d + 3) G 0 0 4 [some (.ref (ad 1 r)), some (.int x1), some (.int x2)] [] h post := by
    intro j
    induction j with
    | zero => intro k _ _ g1 g2; exact absurd g2 (by omega)
    | succ j ih =>
      intro k x1 x2 g1 g2 e2 e1 
      have q2 : x2.toNatClampNeg = k := by rw [e2]; exact nI_clamp (by omega)
      refine J.iload_n 5 dX11_weightOf_4 rfl rfl ?_
      refine J.aload_n 6 dX11_weightOf_5 rfl rfl ?_
      refine cv_X11_79 rfl 9 (hK.size hr) dX11_weightOf_6 rfl (hK.listOb hr).choose_spec rfl rfl (Nat.le_of_ble_eq_true rfl) (Nat.zero_le _) (Nat.zero_le _) (fun r h2 hp => ?_)
      obtain ⟨rfl, rfl⟩ := hp
      refine J.icmp_ge 32 12 dX11_weightOf_9 (by decide) rfl (fun c1 => ?_) (fun c1 => ?_)
      · skip
        have hk : k = (L r).length := Nat.le_antisymm g1 ((nI_leI (by omega) (by omega)).mp (by have z := c1; rw [e2] at z; exact z))
        refine J.iload_n 33 dX11_weightOf_32 rfl rfl ?_
        exact J.iret dX11_weightOf_33 rfl (by rw [← hpost]; exact ⟨by rw [e1, hk, List.take_length], rfl⟩)
      · skip
        have hk : k < (L r).length := Nat.lt_of_not_le (fun y => c1 (by rw [e2]; exact nI_le y (by omega)))
        have hin : vp_in x2 1000 := by rw [e2]; exact vp_in_nI (by omega) (by decide)
        refine J.iload_n 13 dX11_weightOf_12 rfl rfl ?_
        refine J.aload_n 14 dX11_weightOf_13 rfl rfl ?_
        refine J.iload_n 15 dX11_weightOf_14 rfl rfl ?_
        obtain ⟨y, hy⟩ : ∃ y, (L r)[k]? = some y := ⟨_, List.getElem?_eq_getElem hk⟩
        have kg := hK.get (d := d) hr hy
        rw [← e2] at kg
        rw [hek] at kg
        refine cv_X11_132 rfl 18 kg dX11_weightOf_15 rfl (hK.listOb hr).choose_spec rfl rfl (Nat.le_of_ble_eq_true rfl) (Nat.zero_le _) (Nat.zero_le _) (fun r h2 hp => ?_)
        obtain ⟨rfl, rfl⟩ := hp
        refine cc_X11_95 rfl 21 dX11_weightOf_18 rfl (hK.load (hK.mem6 hr hek hy)) ?_
        refine gf_X11_313 rfl 24 dX11_weightOf_21 rfl (hK.load (hK.mem6 hr hek hy)) (v := .int (S.2 18 y)) rfl ?_
        refine J.iadd 25 dX11_weightOf_24 rfl ?_
        refine J.ist_1 26 dX11_weightOf_25 rfl (by decide) ?_
        refine J.iinc_2 1 29 dX11_weightOf_26 rfl (by decide) (by decide) ?_
        refine J.goto 4 dX11_weightOf_29 (by decide) ?_
        exact ih (k + 1) _ _ (by omega) (by omega) (by rw [e2]; exact nI_1 k) (by rw [e1]; exact (lsum_1 hy).symm) 
  exact loop4 ((L r).length + 1) 0 _ _ (Nat.zero_le _) (by omega) rfl rfl 
theorem c_roomOf {G : Nat → Nat} {O : Nat → Prop} {ad : Nat → Nat → Nat} {S X : MS} {L : Nat → List Nat} {wn : Nat → Option Nat} {sl : Nat → Nat} {fl : Nat} {h : AH} {d : Nat} {r : Nat} (hK : KR G O ad S X L wn sl fl h) (hr : r < 8 + (L 1).length) (hek : ek r = 6) (hlen : (L r).length ≤ 1000) : Ct Y_X11_roomOf (d + 3) G 0 0 [.ref (ad 1 r)] h (fun r2 h2 => r2 = some (.int (lsum (S.2 19) (L r))) ∧ h2 = h) := by
  refine Ct.ofn 2 rfl (Nat.le_of_ble_eq_true rfl) (by simp [Value.category]) ?_
  generalize hpost : (fun (r2 : Option Value) (h2 : AH) => r2 = some (.int (lsum (S.2 19) (L r))) ∧ h2 = h) = post
  show J Y_X11_roomOf (d + 3) G 0 0 0 [some (.ref (ad 1 r)), none, none] [] h post
  refine J.iconst 0 1 dX11_roomOf_0 rfl (by decide) ?_
  refine J.ist_1 2 dX11_roomOf_1 rfl (by decide) ?_
  refine J.iconst 0 3 dX11_roomOf_2 rfl (by decide) ?_
  refine J.ist_2 4 dX11_roomOf_3 rfl (by decide) ?_
  have loop4 : ∀ (j k : Nat) (x1 x2 : Int32), k ≤ (L r).length → (L r).length + 1 ≤ k + j → x2 = nI k → (x1 = lsum (S.2 19) ((L r).take k)) → J Y_X11_roomOf (d + 3) G 0 0 4 [some (.ref (ad 1 r)), some (.int x1), some (.int x2)] [] h post := by
    intro j
    induction j with
    | zero => intro k _ _ g1 g2; exact absurd g2 (by omega)
    | succ j ih =>
      intro k x1 x2 g1 g2 e2 e1 
      have q2 : x2.toNatClampNeg = k := by rw [e2]; exact nI_clamp (by omega)
      refine J.iload_n 5 dX11_roomOf_4 rfl rfl ?_
      refine J.aload_n 6 dX11_roomOf_5 rfl rfl ?_
      refine cv_X11_79 rfl 9 (hK.size hr) dX11_roomOf_6 rfl (hK.listOb hr).choose_spec rfl rfl (Nat.le_of_ble_eq_true rfl) (Nat.zero_le _) (Nat.zero_le _) (fun r h2 hp => ?_)
      obtain ⟨rfl, rfl⟩ := hp
      refine J.icmp_ge 32 12 dX11_roomOf_9 (by decide) rfl (fun c1 => ?_) (fun c1 => ?_)
      · skip
        have hk : k = (L r).length := Nat.le_antisymm g1 ((nI_leI (by omega) (by omega)).mp (by have z := c1; rw [e2] at z; exact z))
        refine J.iload_n 33 dX11_roomOf_32 rfl rfl ?_
        exact J.iret dX11_roomOf_33 rfl (by rw [← hpost]; exact ⟨by rw [e1, hk, List.take_length], rfl⟩)
      · skip
        have hk : k < (L r).length := Nat.lt_of_not_le (fun y => c1 (by rw [e2]; exact nI_le y (by omega)))
        have hin : vp_in x2 1000 := by rw [e2]; exact vp_in_nI (by omega) (by decide)
        refine J.iload_n 13 dX11_roomOf_12 rfl rfl ?_
        refine J.aload_n 14 dX11_roomOf_13 rfl rfl ?_
        refine J.iload_n 15 dX11_roomOf_14 rfl rfl ?_
        obtain ⟨y, hy⟩ : ∃ y, (L r)[k]? = some y := ⟨_, List.getElem?_eq_getElem hk⟩
        have kg := hK.get (d := d) hr hy
        rw [← e2] at kg
        rw [hek] at kg
        refine cv_X11_132 rfl 18 kg dX11_roomOf_15 rfl (hK.listOb hr).choose_spec rfl rfl (Nat.le_of_ble_eq_true rfl) (Nat.zero_le _) (Nat.zero_le _) (fun r h2 hp => ?_)
        obtain ⟨rfl, rfl⟩ := hp
        refine cc_X11_95 rfl 21 dX11_roomOf_18 rfl (hK.load (hK.mem6 hr hek hy)) ?_
        refine gf_X11_316 rfl 24 dX11_roomOf_21 rfl (hK.load (hK.mem6 hr hek hy)) (v := .int (S.2 19 y)) rfl ?_
        refine J.iadd 25 dX11_roomOf_24 rfl ?_
        refine J.ist_1 26 dX11_roomOf_25 rfl (by decide) ?_
        refine J.iinc_2 1 29 dX11_roomOf_26 rfl (by decide) (by decide) ?_
        refine J.goto 4 dX11_roomOf_29 (by decide) ?_
        exact ih (k + 1) _ _ (by omega) (by omega) (by rw [e2]; exact nI_1 k) (by rw [e1]; exact (lsum_1 hy).symm) 
  exact loop4 ((L r).length + 1) 0 _ _ (Nat.zero_le _) (by omega) rfl rfl 
theorem c_greatest {G : Nat → Nat} {O : Nat → Prop} {ad : Nat → Nat → Nat} {S X : MS} {L : Nat → List Nat} {wn : Nat → Option Nat} {sl : Nat → Nat} {fl : Nat} {h : AH} {d : Nat} {m : Nat} (hK : KR G O ad S X L wn sl fl h) (hm : m < (L 1).length) (hlen : (L (8 + m)).length ≤ 1000) : Ct Y_X2_greatestKind (d + 3) G 0 0 [.ref (ad 4 m)] h (fun r h2 => r = some (.int (lmax (S.2 20) (L (8 + m)))) ∧ h2 = h) := by
  refine Ct.ofn 2 rfl (Nat.le_of_ble_eq_true rfl) (by simp [Value.category]) ?_
  generalize hpost : (fun (r : Option Value) (h2 : AH) => r = some (.int (lmax (S.2 20) (L (8 + m)))) ∧ h2 = h) = post
  show J Y_X2_greatestKind (d + 3) G 0 0 0 [some (.ref (ad 4 m)), none, none] [] h post
  refine J.iconst 0 1 dX2_greatestKind_0 rfl (by decide) ?_
  refine J.ist_1 2 dX2_greatestKind_1 rfl (by decide) ?_
  refine J.iconst 0 3 dX2_greatestKind_2 rfl (by decide) ?_
  refine J.ist_2 4 dX2_greatestKind_3 rfl (by decide) ?_
  have loop4 : ∀ (j k : Nat) (x1 x2 : Int32), k ≤ (L (8 + m)).length → (L (8 + m)).length + 1 ≤ k + j → x2 = nI k → (x1 = lmax (S.2 20) ((L (8 + m)).take k)) → J Y_X2_greatestKind (d + 3) G 0 0 4 [some (.ref (ad 4 m)), some (.int x1), some (.int x2)] [] h post := by
    intro j
    induction j with
    | zero => intro k _ _ g1 g2; exact absurd g2 (by omega)
    | succ j ih =>
      intro k x1 x2 g1 g2 e2 e1 
      have q2 : x2.toNatClampNeg = k := by rw [e2]; exact nI_clamp (by omega)
      refine J.iload_n 5 dX2_greatestKind_4 rfl rfl ?_
      refine J.aload_n 6 dX2_greatestKind_5 rfl rfl ?_
      refine gf_X2_12 rfl 9 dX2_greatestKind_6 rfl (hK.mach hm) (v := .ref (ad 1 (8 + m))) rfl ?_
      refine cv_X2_61 rfl 12 (hK.size (by omega)) dX2_greatestKind_9 rfl (hK.listOb (by omega)).choose_spec rfl rfl (Nat.le_of_ble_eq_true rfl) (Nat.zero_le _) (Nat.zero_le _) (fun r h2 hp => ?_)
      obtain ⟨rfl, rfl⟩ := hp
      refine J.icmp_ge 40 15 dX2_greatestKind_12 (by decide) rfl (fun c1 => ?_) (fun c1 => ?_)
      · skip
        have hk : k = (L (8 + m)).length := Nat.le_antisymm g1 ((nI_leI (by omega) (by omega)).mp (by have z := c1; rw [e2] at z; exact z))
        refine J.iload_n 41 dX2_greatestKind_40 rfl rfl ?_
        exact J.iret dX2_greatestKind_41 rfl (by rw [← hpost]; exact ⟨by rw [e1, hk, List.take_length], rfl⟩)
      · skip
        have hk : k < (L (8 + m)).length := Nat.lt_of_not_le (fun y => c1 (by rw [e2]; exact nI_le y (by omega)))
        have hin : vp_in x2 1000 := by rw [e2]; exact vp_in_nI (by omega) (by decide)
        refine J.iload_n 16 dX2_greatestKind_15 rfl rfl ?_
        refine J.aload_n 17 dX2_greatestKind_16 rfl rfl ?_
        refine gf_X2_12 rfl 20 dX2_greatestKind_17 rfl (hK.mach hm) (v := .ref (ad 1 (8 + m))) rfl ?_
        refine J.iload_n 21 dX2_greatestKind_20 rfl rfl ?_
        obtain ⟨y, hy⟩ : ∃ y, (L (8 + m))[k]? = some y := ⟨_, List.getElem?_eq_getElem hk⟩
        have kg := hK.get (d := d) (by omega) hy
        rw [← e2] at kg
        rw [ek8] at kg
        refine cv_X2_43 rfl 24 kg dX2_greatestKind_21 rfl (hK.listOb (by omega)).choose_spec rfl rfl (Nat.le_of_ble_eq_true rfl) (Nat.zero_le _) (Nat.zero_le _) (fun r h2 hp => ?_)
        obtain ⟨rfl, rfl⟩ := hp
        refine cc_X2_39 rfl 27 dX2_greatestKind_24 rfl (hK.load (hK.mem6 (by omega) (ek8 _) hy)) ?_
        refine gf_X2_65 rfl 30 dX2_greatestKind_27 rfl (hK.load (hK.mem6 (by omega) (ek8 _) hy)) (v := .int (S.2 20 y)) rfl ?_
        refine J.mmax 33 dX2_greatestKind_30 rfl wm_662 (Nat.le_of_ble_eq_true rfl) ?_
        refine J.ist_1 34 dX2_greatestKind_33 rfl (by decide) ?_
        refine J.iinc_2 1 37 dX2_greatestKind_34 rfl (by decide) (by decide) ?_
        refine J.goto 4 dX2_greatestKind_37 (by decide) ?_
        exact ih (k + 1) _ _ (by omega) (by omega) (by rw [e2]; exact nI_1 k) (by rw [e1]; exact (lmax_1 hy).symm) 
  exact loop4 ((L (8 + m)).length + 1) 0 _ _ (Nat.zero_le _) (by omega) rfl rfl 
theorem c_carries {G : Nat → Nat} {O : Nat → Prop} {ad : Nat → Nat → Nat} {S X : MS} {L : Nat → List Nat} {wn : Nat → Option Nat} {sl : Nat → Nat} {fl : Nat} {h : AH} {d : Nat} {m : Nat} {c : Int32} (hK : KR G O ad S X L wn sl fl h) (hm : m < (L 1).length) (hlen : (L (8 + m)).length ≤ 1000) : Ct Y_X2_carries (d + 3) G 0 0 [.ref (ad 4 m), .int c] h (fun r h2 => r = some (.int (ib ((L (8 + m)).any (fun z => decide (S.2 20 z = c)) = true))) ∧ h2 = h) := by
  refine Ct.ofn 1 rfl (Nat.le_of_ble_eq_true rfl) (by simp [Value.category]) ?_
  generalize hpost : (fun (r : Option Value) (h2 : AH) => r = some (.int (ib ((L (8 + m)).any (fun z => decide (S.2 20 z = c)) = true))) ∧ h2 = h) = post
  show J Y_X2_carries (d + 3) G 0 0 0 [some (.ref (ad 4 m)), some (.int c), none] [] h post
  refine J.iconst 0 1 dX2_carries_0 rfl (by decide) ?_
  refine J.ist_2 2 dX2_carries_1 rfl (by decide) ?_
  have loop2 : ∀ (j k : Nat) (x2 : Int32), k ≤ (L (8 + m)).length → (L (8 + m)).length + 1 ≤ k + j → x2 = nI k → (((L (8 + m)).take k).any (fun z => decide (S.2 20 z = c)) = false) → J Y_X2_carries (d + 3) G 0 0 2 [some (.ref (ad 4 m)), some (.int c), some (.int x2)] [] h post := by
    intro j
    induction j with
    | zero => intro k _ g1 g2; exact absurd g2 (by omega)
    | succ j ih =>
      intro k x2 g1 g2 e2 hI 
      have q2 : x2.toNatClampNeg = k := by rw [e2]; exact nI_clamp (by omega)
      refine J.iload_n 3 dX2_carries_2 rfl rfl ?_
      refine J.aload_n 4 dX2_carries_3 rfl rfl ?_
      refine gf_X2_12 rfl 7 dX2_carries_4 rfl (hK.mach hm) (v := .ref (ad 1 (8 + m))) rfl ?_
      refine cv_X2_61 rfl 10 (hK.size (by omega)) dX2_carries_7 rfl (hK.listOb (by omega)).choose_spec rfl rfl (Nat.le_of_ble_eq_true rfl) (Nat.zero_le _) (Nat.zero_le _) (fun r h2 hp => ?_)
      obtain ⟨rfl, rfl⟩ := hp
      refine J.icmp_ge 39 13 dX2_carries_10 (by decide) rfl (fun c1 => ?_) (fun c1 => ?_)
      · skip
        have hk : k = (L (8 + m)).length := Nat.le_antisymm g1 ((nI_leI (by omega) (by omega)).mp (by have z := c1; rw [e2] at z; exact z))
        refine J.iconst 0 40 dX2_carries_39 rfl (by decide) ?_
        exact J.zret dX2_carries_40 rfl (Or.inl rfl) (by rw [← hpost]; exact ⟨by rw [hk, List.take_length] at hI; rw [hI]; rfl, rfl⟩)
      · skip
        have hk : k < (L (8 + m)).length := Nat.lt_of_not_le (fun y => c1 (by rw [e2]; exact nI_le y (by omega)))
        have hin : vp_in x2 1000 := by rw [e2]; exact vp_in_nI (by omega) (by decide)
        refine J.aload_n 14 dX2_carries_13 rfl rfl ?_
        refine gf_X2_12 rfl 17 dX2_carries_14 rfl (hK.mach hm) (v := .ref (ad 1 (8 + m))) rfl ?_
        refine J.iload_n 18 dX2_carries_17 rfl rfl ?_
        obtain ⟨y, hy⟩ : ∃ y, (L (8 + m))[k]? = some y := ⟨_, List.getElem?_eq_getElem hk⟩
        have kg := hK.get (d := d) (by omega) hy
        rw [← e2] at kg
        rw [ek8] at kg
        refine cv_X2_43 rfl 21 kg dX2_carries_18 rfl (hK.listOb (by omega)).choose_spec rfl rfl (Nat.le_of_ble_eq_true rfl) (Nat.zero_le _) (Nat.zero_le _) (fun r h2 hp => ?_)
        obtain ⟨rfl, rfl⟩ := hp
        refine cc_X2_39 rfl 24 dX2_carries_21 rfl (hK.load (hK.mem6 (by omega) (ek8 _) hy)) ?_
        refine gf_X2_65 rfl 27 dX2_carries_24 rfl (hK.load (hK.mem6 (by omega) (ek8 _) hy)) (v := .int (S.2 20 y)) rfl ?_
        refine J.iload_n 28 dX2_carries_27 rfl rfl ?_
        refine J.icmp_ne 33 31 dX2_carries_28 (by decide) rfl (fun c2 => ?_) (fun c2 => ?_)
        · skip
          refine J.iinc_2 1 36 dX2_carries_33 rfl (by decide) (by decide) ?_
          refine J.goto 2 dX2_carries_36 (by decide) ?_
          exact ih (k + 1) _ (by omega) (by omega) (by rw [e2]; exact nI_1 k) (by rw [any_1 hy, hI]; simp [c1, Int32.not_le.mp c1, c2]) 
        · skip
          refine J.iconst 1 32 dX2_carries_31 rfl (by decide) ?_
          exact J.zret dX2_carries_32 rfl (Or.inr rfl) (by rw [← hpost]; exact ⟨by rw [any_of (p := fun z => decide (S.2 20 z = c)) hy (by simp [c1, Int32.not_le.mp c1, c2])]; rfl, rfl⟩)
  exact loop2 ((L (8 + m)).length + 1) 0 _ (Nat.zero_le _) (by omega) rfl rfl 
theorem c_spoils {G : Nat → Nat} {O : Nat → Prop} {ad : Nat → Nat → Nat} {S X : MS} {L : Nat → List Nat} {wn : Nat → Option Nat} {sl : Nat → Nat} {fl : Nat} {h : AH} {d : Nat} {m : Nat} {t : Int32} (hK : KR G O ad S X L wn sl fl h) (hm : m < (L 1).length) (hlen : (L (8 + m)).length ≤ 1000) : Ct Y_X2_spoils (d + 3) G 0 0 [.ref (ad 4 m), .int t] h (fun r h2 => r = some (.int (ib ((L (8 + m)).any (fun z => decide (S.2 20 z = 2 ∧ 90 < t - S.2 21 z)) = true))) ∧ h2 = h) := by
  refine Ct.ofn 2 rfl (Nat.le_of_ble_eq_true rfl) (by simp [Value.category]) ?_
  generalize hpost : (fun (r : Option Value) (h2 : AH) => r = some (.int (ib ((L (8 + m)).any (fun z => decide (S.2 20 z = 2 ∧ 90 < t - S.2 21 z)) = true))) ∧ h2 = h) = post
  show J Y_X2_spoils (d + 3) G 0 0 0 [some (.ref (ad 4 m)), some (.int t), none, none] [] h post
  refine J.iconst 0 1 dX2_spoils_0 rfl (by decide) ?_
  refine J.ist_2 2 dX2_spoils_1 rfl (by decide) ?_
  have loop2 : ∀ (j k : Nat) (x2 : Int32), k ≤ (L (8 + m)).length → (L (8 + m)).length + 1 ≤ k + j → x2 = nI k → (((L (8 + m)).take k).any (fun z => decide (S.2 20 z = 2 ∧ 90 < t - S.2 21 z)) = false) → J Y_X2_spoils (d + 3) G 0 0 2 [some (.ref (ad 4 m)), some (.int t), some (.int x2), none] [] h post := by
    intro j
    induction j with
    | zero => intro k _ g1 g2; exact absurd g2 (by omega)
    | succ j ih =>
      intro k x2 g1 g2 e2 hI 
      have q2 : x2.toNatClampNeg = k := by rw [e2]; exact nI_clamp (by omega)
      refine J.iload_n 3 dX2_spoils_2 rfl rfl ?_
      refine J.aload_n 4 dX2_spoils_3 rfl rfl ?_
      refine gf_X2_12 rfl 7 dX2_spoils_4 rfl (hK.mach hm) (v := .ref (ad 1 (8 + m))) rfl ?_
      refine cv_X2_61 rfl 10 (hK.size (by omega)) dX2_spoils_7 rfl (hK.listOb (by omega)).choose_spec rfl rfl (Nat.le_of_ble_eq_true rfl) (Nat.zero_le _) (Nat.zero_le _) (fun r h2 hp => ?_)
      obtain ⟨rfl, rfl⟩ := hp
      refine J.icmp_ge 52 13 dX2_spoils_10 (by decide) rfl (fun c1 => ?_) (fun c1 => ?_)
      · skip
        have hk : k = (L (8 + m)).length := Nat.le_antisymm g1 ((nI_leI (by omega) (by omega)).mp (by have z := c1; rw [e2] at z; exact z))
        refine J.iconst 0 53 dX2_spoils_52 rfl (by decide) ?_
        exact J.zret dX2_spoils_53 rfl (Or.inl rfl) (by rw [← hpost]; exact ⟨by rw [hk, List.take_length] at hI; rw [hI]; rfl, rfl⟩)
      · skip
        have hk : k < (L (8 + m)).length := Nat.lt_of_not_le (fun y => c1 (by rw [e2]; exact nI_le y (by omega)))
        have hin : vp_in x2 1000 := by rw [e2]; exact vp_in_nI (by omega) (by decide)
        refine J.aload_n 14 dX2_spoils_13 rfl rfl ?_
        refine gf_X2_12 rfl 17 dX2_spoils_14 rfl (hK.mach hm) (v := .ref (ad 1 (8 + m))) rfl ?_
        refine J.iload_n 18 dX2_spoils_17 rfl rfl ?_
        obtain ⟨y, hy⟩ : ∃ y, (L (8 + m))[k]? = some y := ⟨_, List.getElem?_eq_getElem hk⟩
        have kg := hK.get (d := d) (by omega) hy
        rw [← e2] at kg
        rw [ek8] at kg
        refine cv_X2_43 rfl 21 kg dX2_spoils_18 rfl (hK.listOb (by omega)).choose_spec rfl rfl (Nat.le_of_ble_eq_true rfl) (Nat.zero_le _) (Nat.zero_le _) (fun r h2 hp => ?_)
        obtain ⟨rfl, rfl⟩ := hp
        refine cc_X2_39 rfl 24 dX2_spoils_21 rfl (hK.load (hK.mem6 (by omega) (ek8 _) hy)) ?_
        refine J.ast_3 25 dX2_spoils_24 rfl (by decide) ?_
        refine J.aload_n 26 dX2_spoils_25 rfl rfl ?_
        refine gf_X2_65 rfl 29 dX2_spoils_26 rfl (hK.load (hK.mem6 (by omega) (ek8 _) hy)) (v := .int (S.2 20 y)) rfl ?_
        refine J.iconst 2 30 dX2_spoils_29 rfl (by decide) ?_
        refine J.icmp_ne 46 33 dX2_spoils_30 (by decide) rfl (fun c2 => ?_) (fun c2 => ?_)
        · skip
          refine J.iinc_2 1 49 dX2_spoils_46 rfl (by decide) (by decide) ?_
          refine J.goto 2 dX2_spoils_49 (by decide) ?_
          refine J.fg_3 ?_
          exact ih (k + 1) _ (by omega) (by omega) (by rw [e2]; exact nI_1 k) (by rw [any_1 hy, hI]; simp [c1, Int32.not_le.mp c1, c2]) 
        · skip
          refine J.iload_n 34 dX2_spoils_33 rfl rfl ?_
          refine J.aload_n 35 dX2_spoils_34 rfl rfl ?_
          refine gf_X2_68 rfl 38 dX2_spoils_35 rfl (hK.load (hK.mem6 (by omega) (ek8 _) hy)) (v := .int (S.2 21 y)) rfl ?_
          refine J.isub 39 dX2_spoils_38 rfl ?_
          refine J.bipush 90 41 dX2_spoils_39 rfl (by decide) ?_
          refine J.icmp_le 46 44 dX2_spoils_41 (by decide) rfl (fun c3 => ?_) (fun c3 => ?_)
          · skip
            refine J.iinc_2 1 49 dX2_spoils_46 rfl (by decide) (by decide) ?_
            refine J.goto 2 dX2_spoils_49 (by decide) ?_
            refine J.fg_3 ?_
            exact ih (k + 1) _ (by omega) (by omega) (by rw [e2]; exact nI_1 k) (by rw [any_1 hy, hI]; simp [c1, Int32.not_le.mp c1, c2, c3, Int32.not_lt.mpr c3]) 
          · skip
            refine J.iconst 1 45 dX2_spoils_44 rfl (by decide) ?_
            exact J.zret dX2_spoils_45 rfl (Or.inr rfl) (by rw [← hpost]; exact ⟨by rw [any_of (p := fun z => decide (S.2 20 z = 2 ∧ 90 < t - S.2 21 z)) hy (by simp [c1, Int32.not_le.mp c1, c2, c3, Int32.not_le.mp c3])]; rfl, rfl⟩)
  exact loop2 ((L (8 + m)).length + 1) 0 _ (Nat.zero_le _) (by omega) rfl rfl 
