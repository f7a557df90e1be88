def a_pl0 (S : MS) (n : Nat) (m y p b w : Int32) : MS := (S.1, u2 (u2 (u2 (u2 (u2 (u2 (u2 (u2 (u2 S.2 36 n (m)) 37 n (y)) 38 n (p)) 39 n (b)) 40 n (b + w)) 41 n (b + w + 2 + w)) 42 n (0)) 43 n (0)) 44 n (0))
theorem cs_plan {ad : Nat → Nat → Nat} {S X : MS} {L : Nat → List Nat} {wn : Nat → Option Nat} {sl : Nat → Nat} {n q : Nat} {m y p b w : Int32} : ∀ c2 i2, cs (adU ad 7 n q) (a_pl0 S n m y p b w) X L wn sl (n + 1) c2 i2 = if c2 = 7 ∧ i2 = n then some (Ob 1 [.int m, .int y, .int p, .int b, .int (b + w), .int (b + w + 2 + w), .int 0, .int 0, .int 0]) else cs ad S X L wn sl n c2 i2
  | 0, i2 => rfl
  | 1, i2 => rfl
  | 2, i2 => rfl
  | 3, i2 => rfl
  | 4, i2 => rfl
  | 5, i2 => rfl
  | 6, i2 => rfl
  | 7, i2 => by
    by_cases e : i2 = n
    · subst e
      rw [if_pos ⟨rfl, rfl⟩]
      show (if i2 < i2 + 1 then some (Ob 1 [.int (upd (S.2 36) i2 (m) i2), .int (upd (S.2 37) i2 (y) i2), .int (upd (S.2 38) i2 (p) i2), .int (upd (S.2 39) i2 (b) i2), .int (upd (S.2 40) i2 (b + w) i2), .int (upd (S.2 41) i2 (b + w + 2 + w) i2), .int (upd (S.2 42) i2 (0) i2), .int (upd (S.2 43) i2 (0) i2), .int (upd (S.2 44) i2 (0) i2)]) else none) = some (Ob 1 [.int m, .int y, .int p, .int b, .int (b + w), .int (b + w + 2 + w), .int 0, .int 0, .int 0])
      rw [if_pos (by omega)]
      simp only [pk_us]
    · rw [if_neg (fun z => e z.2)]
      show (if i2 < n + 1 then some (Ob 1 [.int (upd (S.2 36) n (m) i2), .int (upd (S.2 37) n (y) i2), .int (upd (S.2 38) n (p) i2), .int (upd (S.2 39) n (b) i2), .int (upd (S.2 40) n (b + w) i2), .int (upd (S.2 41) n (b + w + 2 + w) i2), .int (upd (S.2 42) n (0) i2), .int (upd (S.2 43) n (0) i2), .int (upd (S.2 44) n (0) i2)]) else none) = (if i2 < n then some (Ob 1 (fFlt S i2)) else none)
      simp only [pk_un e]
      by_cases e2 : i2 < n
      · rw [if_pos e2, if_pos (by omega)]
        rfl
      · rw [if_neg e2, if_neg (by omega)]
  | 8, i2 => rfl
  | 9, i2 => rfl
  | 10, i2 => rfl
  | 11, i2 => rfl
  | 12, i2 => rfl
  | 13, i2 => rfl
  | 14, i2 => rfl
  | 15, i2 => rfl
  | 16, i2 => rfl
  | 17, i2 => rfl
  | n + 18, i2 => rfl
theorem KR.shrinkF {G : Nat → Nat} {O : Nat → Prop} {ad : Nat → Nat → Nat} {S X : MS} {L : Nat → List Nat} {wn : Nat → Option Nat} {sl : Nat → Nat} {fl : Nat} {h : AH} (hK : KR G O ad S X L wn sl fl h) (h4r : L 4 = List.range (L 4).length) (hfl : (L 4).length ≤ fl) : KR G O ad S X L wn sl (L 4).length h := by
  have hcs : ∀ c i, cs ad S X L wn sl (L 4).length c i = if c = 7 ∧ ¬ i < (L 4).length then none else cs ad S X L wn sl fl c i
    | 0, i => rfl
    | 1, i => rfl
    | 2, i => rfl
    | 3, i => rfl
    | 4, i => rfl
    | 5, i => rfl
    | 6, i => rfl
    | 7, i => by
      by_cases e : i < (L 4).length
      · rw [if_neg (fun z => z.2 e)]
        show (if i < (L 4).length then _ else none) = (if i < fl then _ else none)
        rw [if_pos e, if_pos (by omega)]
      · rw [if_pos ⟨rfl, e⟩]
        show (if i < (L 4).length then _ else none) = none
        rw [if_neg e]
    | 8, i => rfl
    | 9, i => rfl
    | 10, i => rfl
    | 11, i => rfl
    | 12, i => rfl
    | 13, i => rfl
    | 14, i => rfl
    | 15, i => rfl
    | 16, i => rfl
    | 17, i => rfl
    | n + 18, i => rfl
  refine hK.shrink (fun c i e he => ?_) (fun r hr x hx => ?_)
  · rw [hcs] at he
    split at he
    · cases he
    · exact he
  · obtain ⟨ed, cp, h1, h2, h3, h4, h5, h6⟩ := id hK
    rw [hcs]
    split
    · rename_i z
      exfalso
      have hr4 : r = 4 := by
        have e := z.1
        unfold ek at e
        split at e <;> first | rfl | omega
      rw [hr4, h4r] at hx
      exact z.2 (List.mem_range.mp hx)
    · exact h6 r hr x hx
theorem ib_ite {P : Prop} [Decidable P] {α : Type} {x y : α} : (if ib P = 0 then x else y) = if P then y else x := by
  by_cases z : P
  · rw [if_neg (ib_n.mpr z), if_pos z]
  · rw [if_pos (ib_0.mpr z), if_neg z]
def a_way (S : MS) (L : Nat → List Nat) (m p : Int32) : Int32 := if (L (8 + m.toNatClampNeg)).any (fun z => decide (S.2 20 z = 1)) = true then 2 * S.2 2 p.toNatClampNeg else S.2 2 p.toNatClampNeg
def a_str (S : MS) (m : Nat) (x y : Int32) : Int32 := if 0 < S.2 7 m - 4 * x - y then S.2 7 m - 4 * x - y else 0
def a_rid (S : MS) (L : Nat → List Nat) (m p : Int32) : List Nat := (ridN S p (S.1 0 + a_way S L m p) (a_str S m.toNatClampNeg (S.2 1 p.toNatClampNeg) (S.2 5 (c_hour (S.1 0 + a_way S L m p)).toNatClampNeg)) (L 3).length).1
def a_burn (S : MS) (L : Nat → List Nat) (m p : Int32) : Int32 := a_way S L m p * (2 + lsum (S.2 18) (L (8 + m.toNatClampNeg)) / 20) + a_way S L m p * (2 + lsum (S.2 18) (a_rid S L m p) / 20)
def a_plan (S : MS) (L : Nat → List Nat) (m y p : Int32) : MS := ((a_pl0 S (L 4).length m y p (S.1 0) (a_way S L m p)).1, u2 (u2 (u2 (a_pl0 S (L 4).length m y p (S.1 0) (a_way S L m p)).2 43 (L 4).length (nI (L (8 + m.toNatClampNeg)).length)) 44 (L 4).length (nI (a_rid S L m p).length)) 42 (L 4).length (a_burn S L m p))
theorem rid_S {S T : MS} (h : ∀ k, k < 36 → T.2 k = S.2 k) (p t l : Int32) : ∀ n, ridN T p t l n = ridN S p t l n
  | 0 => rfl
  | n + 1 => by simp only [ridN, ridS, rid_S h p t l n, h 23 (by decide), h 17 (by decide), h 20 (by decide), h 21 (by decide), h 18 (by decide), h 19 (by decide)]
theorem c_planned {G : Nat → Nat} {O : Nat → Prop} {ad : Nat → Nat → Nat} {S X : MS} {L : Nat → List Nat} {wn : Nat → Option Nat} {sl : Nat → Nat} {fl : Nat} {h h0 : AH} {d : Nat} {m y p : Int32} (hK : KR G O ad S X L wn sl fl h) (hF : KF O h0 h) (h0r : L 0 = List.range (L 0).length) (hb0 : (L 0).length ≤ 12) (h1r : L 1 = List.range (L 1).length) (hb1 : (L 1).length ≤ 4) (h3r : L 3 = List.range (L 3).length) (hb3 : (L 3).length ≤ 80) (h4r : L 4 = List.range (L 4).length) (hb4 : (L 4).length ≤ 200) (hlen : ∀ k, k < (L 1).length → (L (8 + k)).length ≤ 80) (hfl : (L 4).length ≤ fl) (im : m.toNatClampNeg < (L 1).length ∧ nI m.toNatClampNeg = m) (ip : p.toNatClampNeg < (L 0).length ∧ nI p.toNatClampNeg = p) (hh : vp_in (c_hour (S.1 0 + a_way S L m p)) 12) : Ct Y_X11_planned (d + 8) G ((L 3).length + 1) (170 * (L 3).length + 9) [.ref (ad 0 0), .int m, .int y, .int p] h (fun r h2 => ∃ q, r = some (.ref q) ∧ q = adU ad 7 (L 4).length q 7 (L 4).length ∧ KR G O (adU ad 7 (L 4).length q) (a_plan S L m y p) X (lset L 5 (a_rid S L m p)) wn sl ((L 4).length + 1) h2 ∧ KF O h0 h2) := by
  refine Ct.ofn 4 rfl (Nat.le_of_ble_eq_true rfl) (by simp [Value.category]) ?_
  generalize hpost : (fun (r : Option Value) (h2 : AH) => ∃ q, r = some (.ref q) ∧ q = adU ad 7 (L 4).length q 7 (L 4).length ∧ KR G O (adU ad 7 (L 4).length q) (a_plan S L m y p) X (lset L 5 (a_rid S L m p)) wn sl ((L 4).length + 1) h2 ∧ KF O h0 h2) = post
  show J Y_X11_planned (d + 8) G ((L 3).length + 1) (170 * (L 3).length + 9) 0 [some (.ref (ad 0 0)), some (.int m), some (.int y), some (.int p), none, none, none, none] [] h post
  replace hK := hK.shrinkF h4r hfl
  refine J.aload_n 1 dX11_planned_0 rfl rfl ?_
  refine gf_X11_16 rfl 4 dX11_planned_1 rfl (hK.hut) (v := .ref (ad 1 1)) rfl ?_
  refine J.iload_n 5 dX11_planned_4 rfl rfl ?_
  have kg := hK.get (d := d + 5) (r := 1) (i := m.toNatClampNeg) (by omega) (rng_get h1r im.1)
  rw [im.2] at kg
  refine cv_X11_132 rfl 8 kg dX11_planned_5 rfl (hK.listOb (r := 1) (by omega)).choose_spec rfl rfl (Nat.le_of_ble_eq_true rfl) (Nat.zero_le _) (Nat.zero_le _) (fun r h2 hp => ?_)
  obtain ⟨rfl, rfl⟩ := hp
  refine cc_X11_83 rfl 11 dX11_planned_8 rfl (hK.mach im.1) ?_
  refine J.ast_4 13 dX11_planned_11 rfl (by decide) ?_
  refine J.aload_n 14 dX11_planned_13 rfl rfl ?_
  refine gf_X11_10 rfl 17 dX11_planned_14 rfl (hK.hut) (v := .ref (ad 1 0)) rfl ?_
  refine J.iload_n 18 dX11_planned_17 rfl rfl ?_
  have kg := hK.get (d := d + 5) (r := 0) (i := p.toNatClampNeg) (by omega) (rng_get h0r ip.1)
  rw [ip.2] at kg
  refine cv_X11_132 rfl 21 kg dX11_planned_18 rfl (hK.listOb (r := 0) (by omega)).choose_spec rfl rfl (Nat.le_of_ble_eq_true rfl) (Nat.zero_le _) (Nat.zero_le _) (fun r h2 hp => ?_)
  obtain ⟨rfl, rfl⟩ := hp
  refine cc_X11_66 rfl 24 dX11_planned_21 rfl (hK.place ip.1) ?_
  refine J.ast_5 26 dX11_planned_24 rfl (by decide) ?_
  refine J.aload 28 dX11_planned_26 rfl rfl ?_
  refine J.iconst 1 29 dX11_planned_28 rfl (by decide) ?_
  refine cv_X11_329 rfl 32 (c_carries (m := m.toNatClampNeg) (c := 1) hK im.1 (by have := hlen _ im.1; omega)) dX11_planned_29 rfl (hK.mach im.1) rfl rfl (Nat.le_of_ble_eq_true rfl) (Nat.zero_le _) (Nat.zero_le _) (fun r h2 hp => ?_)
  obtain ⟨rfl, rfl⟩ := hp
  have K1 : ∀ (v1_0 : Int32), v1_0 = (if (ib ((L (8 + m.toNatClampNeg)).any (fun z => decide (S.2 20 z = 1)) = true)) = 0 then (S.2 2 p.toNatClampNeg) else (2 * (S.2 2 p.toNatClampNeg))) → ∀ h, KR G O ad S X L wn sl ((L 4).length) h → KF O h0 h → J Y_X11_planned (d + 8) G ((L 3).length + 1) (170 * (L 3).length + 9) 50 [some (.ref (ad 0 0)), some (.int m), some (.int y), some (.int p), some (.ref (ad 4 m.toNatClampNeg)), some (.ref (ad 3 p.toNatClampNeg)), none, none] [.int v1_0] h post := by
    intro v1_0 ev1_0 h hK hF
    refine J.ist_6 52 dX11_planned_50 rfl (by decide) ?_
    have hway : v1_0 = a_way S L m p := by rw [ev1_0, a_way]; exact ib_ite
    rw [hway]
    refine nw_X11_230 rfl 55 dX11_planned_52 rfl rfl rfl (fun q hq => ?_)
    have hK0 := hK
    have hK := hK.fresh (e := Ob 1 [.int 0, .int 0, .int 0, .int 0, .int 0, .int 0, .int 0, .int 0, .int 0]) hq
    refine J.dup 56 dX11_planned_55 rfl rfl ?_
    refine J.iload_n 57 dX11_planned_56 rfl rfl ?_
    refine J.iload_n 58 dX11_planned_57 rfl rfl ?_
    refine J.iload_n 59 dX11_planned_58 rfl rfl ?_
    refine J.aload_n 60 dX11_planned_59 rfl rfl ?_
    refine gf_X11_150 rfl 63 dX11_planned_60 rfl (hK.hut) (v := .int (S.1 0)) rfl ?_
    refine J.iload 65 dX11_planned_63 rfl rfl ?_
    refine cn_X11_335 rfl 68 (c_fltInit (u := m) (v := y) (w := p) (x := S.1 0) (z := a_way S L m p) hu_s) dX11_planned_65 rfl rfl rfl (Nat.le_of_ble_eq_true rfl) (Nat.zero_le _) (Nat.zero_le _) (fun r h2 hp => ?_)
    obtain ⟨rfl, rfl⟩ := hp
    rw [hu_hu]
    obtain ⟨hK, hF⟩ := KR.grow (S2 := (a_pl0 S (L 4).length m y p (S.1 0) (a_way S L m p))) (fl2 := (L 4).length + 1) (c0 := 7) (i0 := (L 4).length) hK0 hF hq (by decide) (show cs _ _ _ _ _ _ _ 7 _ = none from if_neg (by omega)) cs_plan ⟨fun fs z => (by cases z), fun n f z => (by cases z)⟩
    refine J.nmH (fun h1 eh1 => ?_)
    rw [← eh1] at hK hF
    have eqq : (adU ad 7 (L 4).length q) 7 (L 4).length = q := adU_s
    show J _ _ _ _ _ _ _ [.ref q] _ _
    rw [show (Value.ref q) = Value.ref ((adU ad 7 (L 4).length q) 7 (L 4).length) from by rw [eqq]]
    have hfn : (L 4).length < (L 4).length + 1 := Nat.lt_succ_self _
    refine J.ast_7 70 dX11_planned_68 rfl (by decide) ?_
    refine J.aload_n 71 dX11_planned_70 rfl rfl ?_
    refine J.iload_n 72 dX11_planned_71 rfl rfl ?_
    refine J.aload 74 dX11_planned_72 rfl rfl ?_
    refine gf_X11_241 rfl 77 dX11_planned_74 rfl (hK.flt hfn) (v := .int (upd (S.2 40) (L 4).length (S.1 0 + a_way S L m p) (L 4).length)) rfl ?_
    rw [pk_us]
    refine J.aload 79 dX11_planned_77 rfl rfl ?_
    refine J.aload 81 dX11_planned_79 rfl rfl ?_
    refine gf_X11_255 rfl 84 dX11_planned_81 rfl (hK.place ip.1) (v := .int (S.2 1 p.toNatClampNeg)) rfl ?_
    refine J.aload_n 85 dX11_planned_84 rfl rfl ?_
    refine gf_X11_31 rfl 88 dX11_planned_85 rfl (hK.hut) (v := .ref ((adU ad 7 (L 4).length q) 10 0)) rfl ?_
    refine J.aload 90 dX11_planned_88 rfl rfl ?_
    refine gf_X11_241 rfl 93 dX11_planned_90 rfl (hK.flt hfn) (v := .int (upd (S.2 40) (L 4).length (S.1 0 + a_way S L m p) (L 4).length)) rfl ?_
    rw [pk_us]
    refine cv_X11_199 rfl 96 (c_warmthAt (t := S.1 0 + a_way S L m p) hK hh) dX11_planned_93 rfl (hK.wea) rfl rfl (Nat.le_of_ble_eq_true rfl) (Nat.zero_le _) (Nat.zero_le _) (fun r h2 hp => ?_)
    obtain ⟨rfl, rfl⟩ := hp
    refine cv_X11_203 rfl 99 (c_strength (m := m.toNatClampNeg) (x := S.2 1 p.toNatClampNeg) (y := S.2 5 ((c_hour (S.1 0 + a_way S L m p)).toNatClampNeg)) hK im.1) dX11_planned_96 rfl (hK.mach im.1) rfl rfl (Nat.le_of_ble_eq_true rfl) (Nat.zero_le _) (Nat.zero_le _) (fun r h2 hp => ?_)
    obtain ⟨rfl, rfl⟩ := hp
    have kch := c_choose (d := d) (h0 := h0) (p := p) (t := S.1 0 + a_way S L m p) (l := a_str S m.toNatClampNeg (S.2 1 p.toNatClampNeg) (S.2 5 (c_hour (S.1 0 + a_way S L m p)).toNatClampNeg)) hK hF h3r hb3
    rw [rid_S (S := S) (T := (a_pl0 S (L 4).length m y p (S.1 0) (a_way S L m p))) (fun k hk => by simp only [a_pl0, u2_n (show k ≠ 36 by omega), u2_n (show k ≠ 37 by omega), u2_n (show k ≠ 38 by omega), u2_n (show k ≠ 39 by omega), u2_n (show k ≠ 40 by omega), u2_n (show k ≠ 41 by omega), u2_n (show k ≠ 42 by omega), u2_n (show k ≠ 43 by omega), u2_n (show k ≠ 44 by omega)])] at kch
    refine cv_X11_336 rfl 102 kch dX11_planned_99 rfl (hK.hut) rfl rfl (Nat.le_of_ble_eq_true rfl) (by omega) (by omega) (fun r h hp => ?_)
    obtain ⟨rfl, hK, hF⟩ := hp
    change KR G O (adU ad 7 (L 4).length q) (a_pl0 S (L 4).length m y p (S.1 0) (a_way S L m p)) X (lset L 5 (a_rid S L m p)) wn sl ((L 4).length + 1) h at hK
    have hL1 : ((lset L 5 (a_rid S L m p)) 1).length = (L 1).length := by rw [lset_n (by decide)]
    have im5 : m.toNatClampNeg < ((lset L 5 (a_rid S L m p)) 1).length := by rw [hL1]; exact im.1
    refine J.aload 104 dX11_planned_102 rfl rfl ?_
    refine J.aload 106 dX11_planned_104 rfl rfl ?_
    refine gf_X11_160 rfl 109 dX11_planned_106 rfl (hK.mach im5) (v := .ref ((adU ad 7 (L 4).length q) 1 (8 + m.toNatClampNeg))) rfl ?_
    have ks := hK.size (d := d + 7) (r := 8 + m.toNatClampNeg) (by omega)
    rw [lset_n (by omega)] at ks
    refine cv_X11_79 rfl 112 ks dX11_planned_109 rfl (hK.listOb (r := 8 + m.toNatClampNeg) (by omega)).choose_spec rfl rfl (Nat.le_of_ble_eq_true rfl) (Nat.zero_le _) (Nat.zero_le _) (fun r h2 hp => ?_)
    obtain ⟨rfl, rfl⟩ := hp
    refine pf_X11_250 rfl 115 dX11_planned_112 rfl (hK.flt hfn) (Nat.le_of_ble_eq_true rfl) ?_
    refine ks_7_7 hfn hK hF (fun h hK hF => ?_)
    refine J.aload 117 dX11_planned_115 rfl rfl ?_
    refine J.aload_n 118 dX11_planned_117 rfl rfl ?_
    refine gf_X11_63 rfl 121 dX11_planned_118 rfl (hK.hut) (v := .ref ((adU ad 7 (L 4).length q) 1 5)) rfl ?_
    have ks := hK.size (d := d + 7) (r := 5) (by omega)
    rw [lset_s] at ks
    refine cv_X11_79 rfl 124 ks dX11_planned_121 rfl (hK.listOb (r := 5) (by omega)).choose_spec rfl rfl (Nat.le_of_ble_eq_true rfl) (Nat.zero_le _) (Nat.zero_le _) (fun r h2 hp => ?_)
    obtain ⟨rfl, rfl⟩ := hp
    refine pf_X11_253 rfl 127 dX11_planned_124 rfl (hK.flt hfn) (Nat.le_of_ble_eq_true rfl) ?_
    refine ks_7_8 hfn hK hF (fun h hK hF => ?_)
    refine J.aload 129 dX11_planned_127 rfl rfl ?_
    refine J.iload 131 dX11_planned_129 rfl rfl ?_
    refine J.iconst 2 132 dX11_planned_131 rfl (by decide) ?_
    refine J.aload 134 dX11_planned_132 rfl rfl ?_
    refine gf_X11_160 rfl 137 dX11_planned_134 rfl (hK.mach im5) (v := .ref ((adU ad 7 (L 4).length q) 1 (8 + m.toNatClampNeg))) rfl ?_
    have kwt := c_weightOf (d := d + 4) (r := 8 + m.toNatClampNeg) hK (by omega) (ek8 _) (by rw [lset_n (by omega)]; have := hlen _ im.1; omega)
    rw [lset_n (by omega)] at kwt
    refine cs_X11_195 rfl 140 kwt dX11_planned_137 rfl rfl rfl (Nat.le_of_ble_eq_true rfl) (Nat.zero_le _) (Nat.zero_le _) (fun r h2 hp => ?_)
    obtain ⟨rfl, rfl⟩ := hp
    refine J.bipush 20 142 dX11_planned_140 rfl (by decide) ?_
    refine J.idiv 143 dX11_planned_142 rfl (by decide) ?_
    refine J.iadd 144 dX11_planned_143 rfl ?_
    refine J.imul 145 dX11_planned_144 rfl ?_
    refine J.iload 147 dX11_planned_145 rfl rfl ?_
    refine J.iconst 2 148 dX11_planned_147 rfl (by decide) ?_
    refine J.aload_n 149 dX11_planned_148 rfl rfl ?_
    refine gf_X11_63 rfl 152 dX11_planned_149 rfl (hK.hut) (v := .ref ((adU ad 7 (L 4).length q) 1 5)) rfl ?_
    have kwt := c_weightOf (d := d + 4) (r := 5) hK (by omega) rfl (by rw [lset_s]; have := rid_len S p (S.1 0 + a_way S L m p) (a_str S m.toNatClampNeg (S.2 1 p.toNatClampNeg) (S.2 5 (c_hour (S.1 0 + a_way S L m p)).toNatClampNeg)) (L 3).length; exact Nat.le_trans this (by omega))
    rw [lset_s] at kwt
    refine cs_X11_195 rfl 155 kwt dX11_planned_152 rfl rfl rfl (Nat.le_of_ble_eq_true rfl) (Nat.zero_le _) (Nat.zero_le _) (fun r h2 hp => ?_)
    obtain ⟨rfl, rfl⟩ := hp
    refine J.bipush 20 157 dX11_planned_155 rfl (by decide) ?_
    refine J.idiv 158 dX11_planned_157 rfl (by decide) ?_
    refine J.iadd 159 dX11_planned_158 rfl ?_
    refine J.imul 160 dX11_planned_159 rfl ?_
    refine J.iadd 161 dX11_planned_160 rfl ?_
    refine pf_X11_247 rfl 164 dX11_planned_161 rfl (hK.flt hfn) (Nat.le_of_ble_eq_true rfl) ?_
    refine ks_7_6 hfn hK hF (fun h hK hF => ?_)
    refine J.aload 166 dX11_planned_164 rfl rfl ?_
    exact J.aret dX11_planned_166 rfl (Or.inl ⟨_, rfl⟩) (Or.inr ⟨_, rfl⟩) (by rw [← hpost]; exact ⟨q, by rw [eqq], eqq.symm, hK, hF⟩)
  refine J.if_eq 45 35 dX11_planned_32 (by decide) rfl (fun c1 => ?_) (fun c1 => ?_)
  · skip
    refine J.aload 47 dX11_planned_45 rfl rfl ?_
    refine gf_X11_332 rfl 50 dX11_planned_47 rfl (hK.place ip.1) (v := .int (S.2 2 p.toNatClampNeg)) rfl ?_
    exact K1 _ (by first | (simp only [if_pos c1]; done) | (simp only [if_pos c1]; rfl) | (simp [c1, ib_0.mp c1]; done) | contradiction) _ hK hF
  · skip
    refine J.iconst 2 36 dX11_planned_35 rfl (by decide) ?_
    refine J.aload 38 dX11_planned_36 rfl rfl ?_
    refine gf_X11_332 rfl 41 dX11_planned_38 rfl (hK.place ip.1) (v := .int (S.2 2 p.toNatClampNeg)) rfl ?_
    refine J.imul 42 dX11_planned_41 rfl ?_
    refine J.goto 50 dX11_planned_42 (by decide) ?_
    exact K1 _ (by first | (simp only [if_neg c1]; done) | (simp only [if_neg c1]; rfl) | (simp [c1, ib_n.mp c1]; done) | contradiction) _ hK hF
