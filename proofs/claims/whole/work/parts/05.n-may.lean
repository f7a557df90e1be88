def a_heavy (S : MS) (L : Nat → List Nat) (m f : Nat) : Prop := a_str S m 0 (S.2 5 (c_hour (S.1 0)).toNatClampNeg) < lsum (S.2 18) (L (8 + m)) ∨ a_str S m (S.2 1 (S.2 38 f).toNatClampNeg) (S.2 5 (c_hour (S.2 40 f)).toNatClampNeg) < lsum (S.2 18) (L (8 + m))
theorem c_heavy {G : Nat → Nat} {O : Nat → Prop} {ad : Nat → Nat → Nat} {S X : MS} {L : Nat → List Nat} {wn : Nat → Option Nat} {sl : Nat → Nat} {fl : Nat} {h : AH} {d : Nat} {m f : Nat} (hK : KR G O ad S X L wn sl fl h) (h0r : L 0 = List.range (L 0).length) (hb0 : (L 0).length ≤ 12) (hm : m < (L 1).length) (hlen : (L (8 + m)).length ≤ 1000) (hf : f < fl) (ip : (S.2 38 f).toNatClampNeg < (L 0).length ∧ nI (S.2 38 f).toNatClampNeg = S.2 38 f) (hh : vp_in (c_hour (S.1 0)) 12) (hh2 : vp_in (c_hour (S.2 40 f)) 12) : Ct Y_X11_isTooHeavy (d + 4) G 0 0 [.ref (ad 0 0), .ref (ad 4 m), .ref (ad 7 f)] h (fun r h2 => r = some (.int (ib (a_str S m 0 (S.2 5 (c_hour (S.1 0)).toNatClampNeg) < lsum (S.2 18) (L (8 + m)) ∨ a_str S m (S.2 1 (S.2 38 f).toNatClampNeg) (S.2 5 (c_hour (S.2 40 f)).toNatClampNeg) < lsum (S.2 18) (L (8 + m))))) ∧ h2 = h) := by
  refine Ct.ofn 2 rfl (Nat.le_of_ble_eq_true rfl) (by simp [Value.category]) ?_
  generalize hpost : (fun (r : Option Value) (h2 : AH) => r = some (.int (ib (a_str S m 0 (S.2 5 (c_hour (S.1 0)).toNatClampNeg) < lsum (S.2 18) (L (8 + m)) ∨ a_str S m (S.2 1 (S.2 38 f).toNatClampNeg) (S.2 5 (c_hour (S.2 40 f)).toNatClampNeg) < lsum (S.2 18) (L (8 + m))))) ∧ h2 = h) = post
  show J Y_X11_isTooHeavy (d + 4) G 0 0 0 [some (.ref (ad 0 0)), some (.ref (ad 4 m)), some (.ref (ad 7 f)), none, none] [] h post
  refine J.aload_n 1 dX11_isTooHeavy_0 rfl rfl ?_
  refine gf_X11_160 rfl 4 dX11_isTooHeavy_1 rfl (hK.mach hm) (v := .ref (ad 1 (8 + m))) rfl ?_
  refine cs_X11_195 rfl 7 (c_weightOf (r := 8 + m) hK (by omega) (ek8 _) hlen) dX11_isTooHeavy_4 rfl rfl rfl (Nat.le_of_ble_eq_true rfl) (Nat.zero_le _) (Nat.zero_le _) (fun r h2 hp => ?_)
  obtain ⟨rfl, rfl⟩ := hp
  refine J.ist_3 8 dX11_isTooHeavy_7 rfl (by decide) ?_
  refine J.aload_n 9 dX11_isTooHeavy_8 rfl rfl ?_
  refine gf_X11_10 rfl 12 dX11_isTooHeavy_9 rfl (hK.hut) (v := .ref (ad 1 0)) rfl ?_
  refine J.aload_n 13 dX11_isTooHeavy_12 rfl rfl ?_
  refine gf_X11_236 rfl 16 dX11_isTooHeavy_13 rfl (hK.flt hf) (v := .int (S.2 38 f)) rfl ?_
  have kg := hK.get (d := d + 1) (r := 0) (i := (S.2 38 f).toNatClampNeg) (by omega) (rng_get h0r ip.1)
  rw [ip.2] at kg
  refine cv_X11_132 rfl 19 kg dX11_isTooHeavy_16 rfl (hK.listOb (r := 0) (by omega)).choose_spec rfl rfl (Nat.le_of_ble_eq_true rfl) (Nat.zero_le _) (Nat.zero_le _) (fun r h2 hp => ?_)
  obtain ⟨rfl, rfl⟩ := hp
  refine cc_X11_66 rfl 22 dX11_isTooHeavy_19 rfl (hK.place ip.1) ?_
  refine gf_X11_255 rfl 25 dX11_isTooHeavy_22 rfl (hK.place ip.1) (v := .int (S.2 1 ((S.2 38 f).toNatClampNeg))) rfl ?_
  refine J.ist_4 27 dX11_isTooHeavy_25 rfl (by decide) ?_
  refine J.iload_n 28 dX11_isTooHeavy_27 rfl rfl ?_
  refine J.aload_n 29 dX11_isTooHeavy_28 rfl rfl ?_
  refine J.iconst 0 30 dX11_isTooHeavy_29 rfl (by decide) ?_
  refine J.aload_n 31 dX11_isTooHeavy_30 rfl rfl ?_
  refine gf_X11_31 rfl 34 dX11_isTooHeavy_31 rfl (hK.hut) (v := .ref (ad 10 0)) rfl ?_
  refine J.aload_n 35 dX11_isTooHeavy_34 rfl rfl ?_
  refine gf_X11_150 rfl 38 dX11_isTooHeavy_35 rfl (hK.hut) (v := .int (S.1 0)) rfl ?_
  refine cv_X11_199 rfl 41 (c_warmthAt (t := S.1 0) hK hh) dX11_isTooHeavy_38 rfl (hK.wea) rfl rfl (Nat.le_of_ble_eq_true rfl) (Nat.zero_le _) (Nat.zero_le _) (fun r h2 hp => ?_)
  obtain ⟨rfl, rfl⟩ := hp
  refine cv_X11_203 rfl 44 (c_strength (m := m) (x := 0) (y := S.2 5 ((c_hour (S.1 0)).toNatClampNeg)) hK hm) dX11_isTooHeavy_41 rfl (hK.mach hm) rfl rfl (Nat.le_of_ble_eq_true rfl) (Nat.zero_le _) (Nat.zero_le _) (fun r h2 hp => ?_)
  obtain ⟨rfl, rfl⟩ := hp
  refine J.icmp_gt 68 47 dX11_isTooHeavy_44 (by decide) rfl (fun c1 => ?_) (fun c1 => ?_)
  · skip
    refine J.iconst 1 69 dX11_isTooHeavy_68 rfl (by decide) ?_
    refine J.goto 73 dX11_isTooHeavy_69 (by decide) ?_
    exact J.zret dX11_isTooHeavy_73 rfl (Or.inr rfl) (by rw [← hpost]; exact ⟨congrArg (fun z => some (Value.int z)) (ib_t (Or.inl c1)).symm, rfl⟩)
  · skip
    refine J.iload_n 48 dX11_isTooHeavy_47 rfl rfl ?_
    refine J.aload_n 49 dX11_isTooHeavy_48 rfl rfl ?_
    refine J.iload 51 dX11_isTooHeavy_49 rfl rfl ?_
    refine J.aload_n 52 dX11_isTooHeavy_51 rfl rfl ?_
    refine gf_X11_31 rfl 55 dX11_isTooHeavy_52 rfl (hK.hut) (v := .ref (ad 10 0)) rfl ?_
    refine J.aload_n 56 dX11_isTooHeavy_55 rfl rfl ?_
    refine gf_X11_241 rfl 59 dX11_isTooHeavy_56 rfl (hK.flt hf) (v := .int (S.2 40 f)) rfl ?_
    refine cv_X11_199 rfl 62 (c_warmthAt (t := S.2 40 f) hK hh2) dX11_isTooHeavy_59 rfl (hK.wea) rfl rfl (Nat.le_of_ble_eq_true rfl) (Nat.zero_le _) (Nat.zero_le _) (fun r h2 hp => ?_)
    obtain ⟨rfl, rfl⟩ := hp
    refine cv_X11_203 rfl 65 (c_strength (m := m) (x := S.2 1 ((S.2 38 f).toNatClampNeg)) (y := S.2 5 ((c_hour (S.2 40 f)).toNatClampNeg)) hK hm) dX11_isTooHeavy_62 rfl (hK.mach hm) rfl rfl (Nat.le_of_ble_eq_true rfl) (Nat.zero_le _) (Nat.zero_le _) (fun r h2 hp => ?_)
    obtain ⟨rfl, rfl⟩ := hp
    refine J.icmp_le 72 68 dX11_isTooHeavy_65 (by decide) rfl (fun c2 => ?_) (fun c2 => ?_)
    · skip
      refine J.iconst 0 73 dX11_isTooHeavy_72 rfl (by decide) ?_
      exact J.zret dX11_isTooHeavy_73 rfl (Or.inl rfl) (by rw [← hpost]; exact ⟨congrArg (fun z => some (Value.int z)) (ib_f (fun z => z.elim c1 (Int32.not_lt.mpr c2))).symm, rfl⟩)
    · skip
      refine J.iconst 1 69 dX11_isTooHeavy_68 rfl (by decide) ?_
      refine J.goto 73 dX11_isTooHeavy_69 (by decide) ?_
      exact J.zret dX11_isTooHeavy_73 rfl (Or.inr rfl) (by rw [← hpost]; exact ⟨congrArg (fun z => some (Value.int z)) (ib_t (Or.inr (Int32.not_le.mp c2))).symm, rfl⟩)
def a_why (S X : MS) (L : Nat → List Nat) (f : Nat) : Int32 := if S.1 0 < S.2 10 (S.2 36 f).toNatClampNeg then 1 else if S.1 0 < S.2 15 (S.2 37 f).toNatClampNeg then 2 else if ¬ (L (8 + (S.2 36 f).toNatClampNeg)) = [] ∧ ¬ S.2 17 (hd0 (L (8 + (S.2 36 f).toNatClampNeg))) = S.2 38 f then 3 else if 720 < S.2 41 f then 4 else if a_str S (S.2 36 f).toNatClampNeg 0 (S.2 5 (c_hour (S.1 0)).toNatClampNeg) < lsum (S.2 18) (L (8 + (S.2 36 f).toNatClampNeg)) ∨ a_str S (S.2 36 f).toNatClampNeg (S.2 1 (S.2 38 f).toNatClampNeg) (S.2 5 (c_hour (S.2 40 f)).toNatClampNeg) < lsum (S.2 18) (L (8 + (S.2 36 f).toNatClampNeg)) then 5 else if S.2 9 (S.2 36 f).toNatClampNeg < S.2 42 f + 10 then 6 else if S.2 12 (S.2 37 f).toNatClampNeg < S.2 14 (S.2 37 f).toNatClampNeg + S.2 41 f - S.2 39 f then 7 else if (L (8 + (S.2 36 f).toNatClampNeg)).any (fun z => decide (S.2 20 z = 2 ∧ 90 < S.2 40 f - S.2 21 z)) = true then 8 else if 0 ≤ fbN (x_ask S X L (S.2 36 f) (S.2 37 f) (S.2 38 f)) (L 6).length 0 then 10 + fbN (x_ask S X L (S.2 36 f) (S.2 37 f) (S.2 38 f)) (L 6).length 0 else 0
theorem c_why {G : Nat → Nat} {O : Nat → Prop} {ad : Nat → Nat → Nat} {S X : MS} {L : Nat → List Nat} {wn : Nat → Option Nat} {sl : Nat → Nat} {fl : Nat} {h h0 : AH} {d : Nat} {f : Nat} (hK : KR G O ad S X L wn sl fl h) (hF : KF O h0 h) (h0r : L 0 = List.range (L 0).length) (hb0 : (L 0).length ≤ 12) (h1r : L 1 = List.range (L 1).length) (hb1 : (L 1).length ≤ 4) (h2r : L 2 = List.range (L 2).length) (hb2 : (L 2).length ≤ 6) (h6r : L 6 = List.range (L 6).length) (hb6 : (L 6).length ≤ 10) (hlen : ∀ k, k < (L 1).length → (L (8 + k)).length ≤ 80) (hru : ∀ i, i < (L 6).length → ruOK X sl i) (hf : f < fl) (im : (S.2 36 f).toNatClampNeg < (L 1).length ∧ nI (S.2 36 f).toNatClampNeg = S.2 36 f) (iy : (S.2 37 f).toNatClampNeg < (L 2).length ∧ nI (S.2 37 f).toNatClampNeg = S.2 37 f) (ip : (S.2 38 f).toNatClampNeg < (L 0).length ∧ nI (S.2 38 f).toNatClampNeg = S.2 38 f) (hh : vp_in (c_hour (S.1 0)) 12) (hh2 : vp_in (c_hour (S.2 40 f)) 12) : Ct Y_X11_whyNot (d + 6) G 0 0 [.ref (ad 0 0), .ref (ad 7 f)] h (fun r h2 => r = some (.int (a_why S X L f)) ∧ ∃ X2, (∀ k, k ≠ 0 → X2.1 k = X.1 k) ∧ (∀ k, k ≠ 1 → k ≠ 2 → X2.2 k = X.2 k) ∧ KR G O ad S X2 L wn sl fl h2 ∧ KF O h0 h2) := by
  refine Ct.ofn 3 rfl (Nat.le_of_ble_eq_true rfl) (by simp [Value.category]) ?_
  generalize hpost : (fun (r : Option Value) (h2 : AH) => r = some (.int (a_why S X L f)) ∧ ∃ X2, (∀ k, k ≠ 0 → X2.1 k = X.1 k) ∧ (∀ k, k ≠ 1 → k ≠ 2 → X2.2 k = X.2 k) ∧ KR G O ad S X2 L wn sl fl h2 ∧ KF O h0 h2) = post
  show J Y_X11_whyNot (d + 6) G 0 0 0 [some (.ref (ad 0 0)), some (.ref (ad 7 f)), none, none, none] [] h post
  refine J.aload_n 1 dX11_whyNot_0 rfl rfl ?_
  refine gf_X11_16 rfl 4 dX11_whyNot_1 rfl (hK.hut) (v := .ref (ad 1 1)) rfl ?_
  refine J.aload_n 5 dX11_whyNot_4 rfl rfl ?_
  refine gf_X11_232 rfl 8 dX11_whyNot_5 rfl (hK.flt hf) (v := .int (S.2 36 f)) rfl ?_
  have kg := hK.get (d := d + 3) (r := 1) (i := (S.2 36 f).toNatClampNeg) (by omega) (rng_get h1r im.1)
  rw [im.2] at kg
  refine cv_X11_132 rfl 11 kg dX11_whyNot_8 rfl (hK.listOb (r := 1) (by omega)).choose_spec rfl rfl (Nat.le_of_ble_eq_true rfl) (Nat.zero_le _) (Nat.zero_le _) (fun r h2 hp => ?_)
  obtain ⟨rfl, rfl⟩ := hp
  refine cc_X11_83 rfl 14 dX11_whyNot_11 rfl (hK.mach im.1) ?_
  refine J.ast_2 15 dX11_whyNot_14 rfl (by decide) ?_
  refine J.aload_n 16 dX11_whyNot_15 rfl rfl ?_
  refine gf_X11_19 rfl 19 dX11_whyNot_16 rfl (hK.hut) (v := .ref (ad 1 2)) rfl ?_
  refine J.aload_n 20 dX11_whyNot_19 rfl rfl ?_
  refine gf_X11_233 rfl 23 dX11_whyNot_20 rfl (hK.flt hf) (v := .int (S.2 37 f)) rfl ?_
  have kg := hK.get (d := d + 3) (r := 2) (i := (S.2 37 f).toNatClampNeg) (by omega) (rng_get h2r iy.1)
  rw [iy.2] at kg
  refine cv_X11_132 rfl 26 kg dX11_whyNot_23 rfl (hK.listOb (r := 2) (by omega)).choose_spec rfl rfl (Nat.le_of_ble_eq_true rfl) (Nat.zero_le _) (Nat.zero_le _) (fun r h2 hp => ?_)
  obtain ⟨rfl, rfl⟩ := hp
  refine cc_X11_88 rfl 29 dX11_whyNot_26 rfl (hK.pil iy.1) ?_
  refine J.ast_3 30 dX11_whyNot_29 rfl (by decide) ?_
  refine J.aload_n 31 dX11_whyNot_30 rfl rfl ?_
  refine gf_X11_147 rfl 34 dX11_whyNot_31 rfl (hK.mach im.1) (v := .int (S.2 10 ((S.2 36 f).toNatClampNeg))) rfl ?_
  refine J.aload_n 35 dX11_whyNot_34 rfl rfl ?_
  refine gf_X11_150 rfl 38 dX11_whyNot_35 rfl (hK.hut) (v := .int (S.1 0)) rfl ?_
  refine J.icmp_le 43 41 dX11_whyNot_38 (by decide) rfl (fun c1 => ?_) (fun c1 => ?_)
  · skip
    refine J.aload_n 44 dX11_whyNot_43 rfl rfl ?_
    refine gf_X11_213 rfl 47 dX11_whyNot_44 rfl (hK.pil iy.1) (v := .int (S.2 15 ((S.2 37 f).toNatClampNeg))) rfl ?_
    refine J.aload_n 48 dX11_whyNot_47 rfl rfl ?_
    refine gf_X11_150 rfl 51 dX11_whyNot_48 rfl (hK.hut) (v := .int (S.1 0)) rfl ?_
    refine J.icmp_le 56 54 dX11_whyNot_51 (by decide) rfl (fun c2 => ?_) (fun c2 => ?_)
    · skip
      refine J.aload_n 57 dX11_whyNot_56 rfl rfl ?_
      refine J.aload_n 58 dX11_whyNot_57 rfl rfl ?_
      refine gf_X11_236 rfl 61 dX11_whyNot_58 rfl (hK.flt hf) (v := .int (S.2 38 f)) rfl ?_
      refine cv_X11_351 rfl 64 (c_other (m := (S.2 36 f).toNatClampNeg) (p := S.2 38 f) hK im.1 (by have := hlen _ im.1; omega)) dX11_whyNot_61 rfl (hK.mach im.1) rfl rfl (Nat.le_of_ble_eq_true rfl) (Nat.zero_le _) (Nat.zero_le _) (fun r h2 hp => ?_)
      obtain ⟨rfl, rfl⟩ := hp
      refine J.if_eq 69 67 dX11_whyNot_64 (by decide) rfl (fun c3 => ?_) (fun c3 => ?_)
      · skip
        refine J.aload_n 70 dX11_whyNot_69 rfl rfl ?_
        refine gf_X11_244 rfl 73 dX11_whyNot_70 rfl (hK.flt hf) (v := .int (S.2 41 f)) rfl ?_
        refine J.sipush 720 76 dX11_whyNot_73 rfl (by decide) ?_
        refine J.icmp_le 81 79 dX11_whyNot_76 (by decide) rfl (fun c4 => ?_) (fun c4 => ?_)
        · skip
          refine J.aload_n 82 dX11_whyNot_81 rfl rfl ?_
          refine J.aload_n 83 dX11_whyNot_82 rfl rfl ?_
          refine J.aload_n 84 dX11_whyNot_83 rfl rfl ?_
          refine cv_X11_354 rfl 87 (c_heavy (m := (S.2 36 f).toNatClampNeg) (f := f) hK h0r hb0 im.1 (by have := hlen _ im.1; omega) hf ip hh hh2) dX11_whyNot_84 rfl (hK.hut) rfl rfl (Nat.le_of_ble_eq_true rfl) (Nat.zero_le _) (Nat.zero_le _) (fun r h2 hp => ?_)
          obtain ⟨rfl, rfl⟩ := hp
          refine J.if_eq 92 90 dX11_whyNot_87 (by decide) rfl (fun c5 => ?_) (fun c5 => ?_)
          · skip
            refine J.aload_n 93 dX11_whyNot_92 rfl rfl ?_
            refine gf_X11_247 rfl 96 dX11_whyNot_93 rfl (hK.flt hf) (v := .int (S.2 42 f)) rfl ?_
            refine J.bipush 10 98 dX11_whyNot_96 rfl (by decide) ?_
            refine J.iadd 99 dX11_whyNot_98 rfl ?_
            refine J.aload_n 100 dX11_whyNot_99 rfl rfl ?_
            refine gf_X11_188 rfl 103 dX11_whyNot_100 rfl (hK.mach im.1) (v := .int (S.2 9 ((S.2 36 f).toNatClampNeg))) rfl ?_
            refine J.icmp_le 109 106 dX11_whyNot_103 (by decide) rfl (fun c6 => ?_) (fun c6 => ?_)
            · skip
              refine J.aload_n 110 dX11_whyNot_109 rfl rfl ?_
              refine gf_X11_210 rfl 113 dX11_whyNot_110 rfl (hK.pil iy.1) (v := .int (S.2 14 ((S.2 37 f).toNatClampNeg))) rfl ?_
              refine J.aload_n 114 dX11_whyNot_113 rfl rfl ?_
              refine gf_X11_244 rfl 117 dX11_whyNot_114 rfl (hK.flt hf) (v := .int (S.2 41 f)) rfl ?_
              refine J.iadd 118 dX11_whyNot_117 rfl ?_
              refine J.aload_n 119 dX11_whyNot_118 rfl rfl ?_
              refine gf_X11_239 rfl 122 dX11_whyNot_119 rfl (hK.flt hf) (v := .int (S.2 39 f)) rfl ?_
              refine J.isub 123 dX11_whyNot_122 rfl ?_
              refine J.aload_n 124 dX11_whyNot_123 rfl rfl ?_
              refine gf_X11_214 rfl 127 dX11_whyNot_124 rfl (hK.pil iy.1) (v := .int (S.2 12 ((S.2 37 f).toNatClampNeg))) rfl ?_
              refine J.icmp_le 133 130 dX11_whyNot_127 (by decide) rfl (fun c7 => ?_) (fun c7 => ?_)
              · skip
                refine J.aload_n 134 dX11_whyNot_133 rfl rfl ?_
                refine J.aload_n 135 dX11_whyNot_134 rfl rfl ?_
                refine gf_X11_241 rfl 138 dX11_whyNot_135 rfl (hK.flt hf) (v := .int (S.2 40 f)) rfl ?_
                refine cv_X11_358 rfl 141 (c_spoils (m := (S.2 36 f).toNatClampNeg) (t := S.2 40 f) hK im.1 (by have := hlen _ im.1; omega)) dX11_whyNot_138 rfl (hK.mach im.1) rfl rfl (Nat.le_of_ble_eq_true rfl) (Nat.zero_le _) (Nat.zero_le _) (fun r h2 hp => ?_)
                obtain ⟨rfl, rfl⟩ := hp
                refine J.if_eq 147 144 dX11_whyNot_141 (by decide) rfl (fun c8 => ?_) (fun c8 => ?_)
                · skip
                  refine J.aload_n 148 dX11_whyNot_147 rfl rfl ?_
                  refine J.aload_n 149 dX11_whyNot_148 rfl rfl ?_
                  refine gf_X11_232 rfl 152 dX11_whyNot_149 rfl (hK.flt hf) (v := .int (S.2 36 f)) rfl ?_
                  refine J.aload_n 153 dX11_whyNot_152 rfl rfl ?_
                  refine gf_X11_233 rfl 156 dX11_whyNot_153 rfl (hK.flt hf) (v := .int (S.2 37 f)) rfl ?_
                  refine J.aload_n 157 dX11_whyNot_156 rfl rfl ?_
                  refine gf_X11_236 rfl 160 dX11_whyNot_157 rfl (hK.flt hf) (v := .int (S.2 38 f)) rfl ?_
                  refine cv_X11_129 rfl 163 (c_askAbout (h0 := h0) (m := S.2 36 f) (y := S.2 37 f) (p := S.2 38 f) hK hF h0r hb0 h1r hb1 h2r hb2 hlen hh im iy ip) dX11_whyNot_160 rfl (hK.hut) rfl rfl (Nat.le_of_ble_eq_true rfl) (Nat.zero_le _) (Nat.zero_le _) (fun r h hp => ?_)
                  obtain ⟨rfl, hK, hF⟩ := hp
                  refine J.aload_n 164 dX11_whyNot_163 rfl rfl ?_
                  refine gf_X11_45 rfl 167 dX11_whyNot_164 rfl (hK.hut) (v := .ref (ad 12 0)) rfl ?_
                  refine cv_X11_361 rfl 170 (c_firstBroken (h0 := h0) (X0 := (x_ask S X L (S.2 36 f) (S.2 37 f) (S.2 38 f))) hK hF xR.refl h6r hb6 (fun i hi => ruOK_names (hru i hi) (fun k k1 _ => x_ask_r k k1))) dX11_whyNot_167 rfl (hK.book) rfl rfl (Nat.le_of_ble_eq_true rfl) (Nat.zero_le _) (Nat.zero_le _) (fun r h hp => ?_)
                  obtain ⟨rfl, X2, hx2, hK, hF⟩ := hp
                  refine J.ist_4 172 dX11_whyNot_170 rfl (by decide) ?_
                  refine J.iload 174 dX11_whyNot_172 rfl rfl ?_
                  refine J.if_ge 181 177 dX11_whyNot_174 (by decide) rfl (fun c9 => ?_) (fun c9 => ?_)
                  · skip
                    refine J.bipush 10 183 dX11_whyNot_181 rfl (by decide) ?_
                    refine J.iload 185 dX11_whyNot_183 rfl rfl ?_
                    refine J.iadd 186 dX11_whyNot_185 rfl ?_
                    exact J.iret dX11_whyNot_186 rfl (by rw [← hpost]; exact ⟨by rw [a_why, if_neg (Int32.not_lt.mpr c1), if_neg (Int32.not_lt.mpr c2), if_neg (ib_0.mp c3), if_neg (Int32.not_lt.mpr c4), if_neg (ib_0.mp c5), if_neg (Int32.not_lt.mpr c6), if_neg (Int32.not_lt.mpr c7), if_neg (ib_0.mp c8), if_pos c9], _, fun k hk => (hx2.1 k hk).trans (congrFun x_ask_i k), fun k k1 k2 => (hx2.2 k k2).trans (x_ask_r k k1), hK, hF⟩)
                  · skip
                    refine J.iconst 0 178 dX11_whyNot_177 rfl (by decide) ?_
                    refine J.goto 186 dX11_whyNot_178 (by decide) ?_
                    exact J.iret dX11_whyNot_186 rfl (by rw [← hpost]; exact ⟨by rw [a_why, if_neg (Int32.not_lt.mpr c1), if_neg (Int32.not_lt.mpr c2), if_neg (ib_0.mp c3), if_neg (Int32.not_lt.mpr c4), if_neg (ib_0.mp c5), if_neg (Int32.not_lt.mpr c6), if_neg (Int32.not_lt.mpr c7), if_neg (ib_0.mp c8), if_neg c9], _, fun k hk => (hx2.1 k hk).trans (congrFun x_ask_i k), fun k k1 k2 => (hx2.2 k k2).trans (x_ask_r k k1), hK, hF⟩)
                · skip
                  refine J.bipush 8 146 dX11_whyNot_144 rfl (by decide) ?_
                  exact J.iret dX11_whyNot_146 rfl (by rw [← hpost]; exact ⟨by rw [a_why, if_neg (Int32.not_lt.mpr c1), if_neg (Int32.not_lt.mpr c2), if_neg (ib_0.mp c3), if_neg (Int32.not_lt.mpr c4), if_neg (ib_0.mp c5), if_neg (Int32.not_lt.mpr c6), if_neg (Int32.not_lt.mpr c7), if_pos (ib_n.mp c8)], _, fun _ _ => rfl, fun _ _ _ => rfl, hK, hF⟩)
              · skip
                refine J.bipush 7 132 dX11_whyNot_130 rfl (by decide) ?_
                exact J.iret dX11_whyNot_132 rfl (by rw [← hpost]; exact ⟨by rw [a_why, if_neg (Int32.not_lt.mpr c1), if_neg (Int32.not_lt.mpr c2), if_neg (ib_0.mp c3), if_neg (Int32.not_lt.mpr c4), if_neg (ib_0.mp c5), if_neg (Int32.not_lt.mpr c6), if_pos (Int32.not_le.mp c7)], _, fun _ _ => rfl, fun _ _ _ => rfl, hK, hF⟩)
            · skip
              refine J.bipush 6 108 dX11_whyNot_106 rfl (by decide) ?_
              exact J.iret dX11_whyNot_108 rfl (by rw [← hpost]; exact ⟨by rw [a_why, if_neg (Int32.not_lt.mpr c1), if_neg (Int32.not_lt.mpr c2), if_neg (ib_0.mp c3), if_neg (Int32.not_lt.mpr c4), if_neg (ib_0.mp c5), if_pos (Int32.not_le.mp c6)], _, fun _ _ => rfl, fun _ _ _ => rfl, hK, hF⟩)
          · skip
            refine J.iconst 5 91 dX11_whyNot_90 rfl (by decide) ?_
            exact J.iret dX11_whyNot_91 rfl (by rw [← hpost]; exact ⟨by rw [a_why, if_neg (Int32.not_lt.mpr c1), if_neg (Int32.not_lt.mpr c2), if_neg (ib_0.mp c3), if_neg (Int32.not_lt.mpr c4), if_pos (ib_n.mp c5)], _, fun _ _ => rfl, fun _ _ _ => rfl, hK, hF⟩)
        · skip
          refine J.iconst 4 80 dX11_whyNot_79 rfl (by decide) ?_
          exact J.iret dX11_whyNot_80 rfl (by rw [← hpost]; exact ⟨by rw [a_why, if_neg (Int32.not_lt.mpr c1), if_neg (Int32.not_lt.mpr c2), if_neg (ib_0.mp c3), if_pos (Int32.not_le.mp c4)], _, fun _ _ => rfl, fun _ _ _ => rfl, hK, hF⟩)
      · skip
        refine J.iconst 3 68 dX11_whyNot_67 rfl (by decide) ?_
        exact J.iret dX11_whyNot_68 rfl (by rw [← hpost]; exact ⟨by rw [a_why, if_neg (Int32.not_lt.mpr c1), if_neg (Int32.not_lt.mpr c2), if_pos (ib_n.mp c3)], _, fun _ _ => rfl, fun _ _ _ => rfl, hK, hF⟩)
    · skip
      refine J.iconst 2 55 dX11_whyNot_54 rfl (by decide) ?_
      exact J.iret dX11_whyNot_55 rfl (by rw [← hpost]; exact ⟨by rw [a_why, if_neg (Int32.not_lt.mpr c1), if_pos (Int32.not_le.mp c2)], _, fun _ _ => rfl, fun _ _ _ => rfl, hK, hF⟩)
  · skip
    refine J.iconst 1 42 dX11_whyNot_41 rfl (by decide) ?_
    exact J.iret dX11_whyNot_42 rfl (by rw [← hpost]; exact ⟨by rw [a_why, if_pos (Int32.not_le.mp c1)], _, fun _ _ => rfl, fun _ _ _ => rfl, hK, hF⟩)
section APL
variable {S : MS} {L : Nat → List Nat} {m y p : Int32}
theorem a_plan_r (k : Nat) (h : k < 36 ∨ 44 < k) : (a_plan S L m y p).2 k = S.2 k := by
  simp only [a_plan, a_pl0, u2_n (show k ≠ 36 by omega), u2_n (show k ≠ 37 by omega), u2_n (show k ≠ 38 by omega), u2_n (show k ≠ 39 by omega), u2_n (show k ≠ 40 by omega), u2_n (show k ≠ 41 by omega), u2_n (show k ≠ 42 by omega), u2_n (show k ≠ 43 by omega), u2_n (show k ≠ 44 by omega)]
theorem a_plan_i : (a_plan S L m y p).1 = S.1 := rfl
theorem a_plan_n (k i : Nat) (h : i ≠ (L 4).length) : (a_plan S L m y p).2 k i = S.2 k i := by
  have key : ∀ (f : Nat → Nat → Int32) (j : Nat) (x : Int32), u2 f j (L 4).length x k i = f k i := by
    intro f j x
    by_cases e : k = j
    · rw [e, u2_s, pk_un h]
    · rw [u2_n e]
  simp only [a_plan, a_pl0, key]
theorem a_plan_36 : (a_plan S L m y p).2 36 (L 4).length = m := by
  show upd (S.2 36) (L 4).length m (L 4).length = m
  exact pk_us
theorem a_plan_37 : (a_plan S L m y p).2 37 (L 4).length = y := by
  show upd (S.2 37) (L 4).length y (L 4).length = y
  exact pk_us
theorem a_plan_38 : (a_plan S L m y p).2 38 (L 4).length = p := by
  show upd (S.2 38) (L 4).length p (L 4).length = p
  exact pk_us
theorem a_plan_39 : (a_plan S L m y p).2 39 (L 4).length = S.1 0 := by
  show upd (S.2 39) (L 4).length (S.1 0) (L 4).length = _
  exact pk_us
theorem a_plan_40 : (a_plan S L m y p).2 40 (L 4).length = S.1 0 + a_way S L m p := by
  show upd (S.2 40) (L 4).length (S.1 0 + a_way S L m p) (L 4).length = _
  exact pk_us
theorem a_plan_41 : (a_plan S L m y p).2 41 (L 4).length = S.1 0 + a_way S L m p + 2 + a_way S L m p := by
  show upd (S.2 41) (L 4).length (S.1 0 + a_way S L m p + 2 + a_way S L m p) (L 4).length = _
  exact pk_us
theorem a_plan_42 : (a_plan S L m y p).2 42 (L 4).length = a_burn S L m p := by
  show upd (upd (S.2 42) (L 4).length 0) (L 4).length (a_burn S L m p) (L 4).length = _
  exact pk_us
theorem a_plan_43 : (a_plan S L m y p).2 43 (L 4).length = nI (L (8 + m.toNatClampNeg)).length := by
  show upd (upd (S.2 43) (L 4).length 0) (L 4).length _ (L 4).length = _
  exact pk_us
theorem a_plan_44 : (a_plan S L m y p).2 44 (L 4).length = nI (a_rid S L m p).length := by
  show upd (upd (S.2 44) (L 4).length 0) (L 4).length _ (L 4).length = _
  exact pk_us
end APL
theorem cs_back {ad : Nat → Nat → Nat} {S X : MS} {L L2 : Nat → List Nat} {wn : Nat → Option Nat} {sl : Nat → Nat} {m y p : Int32} : ∀ c i e, cs ad S X L2 wn sl (L 4).length c i = some e → cs ad (a_plan S L m y p) X L2 wn sl ((L 4).length + 1) c i = some e
  | 0, i, e, h => h
  | 1, i, e, h => h
  | 2, i, e, h => h
  | 3, i, e, h => h
  | 4, i, e, h => h
  | 5, i, e, h => h
  | 6, i, e, h => h
  | 7, i, e, h => by
    obtain ⟨h1, h2⟩ := if_some h
    show (if i < (L 4).length + 1 then some (Ob 1 (fFlt (a_plan S L m y p) i)) else none) = some e
    rw [if_pos (by omega), ← h2]
    simp only [fFlt, a_plan_n _ i (show i ≠ (L 4).length by omega)]
  | 8, i, e, h => h
  | 9, i, e, h => h
  | 10, i, e, h => h
  | 11, i, e, h => h
  | 12, i, e, h => h
  | 13, i, e, h => h
  | 14, i, e, h => h
  | 15, i, e, h => h
  | 16, i, e, h => h
  | 17, i, e, h => h
  | n + 18, i, e, h => h
theorem KR.back {G : Nat → Nat} {O : Nat → Prop} {ad : Nat → Nat → Nat} {S X : MS} {L : Nat → List Nat} {l : List Nat} {wn : Nat → Option Nat} {sl : Nat → Nat} {h : AH} {m y p : Int32} (h4r : L 4 = List.range (L 4).length) (hK : KR G O ad (a_plan S L m y p) X (lset L 5 l) wn sl ((L 4).length + 1) h) : KR G O ad S X (lset L 5 l) wn sl (L 4).length h := by
  have e4 : (lset L 5 l) 4 = L 4 := lset_n (by decide)
  have hK2 := hK.shrinkF (by rw [e4]; exact h4r) (by rw [e4]; omega)
  rw [e4] at hK2
  refine hK2.shrink (fun c i e he => ?_) (fun r hr x hx => ?_)
  · have z := cs_back (L := L) (m := m) (y := y) (p := p) c i e he
    by_cases q : c = 7
    · subst q
      obtain ⟨q1, q2⟩ := if_some he
      obtain ⟨q3, q4⟩ := if_some z
      show (if i < (L 4).length then some (Ob 1 (fFlt (a_plan S L m y p) i)) else none) = some e
      rw [if_pos q1, q4]
    · revert z he
      revert e i
      revert q
      match c with
      | 0 => exact fun q i e he z => z
      | 1 => exact fun q i e he z => z
      | 2 => exact fun q i e he z => z
      | 3 => exact fun q i e he z => z
      | 4 => exact fun q i e he z => z
      | 5 => exact fun q i e he z => z
      | 6 => exact fun q i e he z => z
      | 7 => exact fun q i e he z => absurd rfl q
      | 8 => exact fun q i e he z => z
      | 9 => exact fun q i e he z => z
      | 10 => exact fun q i e he z => z
      | 11 => exact fun q i e he z => z
      | 12 => exact fun q i e he z => z
      | 13 => exact fun q i e he z => z
      | 14 => exact fun q i e he z => z
      | 15 => exact fun q i e he z => z
      | 16 => exact fun q i e he z => z
      | 17 => exact fun q i e he z => z
      | n + 18 => exact fun q i e he z => z
  · obtain ⟨ed, cp, h1, h2, h3, h4, h5, h6⟩ := id hK2
    have z := h6 r hr x hx
    have := ek_r r
    revert z
    generalize ek r = c at this
    obtain ⟨t1, t2⟩ := this
    match c, t1, t2 with
    | 3, _, _ => exact fun z => z
    | 4, _, _ => exact fun z => z
    | 5, _, _ => exact fun z => z
    | 6, _, _ => exact fun z => z
    | 8, _, _ => exact fun z => z
    | 7, _, _ =>
      intro z e
      refine z ?_
      by_cases w : x < (L 4).length
      · exact absurd e (by rw [show cs ad S X (lset L 5 l) wn sl (L 4).length 7 x = some (Ob 1 (fFlt S x)) from if_pos w]; exact fun y => by cases y)
      · exact if_neg w
def a_may (S X : MS) (L : Nat → List Nat) (m y p : Int32) : Int32 := if ((0 ≤ m ∧ m < nI (L 1).length) ∧ (0 ≤ y ∧ y < nI (L 2).length) ∧ (0 < p ∧ p < nI (L 0).length)) then a_why (a_plan S L m y p) X (lset L 5 (a_rid S L m p)) (L 4).length else -1
theorem c_may {G : Nat → Nat} {O : Nat → Prop} {ad : Nat → Nat → Nat} {S X : MS} {L : Nat → List Nat} {wn : Nat → Option Nat} {sl : Nat → Nat} {fl : Nat} {h h0 : AH} {d : Nat} {m y p : Int32} (hK : KR G O ad S X L wn sl fl h) (hF : KF O h0 h) (h0r : L 0 = List.range (L 0).length) (hb0 : (L 0).length ≤ 12) (h1r : L 1 = List.range (L 1).length) (hb1 : (L 1).length ≤ 4) (h2r : L 2 = List.range (L 2).length) (hb2 : (L 2).length ≤ 6) (h3r : L 3 = List.range (L 3).length) (hb3 : (L 3).length ≤ 80) (h4r : L 4 = List.range (L 4).length) (hb4 : (L 4).length ≤ 200) (h6r : L 6 = List.range (L 6).length) (hb6 : (L 6).length ≤ 10) (hlen : ∀ k, k < (L 1).length → (L (8 + k)).length ≤ 80) (hru : ∀ i, i < (L 6).length → ruOK X sl i) (hfl : (L 4).length ≤ fl) (hb5 : (L 5).length ≤ 80) (hh : vp_in (c_hour (S.1 0)) 12) (hh2 : ((0 ≤ m ∧ m < nI (L 1).length) ∧ (0 ≤ y ∧ y < nI (L 2).length) ∧ (0 < p ∧ p < nI (L 0).length)) → vp_in (c_hour (S.1 0 + a_way S L m p)) 12) : Ct Y_X11_may (d + 9) G ((L 3).length + 1) (170 * (L 3).length + 9) [.ref (ad 0 0), .int m, .int y, .int p] h (fun r h2 => r = some (.int (a_may S X L m y p)) ∧ ∃ ad2 X2 l, (∀ c i, c ≠ 7 → ad2 c i = ad c i) ∧ (∀ k, k ≠ 0 → X2.1 k = X.1 k) ∧ (∀ k, k ≠ 1 → k ≠ 2 → X2.2 k = X.2 k) ∧ (l.length ≤ 80) ∧ KR G O ad2 S X2 (lset L 5 l) wn sl (L 4).length h2 ∧ KF O h0 h2) := by
  refine Ct.ofn 0 rfl (Nat.le_of_ble_eq_true rfl) (by simp [Value.category]) ?_
  generalize hpost : (fun (r : Option Value) (h2 : AH) => r = some (.int (a_may S X L m y p)) ∧ ∃ ad2 X2 l, (∀ c i, c ≠ 7 → ad2 c i = ad c i) ∧ (∀ k, k ≠ 0 → X2.1 k = X.1 k) ∧ (∀ k, k ≠ 1 → k ≠ 2 → X2.2 k = X.2 k) ∧ (l.length ≤ 80) ∧ KR G O ad2 S X2 (lset L 5 l) wn sl (L 4).length h2 ∧ KF O h0 h2) = post
  show J Y_X11_may (d + 9) G ((L 3).length + 1) (170 * (L 3).length + 9) 0 [some (.ref (ad 0 0)), some (.int m), some (.int y), some (.int p)] [] h post
  refine J.aload_n 1 dX11_may_0 rfl rfl ?_
  refine J.iload_n 2 dX11_may_1 rfl rfl ?_
  refine J.iload_n 3 dX11_may_2 rfl rfl ?_
  refine J.iload_n 4 dX11_may_3 rfl rfl ?_
  refine cv_X11_125 rfl 7 (c_isFlight (m := m) (y := y) (p := p) hK (by omega) (by omega) (by omega)) dX11_may_4 rfl (hK.hut) rfl rfl (Nat.le_of_ble_eq_true rfl) (Nat.zero_le _) (Nat.zero_le _) (fun r h2 hp => ?_)
  obtain ⟨rfl, rfl⟩ := hp
  refine J.if_ne 12 10 dX11_may_7 (by decide) rfl (fun c1 => ?_) (fun c1 => ?_)
  · skip
    have hok := ib_n.mp c1
    have im := idx_of hok.1 (show (L 1).length ≤ 100000 by omega)
    have iy := idx_of hok.2.1 (show (L 2).length ≤ 100000 by omega)
    have ip := idx_of1 hok.2.2 (show (L 0).length ≤ 100000 by omega)
    have hh2 := hh2 hok
    refine J.aload_n 13 dX11_may_12 rfl rfl ?_
    refine J.aload_n 14 dX11_may_13 rfl rfl ?_
    refine J.iload_n 15 dX11_may_14 rfl rfl ?_
    refine J.iload_n 16 dX11_may_15 rfl rfl ?_
    refine J.iload_n 17 dX11_may_16 rfl rfl ?_
    refine cv_X11_173 rfl 20 (c_planned (h0 := h0) (m := m) (y := y) (p := p) hK hF h0r hb0 h1r hb1 h3r hb3 h4r hb4 hlen hfl im ip hh2) dX11_may_17 rfl (hK.hut) rfl rfl (Nat.le_of_ble_eq_true rfl) (by omega) (by omega) (fun r h hp => ?_)
    obtain ⟨q, rfl, hqq, hK, hF⟩ := hp
    show J _ _ _ _ _ _ _ [.ref q, .ref (ad 0 0)] _ _
    rw [show Value.ref q = Value.ref ((adU ad 7 (L 4).length q) 7 (L 4).length) from by rw [← hqq]]
    skip
    have kw := c_why (d := d + 2) (h0 := h0) (f := (L 4).length) hK hF (by rw [lset_n (by decide)]; exact h0r) (by rw [lset_n (by decide)]; exact hb0) (by rw [lset_n (by decide)]; exact h1r) (by rw [lset_n (by decide)]; exact hb1) (by rw [lset_n (by decide)]; exact h2r) (by rw [lset_n (by decide)]; exact hb2) (by rw [lset_n (by decide)]; exact h6r) (by rw [lset_n (by decide)]; exact hb6) (fun k hk => by rw [lset_n (by decide)] at hk; rw [lset_n (by omega)]; exact hlen k hk) (fun i hi => hru i (by rw [lset_n (by decide)] at hi; exact hi)) (Nat.lt_succ_self _) (by rw [a_plan_36, lset_n (by decide)]; exact im) (by rw [a_plan_37, lset_n (by decide)]; exact iy) (by rw [a_plan_38, lset_n (by decide)]; exact ip) hh (by rw [a_plan_40]; exact hh2)
    refine cv_X11_177 rfl 23 kw dX11_may_20 rfl (hK.hut) rfl rfl (Nat.le_of_ble_eq_true rfl) (Nat.zero_le _) (Nat.zero_le _) (fun r h hp => ?_)
    obtain ⟨rfl, X2, hx1, hx2, hK, hF⟩ := hp
    exact J.iret dX11_may_23 rfl (by rw [← hpost]; exact ⟨by rw [a_may, if_pos hok], (adU ad 7 (L 4).length q), X2, a_rid S L m p, fun c i hc => adU_n (fun z => hc z.1), hx1, hx2, Nat.le_trans (rid_len _ _ _ _ _) hb3, hK.back h4r, hF⟩)
  · skip
    refine J.iconst (-1) 11 dX11_may_10 rfl (by decide) ?_
    exact J.iret dX11_may_11 rfl (by rw [← hpost]; exact ⟨by rw [a_may, if_neg (ib_0.mp (by assumption))], ad, X, L 5, fun _ _ _ => rfl, fun _ _ => rfl, fun _ _ _ => rfl, hb5, by rw [lset_id]; exact hK.shrinkF h4r hfl, hF⟩)
