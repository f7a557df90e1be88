def r_liftOf (S : MS) (m p x : Int32) : Int32 := if S.2 7 m.toNatClampNeg - 4 * S.2 1 p.toNatClampNeg - S.2 5 x.toNatClampNeg < 0 then 0 else S.2 7 m.toNatClampNeg - 4 * S.2 1 p.toNatClampNeg - S.2 5 x.toNatClampNeg
theorem k_liftOf {S : MS} {m : Int32} {p : Int32} {x : Int32} {d : Nat} (hm : vp_in m 4) (hp : vp_in p 12) (hx : vp_in x 12) : CM Y_X12_liftOf d [.int m, .int p, .int x] S (fun r S2 => r = some (.int (r_liftOf S m p x)) ∧ S2 = S) := by
  refine CM.of 1 rfl (fun _ => Nat.le_of_ble_eq_true rfl) (by simp [Value.category]) ?_
  intro G m0 ad h0 h post hM hF fin
  show J Y_X12_liftOf d G 0 0 0 [some (.ref m0), some (.int m), some (.int p), some (.int x), none] [] h post
  refine J.aload_n 1 dX12_liftOf_0 rfl rfl ?_
  refine mg_29 hM rfl 4 dX12_liftOf_1 rfl ?_
  refine J.iload_n 5 dX12_liftOf_4 rfl rfl ?_
  refine ml_ia hM m.toNatClampNeg rfl rfl rfl rfl (by assumption) 6 dX12_liftOf_5 rfl ?_
  refine J.iconst 4 7 dX12_liftOf_6 rfl (by decide) ?_
  refine J.aload_n 8 dX12_liftOf_7 rfl rfl ?_
  refine mg_9 hM rfl 11 dX12_liftOf_8 rfl ?_
  refine J.iload_n 12 dX12_liftOf_11 rfl rfl ?_
  refine ml_ia hM p.toNatClampNeg rfl rfl rfl rfl (by assumption) 13 dX12_liftOf_12 rfl ?_
  refine J.imul 14 dX12_liftOf_13 rfl ?_
  refine J.isub 15 dX12_liftOf_14 rfl ?_
  refine J.aload_n 16 dX12_liftOf_15 rfl rfl ?_
  refine mg_23 hM rfl 19 dX12_liftOf_16 rfl ?_
  refine J.iload_n 20 dX12_liftOf_19 rfl rfl ?_
  refine ml_ia hM x.toNatClampNeg rfl rfl rfl rfl (by assumption) 21 dX12_liftOf_20 rfl ?_
  refine J.isub 22 dX12_liftOf_21 rfl ?_
  refine J.ist_4 24 dX12_liftOf_22 rfl (by decide) ?_
  refine J.iload 26 dX12_liftOf_24 rfl rfl ?_
  refine J.if_ge 33 29 dX12_liftOf_26 (by decide) rfl (fun c1 => ?_) (fun c1 => ?_)
  · skip
    refine J.iload 35 dX12_liftOf_33 rfl rfl ?_
    exact J.iret dX12_liftOf_35 rfl (fin _ _ _ ⟨by simp [r_liftOf, c1, Int32.not_lt.mpr c1], rfl⟩ hM hF)
  · skip
    refine J.iconst 0 30 dX12_liftOf_29 rfl (by decide) ?_
    refine J.goto 35 dX12_liftOf_30 (by decide) ?_
    exact J.iret dX12_liftOf_35 rfl (fin _ _ _ ⟨by simp [r_liftOf, c1, Int32.not_le.mp c1], rfl⟩ hM hF)
theorem k_isLate {S : MS} {l : Int32} {d : Nat} (hl : vp_in l 80) : CM Y_X12_isLate d [.int l] S (fun r S2 => r = some (.int (ib (S.2 23 l.toNatClampNeg = 3 ∧ S.2 22 l.toNatClampNeg < S.2 26 l.toNatClampNeg))) ∧ S2 = S) := by
  refine CM.of 0 rfl (fun _ => Nat.le_of_ble_eq_true rfl) (by simp [Value.category]) ?_
  intro G m0 ad h0 h post hM hF fin
  show J Y_X12_isLate d G 0 0 0 [some (.ref m0), some (.int l)] [] h post
  refine J.aload_n 1 dX12_isLate_0 rfl rfl ?_
  refine mg_71 hM rfl 4 dX12_isLate_1 rfl ?_
  refine J.iload_n 5 dX12_isLate_4 rfl rfl ?_
  refine ml_ia hM l.toNatClampNeg rfl rfl rfl rfl (by assumption) 6 dX12_isLate_5 rfl ?_
  refine J.iconst 3 7 dX12_isLate_6 rfl (by decide) ?_
  refine J.icmp_ne 29 10 dX12_isLate_7 (by decide) rfl (fun c1 => ?_) (fun c1 => ?_)
  · skip
    refine J.iconst 0 30 dX12_isLate_29 rfl (by decide) ?_
    exact J.zret dX12_isLate_30 rfl (Or.inl rfl) (fin _ _ _ ⟨by simp [ib, c1], rfl⟩ hM hF)
  · skip
    refine J.aload_n 11 dX12_isLate_10 rfl rfl ?_
    refine mg_80 hM rfl 14 dX12_isLate_11 rfl ?_
    refine J.iload_n 15 dX12_isLate_14 rfl rfl ?_
    refine ml_ia hM l.toNatClampNeg rfl rfl rfl rfl (by assumption) 16 dX12_isLate_15 rfl ?_
    refine J.aload_n 17 dX12_isLate_16 rfl rfl ?_
    refine mg_68 hM rfl 20 dX12_isLate_17 rfl ?_
    refine J.iload_n 21 dX12_isLate_20 rfl rfl ?_
    refine ml_ia hM l.toNatClampNeg rfl rfl rfl rfl (by assumption) 22 dX12_isLate_21 rfl ?_
    refine J.icmp_le 29 25 dX12_isLate_22 (by decide) rfl (fun c2 => ?_) (fun c2 => ?_)
    · skip
      refine J.iconst 0 30 dX12_isLate_29 rfl (by decide) ?_
      exact J.zret dX12_isLate_30 rfl (Or.inl rfl) (fin _ _ _ ⟨by simp [ib, c1, c2, Int32.not_lt.mpr c2], rfl⟩ hM hF)
    · skip
      refine J.iconst 1 26 dX12_isLate_25 rfl (by decide) ?_
      refine J.goto 30 dX12_isLate_26 (by decide) ?_
      exact J.zret dX12_isLate_30 rfl (Or.inr rfl) (fin _ _ _ ⟨by simp [ib, c1, c2, Int32.not_le.mp c2], rfl⟩ hM hF)
theorem k_isAlone {S : MS} {l : Int32} {d : Nat} (hl : vp_in l 80) : CM Y_X12_isAlone d [.int l] S (fun r S2 => r = some (.int (ib (S.2 20 l.toNatClampNeg = 1 ∨ S.2 20 l.toNatClampNeg = 3))) ∧ S2 = S) := by
  refine CM.of 0 rfl (fun _ => Nat.le_of_ble_eq_true rfl) (by simp [Value.category]) ?_
  intro G m0 ad h0 h post hM hF fin
  show J Y_X12_isAlone d G 0 0 0 [some (.ref m0), some (.int l)] [] h post
  refine J.aload_n 1 dX12_isAlone_0 rfl rfl ?_
  refine mg_62 hM rfl 4 dX12_isAlone_1 rfl ?_
  refine J.iload_n 5 dX12_isAlone_4 rfl rfl ?_
  refine ml_ia hM l.toNatClampNeg rfl rfl rfl rfl (by assumption) 6 dX12_isAlone_5 rfl ?_
  refine J.iconst 1 7 dX12_isAlone_6 rfl (by decide) ?_
  refine J.icmp_eq 20 10 dX12_isAlone_7 (by decide) rfl (fun c1 => ?_) (fun c1 => ?_)
  · skip
    refine J.iconst 1 21 dX12_isAlone_20 rfl (by decide) ?_
    refine J.goto 25 dX12_isAlone_21 (by decide) ?_
    exact J.zret dX12_isAlone_25 rfl (Or.inr rfl) (fin _ _ _ ⟨by simp [ib, c1], rfl⟩ hM hF)
  · skip
    refine J.aload_n 11 dX12_isAlone_10 rfl rfl ?_
    refine mg_62 hM rfl 14 dX12_isAlone_11 rfl ?_
    refine J.iload_n 15 dX12_isAlone_14 rfl rfl ?_
    refine ml_ia hM l.toNatClampNeg rfl rfl rfl rfl (by assumption) 16 dX12_isAlone_15 rfl ?_
    refine J.iconst 3 17 dX12_isAlone_16 rfl (by decide) ?_
    refine J.icmp_ne 24 20 dX12_isAlone_17 (by decide) rfl (fun c2 => ?_) (fun c2 => ?_)
    · skip
      refine J.iconst 0 25 dX12_isAlone_24 rfl (by decide) ?_
      exact J.zret dX12_isAlone_25 rfl (Or.inl rfl) (fin _ _ _ ⟨by simp [ib, c1, c2], rfl⟩ hM hF)
    · skip
      refine J.iconst 1 21 dX12_isAlone_20 rfl (by decide) ?_
      refine J.goto 25 dX12_isAlone_21 (by decide) ?_
      exact J.zret dX12_isAlone_25 rfl (Or.inr rfl) (fin _ _ _ ⟨by simp [ib, c1, c2], rfl⟩ hM hF)
def s_lay (S : MS) (v : Int32) : MS := (vf_upd S.1 35 (S.1 35 + 1), u2 S.2 34 (S.1 35).toNatClampNeg v)
theorem k_lay {S : MS} {v : Int32} {d : Nat} (hp : vp_in (S.1 35) 20) : CM Y_X12_lay d [.int v] S (fun r S2 => r = none ∧ S2 = s_lay S v) := by
  refine CM.of 0 rfl (fun _ => Nat.le_of_ble_eq_true rfl) (by simp [Value.category]) ?_
  intro G m0 ad h0 h post hM hF fin
  show J Y_X12_lay d G 0 0 0 [some (.ref m0), some (.int v)] [] h post
  refine J.aload_n 1 dX12_lay_0 rfl rfl ?_
  refine mg_95 hM rfl 4 dX12_lay_1 rfl ?_
  refine J.aload_n 5 dX12_lay_4 rfl rfl ?_
  refine mg_189 hM (x := S.1 35) rfl rfl 8 dX12_lay_5 rfl ?_
  refine J.iload_n 9 dX12_lay_8 rfl rfl ?_
  refine ml_is hM hF ((S.1 35).toNatClampNeg) rfl rfl rfl (by assumption) 10 dX12_lay_9 rfl (fun h hM hF => ?_)
  refine J.aload_n 11 dX12_lay_10 rfl rfl ?_
  refine J.dup 12 dX12_lay_11 rfl rfl ?_
  refine mg_189 hM (x := S.1 35) rfl rfl 15 dX12_lay_12 rfl ?_
  refine J.iconst 1 16 dX12_lay_15 rfl (by decide) ?_
  refine J.iadd 17 dX12_lay_16 rfl ?_
  refine mp_189 hM hF rfl 20 dX12_lay_17 rfl (fun h hM hF => ?_)
  exact J.vret dX12_lay_20 rfl (fin _ _ _ ⟨rfl, rfl⟩ hM hF)
def s_take (S : MS) : MS := (vf_upd S.1 35 (S.1 35 - 1), S.2)
def r_take (S : MS) : Int32 := S.2 34 (S.1 35 - 1).toNatClampNeg
theorem k_take {S : MS} {d : Nat} (hp : vp_in (S.1 35 - 1) 20) : CM Y_X12_take d [] S (fun r S2 => r = some (.int (r_take S)) ∧ S2 = s_take S) := by
  refine CM.of 0 rfl (fun _ => Nat.le_of_ble_eq_true rfl) (by simp [Value.category]) ?_
  intro G m0 ad h0 h post hM hF fin
  show J Y_X12_take d G 0 0 0 [some (.ref m0)] [] h post
  refine J.aload_n 1 dX12_take_0 rfl rfl ?_
  refine J.dup 2 dX12_take_1 rfl rfl ?_
  refine mg_189 hM (x := S.1 35) rfl rfl 5 dX12_take_2 rfl ?_
  refine J.iconst 1 6 dX12_take_5 rfl (by decide) ?_
  refine J.isub 7 dX12_take_6 rfl ?_
  refine mp_189 hM hF rfl 10 dX12_take_7 rfl (fun h hM hF => ?_)
  refine J.aload_n 11 dX12_take_10 rfl rfl ?_
  refine mg_95 hM rfl 14 dX12_take_11 rfl ?_
  refine J.aload_n 15 dX12_take_14 rfl rfl ?_
  refine mg_189 hM (x := (S.1 35) - 1) rfl rfl 18 dX12_take_15 rfl ?_
  refine ml_ia hM (((S.1 35) - 1).toNatClampNeg) rfl rfl rfl rfl (by assumption) 19 dX12_take_18 rfl ?_
  exact J.iret dX12_take_19 rfl (fin _ _ _ ⟨rfl, rfl⟩ hM hF)
def r_hour (S : MS) (x w t u : Int32) : Int32 := if ¬ (0 ≤ x ∧ x ≤ 11) ∨ ¬ (-1 ≤ w ∧ w ≤ 9) ∨ ¬ (-1 ≤ t ∧ t ≤ 9) ∨ ¬ (-1 ≤ u ∧ u ≤ 9) then -1 else 1
def s_hour (S : MS) (x w t u : Int32) : MS := if ¬ (0 ≤ x ∧ x ≤ 11) ∨ ¬ (-1 ≤ w ∧ w ≤ 9) ∨ ¬ (-1 ≤ t ∧ t ≤ 9) ∨ ¬ (-1 ≤ u ∧ u ≤ 9) then S else (S.1, u2 (u2 (u2 S.2 4 x.toNatClampNeg (if 0 ≤ w then w else 9)) 5 x.toNatClampNeg (if 0 ≤ t then t else 9)) 6 x.toNatClampNeg (if 0 ≤ u then u else 0))
theorem k_hour {S : MS} {x : Int32} {w : Int32} {t : Int32} {u : Int32} {d : Nat} (hP : (0 ≤ x ∧ x ≤ 11) → vp_in x 12) : CM Y_X12_hour (d + 1) [.int x, .int w, .int t, .int u] S (fun r S2 => r = some (.int (r_hour S x w t u)) ∧ S2 = s_hour S x w t u) := by
  refine CM.of 0 rfl (fun _ => Nat.le_of_ble_eq_true rfl) (by simp [Value.category]) ?_
  intro G m0 ad h0 h post hM hF fin
  show J Y_X12_hour (d + 1) G 0 0 0 [some (.ref m0), some (.int x), some (.int w), some (.int t), some (.int u)] [] h post
  refine J.iload_n 1 dX12_hour_0 rfl rfl ?_
  refine J.iconst 0 2 dX12_hour_1 rfl (by decide) ?_
  refine J.bipush 11 4 dX12_hour_2 rfl (by decide) ?_
  refine mc_153 (k_within (v := x) (a := 0) (b := 11)) rfl 7 dX12_hour_4 rfl rfl rfl (by decide) ?_
  refine J.if_eq 41 10 dX12_hour_7 (by decide) rfl (fun c1 => ?_) (fun c1 => ?_)
  · skip
    refine J.iconst (-1) 42 dX12_hour_41 rfl (by decide) ?_
    exact J.iret dX12_hour_42 rfl (fin _ _ _ ⟨by simp [r_hour, s_hour, ib_0.mp c1], by simp [r_hour, s_hour, ib_0.mp c1]⟩ hM hF)
  · skip
    refine J.iload_n 11 dX12_hour_10 rfl rfl ?_
    refine J.iconst (-1) 12 dX12_hour_11 rfl (by decide) ?_
    refine J.bipush 9 14 dX12_hour_12 rfl (by decide) ?_
    refine mc_153 (k_within (v := w) (a := (-1)) (b := 9)) rfl 17 dX12_hour_14 rfl rfl rfl (by decide) ?_
    refine J.if_eq 41 20 dX12_hour_17 (by decide) rfl (fun c2 => ?_) (fun c2 => ?_)
    · skip
      refine J.iconst (-1) 42 dX12_hour_41 rfl (by decide) ?_
      exact J.iret dX12_hour_42 rfl (fin _ _ _ ⟨by simp [r_hour, s_hour, ib_n.mp c1, ib_0.mp c2], by simp [r_hour, s_hour, ib_n.mp c1, ib_0.mp c2]⟩ hM hF)
    · skip
      refine J.iload_n 21 dX12_hour_20 rfl rfl ?_
      refine J.iconst (-1) 22 dX12_hour_21 rfl (by decide) ?_
      refine J.bipush 9 24 dX12_hour_22 rfl (by decide) ?_
      refine mc_153 (k_within (v := t) (a := (-1)) (b := 9)) rfl 27 dX12_hour_24 rfl rfl rfl (by decide) ?_
      refine J.if_eq 41 30 dX12_hour_27 (by decide) rfl (fun c3 => ?_) (fun c3 => ?_)
      · skip
        refine J.iconst (-1) 42 dX12_hour_41 rfl (by decide) ?_
        exact J.iret dX12_hour_42 rfl (fin _ _ _ ⟨by simp [r_hour, s_hour, ib_n.mp c1, ib_n.mp c2, ib_0.mp c3], by simp [r_hour, s_hour, ib_n.mp c1, ib_n.mp c2, ib_0.mp c3]⟩ hM hF)
      · skip
        refine J.iload 32 dX12_hour_30 rfl rfl ?_
        refine J.iconst (-1) 33 dX12_hour_32 rfl (by decide) ?_
        refine J.bipush 9 35 dX12_hour_33 rfl (by decide) ?_
        refine mc_153 (k_within (v := u) (a := (-1)) (b := 9)) rfl 38 dX12_hour_35 rfl rfl rfl (by decide) ?_
        refine J.if_ne 43 41 dX12_hour_38 (by decide) rfl (fun c4 => ?_) (fun c4 => ?_)
        · skip
          refine J.aload_n 44 dX12_hour_43 rfl rfl ?_
          refine mg_20 hM rfl 47 dX12_hour_44 rfl ?_
          refine J.iload_n 48 dX12_hour_47 rfl rfl ?_
          refine J.iload_n 49 dX12_hour_48 rfl rfl ?_
          have K1 : ∀ (v1_0 : Int32), v1_0 = (if 0 ≤ w then w else 9) → ∀ h, MR m0 ad S h → MF m0 ad h0 h → J Y_X12_hour (d + 1) G 0 0 58 [some (.ref m0), some (.int x), some (.int w), some (.int t), some (.int u)] [.int v1_0, .int x, .ref (ad 4)] h post := by
            intro v1_0 ev1_0 h hM hF
            refine ml_is hM hF x.toNatClampNeg rfl rfl rfl (by first | assumption | exact hP (ib_n.mp (by assumption))) 59 dX12_hour_58 rfl (fun h hM hF => ?_)
            refine J.aload_n 60 dX12_hour_59 rfl rfl ?_
            refine mg_23 hM rfl 63 dX12_hour_60 rfl ?_
            refine J.iload_n 64 dX12_hour_63 rfl rfl ?_
            refine J.iload_n 65 dX12_hour_64 rfl rfl ?_
            have K2 : ∀ (v2_0 : Int32), v2_0 = (if 0 ≤ t then t else 9) → ∀ h, MR m0 ad (S.1, u2 S.2 4 x.toNatClampNeg v1_0) h → MF m0 ad h0 h → J Y_X12_hour (d + 1) G 0 0 74 [some (.ref m0), some (.int x), some (.int w), some (.int t), some (.int u)] [.int v2_0, .int x, .ref (ad 5)] h post := by
              intro v2_0 ev2_0 h hM hF
              refine ml_is hM hF x.toNatClampNeg rfl rfl rfl (by first | assumption | exact hP (ib_n.mp (by assumption))) 75 dX12_hour_74 rfl (fun h hM hF => ?_)
              refine J.aload_n 76 dX12_hour_75 rfl rfl ?_
              refine mg_26 hM rfl 79 dX12_hour_76 rfl ?_
              refine J.iload_n 80 dX12_hour_79 rfl rfl ?_
              refine J.iload 82 dX12_hour_80 rfl rfl ?_
              have K3 : ∀ (v3_0 : Int32), v3_0 = (if 0 ≤ u then u else 0) → ∀ h, MR m0 ad (S.1, u2 (u2 S.2 4 x.toNatClampNeg v1_0) 5 x.toNatClampNeg v2_0) h → MF m0 ad h0 h → J Y_X12_hour (d + 1) G 0 0 91 [some (.ref m0), some (.int x), some (.int w), some (.int t), some (.int u)] [.int v3_0, .int x, .ref (ad 6)] h post := by
                intro v3_0 ev3_0 h hM hF
                refine ml_is hM hF x.toNatClampNeg rfl rfl rfl (by first | assumption | exact hP (ib_n.mp (by assumption))) 92 dX12_hour_91 rfl (fun h hM hF => ?_)
                refine J.iconst 1 93 dX12_hour_92 rfl (by decide) ?_
                exact J.iret dX12_hour_93 rfl (fin _ _ _ ⟨by simp [r_hour, s_hour, ib_n.mp c1, ib_n.mp c2, ib_n.mp c3, ib_n.mp c4, ev1_0, ev2_0, ev3_0], by simp [r_hour, s_hour, ib_n.mp c1, ib_n.mp c2, ib_n.mp c3, ib_n.mp c4, ev1_0, ev2_0, ev3_0]⟩ hM hF)
              refine J.if_ge 89 85 dX12_hour_82 (by decide) rfl (fun c5 => ?_) (fun c5 => ?_)
              · skip
                refine J.iload 91 dX12_hour_89 rfl rfl ?_
                exact K3 _ (by simp [ib_n.mp c1, ib_n.mp c2, ib_n.mp c3, ib_n.mp c4, ev1_0, ev2_0, c5, Int32.not_lt.mpr c5]) _ hM hF
              · skip
                refine J.iconst 0 86 dX12_hour_85 rfl (by decide) ?_
                refine J.goto 91 dX12_hour_86 (by decide) ?_
                exact K3 _ (by simp [ib_n.mp c1, ib_n.mp c2, ib_n.mp c3, ib_n.mp c4, ev1_0, ev2_0, c5, Int32.not_le.mp c5]) _ hM hF
            refine J.if_ge 73 68 dX12_hour_65 (by decide) rfl (fun c6 => ?_) (fun c6 => ?_)
            · skip
              refine J.iload_n 74 dX12_hour_73 rfl rfl ?_
              exact K2 _ (by simp [ib_n.mp c1, ib_n.mp c2, ib_n.mp c3, ib_n.mp c4, ev1_0, c6, Int32.not_lt.mpr c6]) _ hM hF
            · skip
              refine J.bipush 9 70 dX12_hour_68 rfl (by decide) ?_
              refine J.goto 74 dX12_hour_70 (by decide) ?_
              exact K2 _ (by simp [ib_n.mp c1, ib_n.mp c2, ib_n.mp c3, ib_n.mp c4, ev1_0, c6, Int32.not_le.mp c6]) _ hM hF
          refine J.if_ge 57 52 dX12_hour_49 (by decide) rfl (fun c7 => ?_) (fun c7 => ?_)
          · skip
            refine J.iload_n 58 dX12_hour_57 rfl rfl ?_
            exact K1 _ (by simp [ib_n.mp c1, ib_n.mp c2, ib_n.mp c3, ib_n.mp c4, c7, Int32.not_lt.mpr c7]) _ hM hF
          · skip
            refine J.bipush 9 54 dX12_hour_52 rfl (by decide) ?_
            refine J.goto 58 dX12_hour_54 (by decide) ?_
            exact K1 _ (by simp [ib_n.mp c1, ib_n.mp c2, ib_n.mp c3, ib_n.mp c4, c7, Int32.not_le.mp c7]) _ hM hF
        · skip
          refine J.iconst (-1) 42 dX12_hour_41 rfl (by decide) ?_
          exact J.iret dX12_hour_42 rfl (fin _ _ _ ⟨by simp [r_hour, s_hour, ib_n.mp c1, ib_n.mp c2, ib_n.mp c3, ib_0.mp c4], by simp [r_hour, s_hour, ib_n.mp c1, ib_n.mp c2, ib_n.mp c3, ib_0.mp c4]⟩ hM hF)
def r_ordered (S : MS) (x : Int32) : Int32 := if 0 ≤ x ∧ x < S.1 55 then S.2 53 x.toNatClampNeg else -1
theorem k_ordered {S : MS} {x : Int32} {d : Nat} (hP : 0 ≤ x → x < S.1 55 → vp_in x 5) : CM Y_X12_ordered d [.int x] S (fun r S2 => r = some (.int (r_ordered S x)) ∧ S2 = S) := by
  refine CM.of 0 rfl (fun _ => Nat.le_of_ble_eq_true rfl) (by simp [Value.category]) ?_
  intro G m0 ad h0 h post hM hF fin
  show J Y_X12_ordered d G 0 0 0 [some (.ref m0), some (.int x)] [] h post
  refine J.iload_n 1 dX12_ordered_0 rfl rfl ?_
  refine J.if_lt 21 4 dX12_ordered_1 (by decide) rfl (fun c1 => ?_) (fun c1 => ?_)
  · skip
    refine J.iconst (-1) 22 dX12_ordered_21 rfl (by decide) ?_
    exact J.iret dX12_ordered_22 rfl (fin _ _ _ ⟨by simp [r_ordered, c1, Int32.not_le.mpr c1], by simp [r_ordered, c1, Int32.not_le.mpr c1]⟩ hM hF)
  · skip
    refine J.iload_n 5 dX12_ordered_4 rfl rfl ?_
    refine J.aload_n 6 dX12_ordered_5 rfl rfl ?_
    refine mg_141 hM (x := S.1 55) rfl rfl 9 dX12_ordered_6 rfl ?_
    refine J.icmp_ge 21 12 dX12_ordered_9 (by decide) rfl (fun c2 => ?_) (fun c2 => ?_)
    · skip
      refine J.iconst (-1) 22 dX12_ordered_21 rfl (by decide) ?_
      exact J.iret dX12_ordered_22 rfl (fin _ _ _ ⟨by simp [r_ordered, c1, Int32.not_lt.mp c1, c2, Int32.not_lt.mpr c2], by simp [r_ordered, c1, Int32.not_lt.mp c1, c2, Int32.not_lt.mpr c2]⟩ hM hF)
    · skip
      refine J.aload_n 13 dX12_ordered_12 rfl rfl ?_
      refine mg_135 hM rfl 16 dX12_ordered_13 rfl ?_
      refine J.iload_n 17 dX12_ordered_16 rfl rfl ?_
      refine ml_ia hM x.toNatClampNeg rfl rfl rfl rfl (hP (by first | assumption | exact Int32.not_lt.mp (by assumption)) (by first | assumption | exact Int32.not_le.mp (by assumption))) 18 dX12_ordered_17 rfl ?_
      refine J.goto 22 dX12_ordered_18 (by decide) ?_
      exact J.iret dX12_ordered_22 rfl (fin _ _ _ ⟨by simp [r_ordered, c1, Int32.not_lt.mp c1, c2, Int32.not_le.mp c2], by simp [r_ordered, c1, Int32.not_lt.mp c1, c2, Int32.not_le.mp c2]⟩ hM hF)
def r_pilotOf (S : MS) (p t : Int32) : Int32 := if ¬ (0 ≤ p ∧ p < S.1 16) then -9 else if t = 0 then S.2 14 p.toNatClampNeg else if t = 1 then S.2 15 p.toNatClampNeg else if t = 2 then S.2 12 p.toNatClampNeg - S.2 14 p.toNatClampNeg else -9
theorem k_pilotOf {S : MS} {p : Int32} {t : Int32} {d : Nat} (hP : (0 ≤ p ∧ p < S.1 16) → vp_in p 6) : CM Y_X12_pilotOf (d + 1) [.int p, .int t] S (fun r S2 => r = some (.int (r_pilotOf S p t)) ∧ S2 = S) := by
  refine CM.of 0 rfl (fun _ => Nat.le_of_ble_eq_true rfl) (by simp [Value.category]) ?_
  intro G m0 ad h0 h post hM hF fin
  show J Y_X12_pilotOf (d + 1) G 0 0 0 [some (.ref m0), some (.int p), some (.int t)] [] h post
  refine J.aload_n 1 dX12_pilotOf_0 rfl rfl ?_
  refine J.iload_n 2 dX12_pilotOf_1 rfl rfl ?_
  refine mc_218 hM hF (k_isPilot (S := S) (p := p)) rfl 5 dX12_pilotOf_2 rfl rfl rfl (by decide) (fun r S2 hp h hM hF => ?_)
  obtain ⟨rfl, hp⟩ := hp
  replace hp := hp.symm
  subst hp
  refine J.if_ne 11 8 dX12_pilotOf_5 (by decide) rfl (fun c1 => ?_) (fun c1 => ?_)
  · skip
    refine J.iload_n 12 dX12_pilotOf_11 rfl rfl ?_
    refine J.if_ne 24 15 dX12_pilotOf_12 (by decide) rfl (fun c2 => ?_) (fun c2 => ?_)
    · skip
      refine J.iload_n 25 dX12_pilotOf_24 rfl rfl ?_
      refine J.iconst 1 26 dX12_pilotOf_25 rfl (by decide) ?_
      refine J.icmp_ne 38 29 dX12_pilotOf_26 (by decide) rfl (fun c3 => ?_) (fun c3 => ?_)
      · skip
        refine J.iload_n 39 dX12_pilotOf_38 rfl rfl ?_
        refine J.iconst 2 40 dX12_pilotOf_39 rfl (by decide) ?_
        refine J.icmp_ne 59 43 dX12_pilotOf_40 (by decide) rfl (fun c4 => ?_) (fun c4 => ?_)
        · skip
          refine J.bipush (-9) 61 dX12_pilotOf_59 rfl (by decide) ?_
          exact J.iret dX12_pilotOf_61 rfl (fin _ _ _ ⟨by simp (decide := true) [r_pilotOf, ib_n.mp c1, c2, c3, c4], by simp (decide := true) [r_pilotOf, ib_n.mp c1, c2, c3, c4]⟩ hM hF)
        · skip
          refine J.aload_n 44 dX12_pilotOf_43 rfl rfl ?_
          refine mg_41 hM rfl 47 dX12_pilotOf_44 rfl ?_
          refine J.iload_n 48 dX12_pilotOf_47 rfl rfl ?_
          refine ml_ia hM p.toNatClampNeg rfl rfl rfl rfl (by first | assumption | exact hP (ib_n.mp (by assumption))) 49 dX12_pilotOf_48 rfl ?_
          refine J.aload_n 50 dX12_pilotOf_49 rfl rfl ?_
          refine mg_47 hM rfl 53 dX12_pilotOf_50 rfl ?_
          refine J.iload_n 54 dX12_pilotOf_53 rfl rfl ?_
          refine ml_ia hM p.toNatClampNeg rfl rfl rfl rfl (by first | assumption | exact hP (ib_n.mp (by assumption))) 55 dX12_pilotOf_54 rfl ?_
          refine J.isub 56 dX12_pilotOf_55 rfl ?_
          refine J.goto 61 dX12_pilotOf_56 (by decide) ?_
          exact J.iret dX12_pilotOf_61 rfl (fin _ _ _ ⟨by simp (decide := true) [r_pilotOf, ib_n.mp c1, c2, c3, c4], by simp (decide := true) [r_pilotOf, ib_n.mp c1, c2, c3, c4]⟩ hM hF)
      · skip
        refine J.aload_n 30 dX12_pilotOf_29 rfl rfl ?_
        refine mg_50 hM rfl 33 dX12_pilotOf_30 rfl ?_
        refine J.iload_n 34 dX12_pilotOf_33 rfl rfl ?_
        refine ml_ia hM p.toNatClampNeg rfl rfl rfl rfl (by first | assumption | exact hP (ib_n.mp (by assumption))) 35 dX12_pilotOf_34 rfl ?_
        refine J.goto 61 dX12_pilotOf_35 (by decide) ?_
        exact J.iret dX12_pilotOf_61 rfl (fin _ _ _ ⟨by simp (decide := true) [r_pilotOf, ib_n.mp c1, c2, c3], by simp (decide := true) [r_pilotOf, ib_n.mp c1, c2, c3]⟩ hM hF)
    · skip
      refine J.aload_n 16 dX12_pilotOf_15 rfl rfl ?_
      refine mg_47 hM rfl 19 dX12_pilotOf_16 rfl ?_
      refine J.iload_n 20 dX12_pilotOf_19 rfl rfl ?_
      refine ml_ia hM p.toNatClampNeg rfl rfl rfl rfl (by first | assumption | exact hP (ib_n.mp (by assumption))) 21 dX12_pilotOf_20 rfl ?_
      refine J.goto 61 dX12_pilotOf_21 (by decide) ?_
      exact J.iret dX12_pilotOf_61 rfl (fin _ _ _ ⟨by simp (decide := true) [r_pilotOf, ib_n.mp c1, c2], by simp (decide := true) [r_pilotOf, ib_n.mp c1, c2]⟩ hM hF)
  · skip
    refine J.bipush (-9) 10 dX12_pilotOf_8 rfl (by decide) ?_
    exact J.iret dX12_pilotOf_10 rfl (fin _ _ _ ⟨by simp (decide := true) [r_pilotOf, ib_0.mp c1], by simp (decide := true) [r_pilotOf, ib_0.mp c1]⟩ hM hF)
def r_cargo (S : MS) (l t : Int32) : Int32 := if ¬ (0 ≤ l ∧ l < S.1 28) then -9 else if t = 0 then S.2 23 l.toNatClampNeg else if t = 1 then S.2 24 l.toNatClampNeg else if t = 2 then S.2 25 l.toNatClampNeg else if t = 3 then S.2 26 l.toNatClampNeg else if t = 4 then (if S.2 23 l.toNatClampNeg = 3 ∧ S.2 22 l.toNatClampNeg < S.2 26 l.toNatClampNeg then 1 else 0) else if t = 5 then S.2 27 l.toNatClampNeg else -9
theorem k_cargo {S : MS} {l : Int32} {t : Int32} {d : Nat} (hP : (0 ≤ l ∧ l < S.1 28) → vp_in l 80) : CM Y_X12_cargo (d + 1) [.int l, .int t] S (fun r S2 => r = some (.int (r_cargo S l t)) ∧ S2 = S) := by
  refine CM.of 0 rfl (fun _ => Nat.le_of_ble_eq_true rfl) (by simp [Value.category]) ?_
  intro G m0 ad h0 h post hM hF fin
  show J Y_X12_cargo (d + 1) G 0 0 0 [some (.ref m0), some (.int l), some (.int t)] [] h post
  refine J.aload_n 1 dX12_cargo_0 rfl rfl ?_
  refine J.iload_n 2 dX12_cargo_1 rfl rfl ?_
  refine mc_228 hM hF (k_isLoad (S := S) (l := l)) rfl 5 dX12_cargo_2 rfl rfl rfl (by decide) (fun r S2 hp h hM hF => ?_)
  obtain ⟨rfl, hp⟩ := hp
  replace hp := hp.symm
  subst hp
  refine J.if_ne 11 8 dX12_cargo_5 (by decide) rfl (fun c1 => ?_) (fun c1 => ?_)
  · skip
    refine J.iload_n 12 dX12_cargo_11 rfl rfl ?_
    by_cases c2 : (t).toInt < 0 ∨ 5 < (t).toInt
    · refine J.tsOut 101 dX12_cargo_12 c2 (by decide) ?_
      refine J.bipush (-9) 103 dX12_cargo_101 rfl (by decide) ?_
      exact J.iret dX12_cargo_103 rfl (fin _ _ _ ⟨by simp (decide := true) [r_cargo, ib_n.mp c1, sw_out c2 0 (by decide) (by decide), sw_out c2 1 (by decide) (by decide), sw_out c2 2 (by decide) (by decide), sw_out c2 3 (by decide) (by decide), sw_out c2 4 (by decide) (by decide), sw_out c2 5 (by decide) (by decide)], by simp (decide := true) [r_cargo, ib_n.mp c1, sw_out c2 0 (by decide) (by decide), sw_out c2 1 (by decide) (by decide), sw_out c2 2 (by decide) (by decide), sw_out c2 3 (by decide) (by decide), sw_out c2 4 (by decide) (by decide), sw_out c2 5 (by decide) (by decide)]⟩ hM hF)
    · have q2 : (t).toInt = 0 ∨ (t).toInt = 1 ∨ (t).toInt = 2 ∨ (t).toInt = 3 ∨ (t).toInt = 4 ∨ (t).toInt = 5 := by omega
      rcases q2 with q2 | q2 | q2 | q2 | q2 | q2
      · have z2 : t = 0 := Int32.toInt_inj.mp (q2.trans (by decide))
        refine J.tsIn (k := 0) 52 dX12_cargo_12 q2 (by decide) (by decide) rfl (by decide) ?_
        refine J.aload_n 53 dX12_cargo_52 rfl rfl ?_
        refine mg_71 hM rfl 56 dX12_cargo_53 rfl ?_
        refine J.iload_n 57 dX12_cargo_56 rfl rfl ?_
        refine ml_ia hM l.toNatClampNeg rfl rfl rfl rfl (by first | assumption | exact hP (ib_n.mp (by assumption))) 58 dX12_cargo_57 rfl ?_
        exact J.iret dX12_cargo_58 rfl (fin _ _ _ ⟨by simp (decide := true) [r_cargo, ib_n.mp c1, z2], by simp (decide := true) [r_cargo, ib_n.mp c1, z2]⟩ hM hF)
      · have z2 : t = 1 := Int32.toInt_inj.mp (q2.trans (by decide))
        refine J.tsIn (k := 1) 59 dX12_cargo_12 q2 (by decide) (by decide) rfl (by decide) ?_
        refine J.aload_n 60 dX12_cargo_59 rfl rfl ?_
        refine mg_74 hM rfl 63 dX12_cargo_60 rfl ?_
        refine J.iload_n 64 dX12_cargo_63 rfl rfl ?_
        refine ml_ia hM l.toNatClampNeg rfl rfl rfl rfl (by first | assumption | exact hP (ib_n.mp (by assumption))) 65 dX12_cargo_64 rfl ?_
        exact J.iret dX12_cargo_65 rfl (fin _ _ _ ⟨by simp (decide := true) [r_cargo, ib_n.mp c1, z2], by simp (decide := true) [r_cargo, ib_n.mp c1, z2]⟩ hM hF)
      · have z2 : t = 2 := Int32.toInt_inj.mp (q2.trans (by decide))
        refine J.tsIn (k := 2) 66 dX12_cargo_12 q2 (by decide) (by decide) rfl (by decide) ?_
        refine J.aload_n 67 dX12_cargo_66 rfl rfl ?_
        refine mg_77 hM rfl 70 dX12_cargo_67 rfl ?_
        refine J.iload_n 71 dX12_cargo_70 rfl rfl ?_
        refine ml_ia hM l.toNatClampNeg rfl rfl rfl rfl (by first | assumption | exact hP (ib_n.mp (by assumption))) 72 dX12_cargo_71 rfl ?_
        exact J.iret dX12_cargo_72 rfl (fin _ _ _ ⟨by simp (decide := true) [r_cargo, ib_n.mp c1, z2], by simp (decide := true) [r_cargo, ib_n.mp c1, z2]⟩ hM hF)
      · have z2 : t = 3 := Int32.toInt_inj.mp (q2.trans (by decide))
        refine J.tsIn (k := 3) 73 dX12_cargo_12 q2 (by decide) (by decide) rfl (by decide) ?_
        refine J.aload_n 74 dX12_cargo_73 rfl rfl ?_
        refine mg_80 hM rfl 77 dX12_cargo_74 rfl ?_
        refine J.iload_n 78 dX12_cargo_77 rfl rfl ?_
        refine ml_ia hM l.toNatClampNeg rfl rfl rfl rfl (by first | assumption | exact hP (ib_n.mp (by assumption))) 79 dX12_cargo_78 rfl ?_
        exact J.iret dX12_cargo_79 rfl (fin _ _ _ ⟨by simp (decide := true) [r_cargo, ib_n.mp c1, z2], by simp (decide := true) [r_cargo, ib_n.mp c1, z2]⟩ hM hF)
      · have z2 : t = 4 := Int32.toInt_inj.mp (q2.trans (by decide))
        refine J.tsIn (k := 4) 80 dX12_cargo_12 q2 (by decide) (by decide) rfl (by decide) ?_
        refine J.aload_n 81 dX12_cargo_80 rfl rfl ?_
        refine J.iload_n 82 dX12_cargo_81 rfl rfl ?_
        refine mc_262 hM hF (k_isLate (S := S) (l := l) (hP (ib_n.mp (by assumption)))) rfl 85 dX12_cargo_82 rfl rfl rfl (by decide) (fun r S2 hp h hM hF => ?_)
        obtain ⟨rfl, hp⟩ := hp
        replace hp := hp.symm
        subst hp
        refine J.if_eq 92 88 dX12_cargo_85 (by decide) rfl (fun c3 => ?_) (fun c3 => ?_)
        · skip
          refine J.iconst 0 93 dX12_cargo_92 rfl (by decide) ?_
          exact J.iret dX12_cargo_93 rfl (fin _ _ _ ⟨by simp (decide := true) [r_cargo, ib_n.mp c1, z2, ib_0.mp c3], by simp (decide := true) [r_cargo, ib_n.mp c1, z2, ib_0.mp c3]⟩ hM hF)
        · skip
          refine J.iconst 1 89 dX12_cargo_88 rfl (by decide) ?_
          refine J.goto 93 dX12_cargo_89 (by decide) ?_
          exact J.iret dX12_cargo_93 rfl (fin _ _ _ ⟨by simp (decide := true) [r_cargo, ib_n.mp c1, z2, ib_n.mp c3], by simp (decide := true) [r_cargo, ib_n.mp c1, z2, ib_n.mp c3]⟩ hM hF)
      · have z2 : t = 5 := Int32.toInt_inj.mp (q2.trans (by decide))
        refine J.tsIn (k := 5) 94 dX12_cargo_12 q2 (by decide) (by decide) rfl (by decide) ?_
        refine J.aload_n 95 dX12_cargo_94 rfl rfl ?_
        refine mg_83 hM rfl 98 dX12_cargo_95 rfl ?_
        refine J.iload_n 99 dX12_cargo_98 rfl rfl ?_
        refine ml_ia hM l.toNatClampNeg rfl rfl rfl rfl (by first | assumption | exact hP (ib_n.mp (by assumption))) 100 dX12_cargo_99 rfl ?_
        exact J.iret dX12_cargo_100 rfl (fin _ _ _ ⟨by simp (decide := true) [r_cargo, ib_n.mp c1, z2], by simp (decide := true) [r_cargo, ib_n.mp c1, z2]⟩ hM hF)
  · skip
    refine J.bipush (-9) 10 dX12_cargo_8 rfl (by decide) ?_
    exact J.iret dX12_cargo_10 rfl (fin _ _ _ ⟨by simp (decide := true) [r_cargo, ib_0.mp c1], by simp (decide := true) [r_cargo, ib_0.mp c1]⟩ hM hF)
def r_flight (S : MS) (x t : Int32) : Int32 := if x < 0 ∨ S.1 45 ≤ x then -9 else if t = 0 then S.2 36 x.toNatClampNeg else if t = 1 then S.2 37 x.toNatClampNeg else if t = 2 then S.2 38 x.toNatClampNeg else if t = 3 then S.2 39 x.toNatClampNeg else if t = 4 then S.2 40 x.toNatClampNeg else if t = 5 then S.2 41 x.toNatClampNeg else if t = 6 then S.2 42 x.toNatClampNeg else if t = 7 then S.2 43 x.toNatClampNeg else if t = 8 then S.2 44 x.toNatClampNeg else -9
theorem k_flight {S : MS} {x : Int32} {t : Int32} {d : Nat} (hP : ¬ x < 0 → x < S.1 45 → vp_in x 200) : CM Y_X12_flight d [.int x, .int t] S (fun r S2 => r = some (.int (r_flight S x t)) ∧ S2 = S) := by
  refine CM.of 0 rfl (fun _ => Nat.le_of_ble_eq_true rfl) (by simp [Value.category]) ?_
  intro G m0 ad h0 h post hM hF fin
  show J Y_X12_flight d G 0 0 0 [some (.ref m0), some (.int x), some (.int t)] [] h post
  refine J.iload_n 1 dX12_flight_0 rfl rfl ?_
  refine J.if_lt 12 4 dX12_flight_1 (by decide) rfl (fun c1 => ?_) (fun c1 => ?_)
  · skip
    refine J.bipush (-9) 14 dX12_flight_12 rfl (by decide) ?_
    exact J.iret dX12_flight_14 rfl (fin _ _ _ ⟨by simp (decide := true) [r_flight, c1, Int32.not_le.mpr c1], by simp (decide := true) [r_flight, c1, Int32.not_le.mpr c1]⟩ hM hF)
  · skip
    refine J.iload_n 5 dX12_flight_4 rfl rfl ?_
    refine J.aload_n 6 dX12_flight_5 rfl rfl ?_
    refine mg_256 hM (x := S.1 45) rfl rfl 9 dX12_flight_6 rfl ?_
    refine J.icmp_lt 15 12 dX12_flight_9 (by decide) rfl (fun c2 => ?_) (fun c2 => ?_)
    · skip
      refine J.iload_n 16 dX12_flight_15 rfl rfl ?_
      by_cases c3 : (t).toInt < 0 ∨ 8 < (t).toInt
      · refine J.tsOut 131 dX12_flight_16 c3 (by decide) ?_
        refine J.bipush (-9) 133 dX12_flight_131 rfl (by decide) ?_
        exact J.iret dX12_flight_133 rfl (fin _ _ _ ⟨by simp (decide := true) [r_flight, c1, Int32.not_lt.mp c1, c2, Int32.not_le.mpr c2, sw_out c3 0 (by decide) (by decide), sw_out c3 1 (by decide) (by decide), sw_out c3 2 (by decide) (by decide), sw_out c3 3 (by decide) (by decide), sw_out c3 4 (by decide) (by decide), sw_out c3 5 (by decide) (by decide), sw_out c3 6 (by decide) (by decide), sw_out c3 7 (by decide) (by decide), sw_out c3 8 (by decide) (by decide)], by simp (decide := true) [r_flight, c1, Int32.not_lt.mp c1, c2, Int32.not_le.mpr c2, sw_out c3 0 (by decide) (by decide), sw_out c3 1 (by decide) (by decide), sw_out c3 2 (by decide) (by decide), sw_out c3 3 (by decide) (by decide), sw_out c3 4 (by decide) (by decide), sw_out c3 5 (by decide) (by decide), sw_out c3 6 (by decide) (by decide), sw_out c3 7 (by decide) (by decide), sw_out c3 8 (by decide) (by decide)]⟩ hM hF)
      · have q3 : (t).toInt = 0 ∨ (t).toInt = 1 ∨ (t).toInt = 2 ∨ (t).toInt = 3 ∨ (t).toInt = 4 ∨ (t).toInt = 5 ∨ (t).toInt = 6 ∨ (t).toInt = 7 ∨ (t).toInt = 8 := by omega
        rcases q3 with q3 | q3 | q3 | q3 | q3 | q3 | q3 | q3 | q3
        · have z3 : t = 0 := Int32.toInt_inj.mp (q3.trans (by decide))
          refine J.tsIn (k := 0) 68 dX12_flight_16 q3 (by decide) (by decide) rfl (by decide) ?_
          refine J.aload_n 69 dX12_flight_68 rfl rfl ?_
          refine mg_98 hM rfl 72 dX12_flight_69 rfl ?_
          refine J.iload_n 73 dX12_flight_72 rfl rfl ?_
          refine ml_ia hM x.toNatClampNeg rfl rfl rfl rfl (hP (by assumption) (by first | assumption | exact Int32.not_le.mp (by assumption))) 74 dX12_flight_73 rfl ?_
          exact J.iret dX12_flight_74 rfl (fin _ _ _ ⟨by simp (decide := true) [r_flight, c1, Int32.not_lt.mp c1, c2, Int32.not_le.mpr c2, z3], by simp (decide := true) [r_flight, c1, Int32.not_lt.mp c1, c2, Int32.not_le.mpr c2, z3]⟩ hM hF)
        · have z3 : t = 1 := Int32.toInt_inj.mp (q3.trans (by decide))
          refine J.tsIn (k := 1) 75 dX12_flight_16 q3 (by decide) (by decide) rfl (by decide) ?_
          refine J.aload_n 76 dX12_flight_75 rfl rfl ?_
          refine mg_101 hM rfl 79 dX12_flight_76 rfl ?_
          refine J.iload_n 80 dX12_flight_79 rfl rfl ?_
          refine ml_ia hM x.toNatClampNeg rfl rfl rfl rfl (hP (by assumption) (by first | assumption | exact Int32.not_le.mp (by assumption))) 81 dX12_flight_80 rfl ?_
          exact J.iret dX12_flight_81 rfl (fin _ _ _ ⟨by simp (decide := true) [r_flight, c1, Int32.not_lt.mp c1, c2, Int32.not_le.mpr c2, z3], by simp (decide := true) [r_flight, c1, Int32.not_lt.mp c1, c2, Int32.not_le.mpr c2, z3]⟩ hM hF)
        · have z3 : t = 2 := Int32.toInt_inj.mp (q3.trans (by decide))
          refine J.tsIn (k := 2) 82 dX12_flight_16 q3 (by decide) (by decide) rfl (by decide) ?_
          refine J.aload_n 83 dX12_flight_82 rfl rfl ?_
          refine mg_104 hM rfl 86 dX12_flight_83 rfl ?_
          refine J.iload_n 87 dX12_flight_86 rfl rfl ?_
          refine ml_ia hM x.toNatClampNeg rfl rfl rfl rfl (hP (by assumption) (by first | assumption | exact Int32.not_le.mp (by assumption))) 88 dX12_flight_87 rfl ?_
          exact J.iret dX12_flight_88 rfl (fin _ _ _ ⟨by simp (decide := true) [r_flight, c1, Int32.not_lt.mp c1, c2, Int32.not_le.mpr c2, z3], by simp (decide := true) [r_flight, c1, Int32.not_lt.mp c1, c2, Int32.not_le.mpr c2, z3]⟩ hM hF)
        · have z3 : t = 3 := Int32.toInt_inj.mp (q3.trans (by decide))
          refine J.tsIn (k := 3) 89 dX12_flight_16 q3 (by decide) (by decide) rfl (by decide) ?_
          refine J.aload_n 90 dX12_flight_89 rfl rfl ?_
          refine mg_107 hM rfl 93 dX12_flight_90 rfl ?_
          refine J.iload_n 94 dX12_flight_93 rfl rfl ?_
          refine ml_ia hM x.toNatClampNeg rfl rfl rfl rfl (hP (by assumption) (by first | assumption | exact Int32.not_le.mp (by assumption))) 95 dX12_flight_94 rfl ?_
          exact J.iret dX12_flight_95 rfl (fin _ _ _ ⟨by simp (decide := true) [r_flight, c1, Int32.not_lt.mp c1, c2, Int32.not_le.mpr c2, z3], by simp (decide := true) [r_flight, c1, Int32.not_lt.mp c1, c2, Int32.not_le.mpr c2, z3]⟩ hM hF)
        · have z3 : t = 4 := Int32.toInt_inj.mp (q3.trans (by decide))
          refine J.tsIn (k := 4) 96 dX12_flight_16 q3 (by decide) (by decide) rfl (by decide) ?_
          refine J.aload_n 97 dX12_flight_96 rfl rfl ?_
          refine mg_110 hM rfl 100 dX12_flight_97 rfl ?_
          refine J.iload_n 101 dX12_flight_100 rfl rfl ?_
          refine ml_ia hM x.toNatClampNeg rfl rfl rfl rfl (hP (by assumption) (by first | assumption | exact Int32.not_le.mp (by assumption))) 102 dX12_flight_101 rfl ?_
          exact J.iret dX12_flight_102 rfl (fin _ _ _ ⟨by simp (decide := true) [r_flight, c1, Int32.not_lt.mp c1, c2, Int32.not_le.mpr c2, z3], by simp (decide := true) [r_flight, c1, Int32.not_lt.mp c1, c2, Int32.not_le.mpr c2, z3]⟩ hM hF)
        · have z3 : t = 5 := Int32.toInt_inj.mp (q3.trans (by decide))
          refine J.tsIn (k := 5) 103 dX12_flight_16 q3 (by decide) (by decide) rfl (by decide) ?_
          refine J.aload_n 104 dX12_flight_103 rfl rfl ?_
          refine mg_113 hM rfl 107 dX12_flight_104 rfl ?_
          refine J.iload_n 108 dX12_flight_107 rfl rfl ?_
          refine ml_ia hM x.toNatClampNeg rfl rfl rfl rfl (hP (by assumption) (by first | assumption | exact Int32.not_le.mp (by assumption))) 109 dX12_flight_108 rfl ?_
          exact J.iret dX12_flight_109 rfl (fin _ _ _ ⟨by simp (decide := true) [r_flight, c1, Int32.not_lt.mp c1, c2, Int32.not_le.mpr c2, z3], by simp (decide := true) [r_flight, c1, Int32.not_lt.mp c1, c2, Int32.not_le.mpr c2, z3]⟩ hM hF)
        · have z3 : t = 6 := Int32.toInt_inj.mp (q3.trans (by decide))
          refine J.tsIn (k := 6) 110 dX12_flight_16 q3 (by decide) (by decide) rfl (by decide) ?_
          refine J.aload_n 111 dX12_flight_110 rfl rfl ?_
          refine mg_116 hM rfl 114 dX12_flight_111 rfl ?_
          refine J.iload_n 115 dX12_flight_114 rfl rfl ?_
          refine ml_ia hM x.toNatClampNeg rfl rfl rfl rfl (hP (by assumption) (by first | assumption | exact Int32.not_le.mp (by assumption))) 116 dX12_flight_115 rfl ?_
          exact J.iret dX12_flight_116 rfl (fin _ _ _ ⟨by simp (decide := true) [r_flight, c1, Int32.not_lt.mp c1, c2, Int32.not_le.mpr c2, z3], by simp (decide := true) [r_flight, c1, Int32.not_lt.mp c1, c2, Int32.not_le.mpr c2, z3]⟩ hM hF)
        · have z3 : t = 7 := Int32.toInt_inj.mp (q3.trans (by decide))
          refine J.tsIn (k := 7) 117 dX12_flight_16 q3 (by decide) (by decide) rfl (by decide) ?_
          refine J.aload_n 118 dX12_flight_117 rfl rfl ?_
          refine mg_119 hM rfl 121 dX12_flight_118 rfl ?_
          refine J.iload_n 122 dX12_flight_121 rfl rfl ?_
          refine ml_ia hM x.toNatClampNeg rfl rfl rfl rfl (hP (by assumption) (by first | assumption | exact Int32.not_le.mp (by assumption))) 123 dX12_flight_122 rfl ?_
          exact J.iret dX12_flight_123 rfl (fin _ _ _ ⟨by simp (decide := true) [r_flight, c1, Int32.not_lt.mp c1, c2, Int32.not_le.mpr c2, z3], by simp (decide := true) [r_flight, c1, Int32.not_lt.mp c1, c2, Int32.not_le.mpr c2, z3]⟩ hM hF)
        · have z3 : t = 8 := Int32.toInt_inj.mp (q3.trans (by decide))
          refine J.tsIn (k := 8) 124 dX12_flight_16 q3 (by decide) (by decide) rfl (by decide) ?_
          refine J.aload_n 125 dX12_flight_124 rfl rfl ?_
          refine mg_122 hM rfl 128 dX12_flight_125 rfl ?_
          refine J.iload_n 129 dX12_flight_128 rfl rfl ?_
          refine ml_ia hM x.toNatClampNeg rfl rfl rfl rfl (hP (by assumption) (by first | assumption | exact Int32.not_le.mp (by assumption))) 130 dX12_flight_129 rfl ?_
          exact J.iret dX12_flight_130 rfl (fin _ _ _ ⟨by simp (decide := true) [r_flight, c1, Int32.not_lt.mp c1, c2, Int32.not_le.mpr c2, z3], by simp (decide := true) [r_flight, c1, Int32.not_lt.mp c1, c2, Int32.not_le.mpr c2, z3]⟩ hM hF)
    · skip
      refine J.bipush (-9) 14 dX12_flight_12 rfl (by decide) ?_
      exact J.iret dX12_flight_14 rfl (fin _ _ _ ⟨by simp (decide := true) [r_flight, c1, Int32.not_lt.mp c1, c2, Int32.not_lt.mp c2], by simp (decide := true) [r_flight, c1, Int32.not_lt.mp c1, c2, Int32.not_lt.mp c2]⟩ hM hF)
