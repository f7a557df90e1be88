def frI (S : MS) (m y : Int32) : Int32 := if S.2 15 y.toNatClampNeg ≤ (if S.2 10 m.toNatClampNeg ≤ S.1 0 then S.1 0 else S.2 10 m.toNatClampNeg) then (if S.2 10 m.toNatClampNeg ≤ S.1 0 then S.1 0 else S.2 10 m.toNatClampNeg) else S.2 15 y.toNatClampNeg
noncomputable def oG (S : MS) (n u L : Nat) (m y : Int32) (a : Nat) : GB := gF S n u L y L (-1, S.1 56, S.2 53) (S.2 52) (cpy (fun _ => 0) (S.2 54) 5) a (S.2 14 y.toNatClampNeg) (S.2 9 m.toNatClampNeg) 0
def oGo (S : MS) (n : Nat) (m y : Int32) : Prop := ((0 ≤ m ∧ m < S.1 11) ∧ (0 ≤ y ∧ y < S.1 16)) ∧ ¬ S.1 51 = 0 ∧ ¬ 0 < r_hangN S m 110 n
noncomputable def r_order (S : MS) (n u L : Nat) (m y : Int32) (a : Nat) : Int32 := if ¬ ((0 ≤ m ∧ m < S.1 11) ∧ (0 ≤ y ∧ y < S.1 16)) then -1 else if S.1 51 = 0 ∨ 0 < r_hangN S m 110 n then -3 else if (oG S n u L m y a).1 < 0 then -3 else (oG S n u L m y a).2.1
def orR (S : MS) (n u L : Nat) (m y : Int32) (a : Nat) (T : MS) : Prop := (∀ j, j ≠ 35 → j ≠ 51 → j ≠ 55 → j ≠ 56 → j ≠ 57 → T.1 j = S.1 j) ∧ (∀ j, j ≠ 34 → j ≠ 52 → j ≠ 53 → j ≠ 54 → j ≠ 61 → T.2 j = S.2 j) ∧ ((oGo S n m y ∧ ¬ (oG S n u L m y a).1 < 0) → T.1 55 = (oG S n u L m y a).1 ∧ T.1 51 = 0 ∧ T.2 53 = (oG S n u L m y a).2.2) ∧ (¬ (oGo S n m y ∧ ¬ (oG S n u L m y a).1 < 0) → T.1 55 = S.1 55 ∧ T.1 51 = S.1 51 ∧ ∀ i, i < 5 → T.2 53 i = S.2 53 i)
theorem orR.refl {S : MS} {n u L a : Nat} {m y : Int32} (h : ¬ (oGo S n m y ∧ ¬ (oG S n u L m y a).1 < 0)) : orR S n u L m y a S := ⟨fun _ _ _ _ _ _ => rfl, fun _ _ _ _ _ _ => rfl, fun z => absurd z h, fun _ => ⟨rfl, rfl, fun _ _ => rfl⟩⟩
def oS0 (S : MS) (k : Nat) : MS := (vf_upd S.1 57 (-1), ur (ur S.2 54 (cpy (fun _ => 0) (S.2 54) k)) 61 (cpy (S.2 53) (S.2 61) k))
theorem upd_cpy {o b : Nat → Int32} {k : Nat} : upd (cpy o b k) k (o k) = cpy o b (k + 1) := by
  funext i
  by_cases q : i = k
  · subst q
    rw [pk_us, cpy, if_pos (by omega)]
  · rw [pk_un q, cpy, cpy]
    by_cases q2 : i < k
    · rw [if_pos q2, if_pos (by omega)]
    · rw [if_neg q2, if_neg (by omega)]
theorem cpy_z {o b : Nat → Int32} : cpy o b 0 = b := funext fun i => by rw [cpy, if_neg (by omega)]
theorem oS0_s {S : MS} {k : Nat} : ((oS0 S k).1, u2 (u2 (oS0 S k).2 54 k 0) 61 k (S.2 53 k)) = oS0 S (k + 1) := by
  refine Prod.ext rfl (funext fun j => ?_)
  show u2 (u2 (ur (ur S.2 54 _) 61 _) 54 k 0) 61 k (S.2 53 k) j = ur (ur S.2 54 _) 61 _ j
  by_cases e : j = 61
  · subst e
    rw [u2_s, u2_n (by decide), ur_s, ur_s, upd_cpy]
  · rw [u2_n e, ur_n e]
    by_cases e2 : j = 54
    · subst e2
      rw [u2_s, ur_n (by decide), ur_s, ur_s]
      exact upd_cpy (o := fun _ => 0)
    · rw [u2_n e2, ur_n e, ur_n e2, ur_n e2]
theorem oS0_0 {S : MS} : (vf_upd S.1 57 (-1), S.2) = oS0 S 0 := by
  refine Prod.ext rfl (funext fun j => ?_)
  show S.2 j = ur (ur S.2 54 _) 61 _ j
  by_cases e : j = 61
  · subst e
    rw [ur_s, cpy_z]
  · rw [ur_n e]
    by_cases e2 : j = 54
    · subst e2
      rw [ur_s, cpy_z]
    · rw [ur_n e2]
theorem oS0_r {S : MS} {k j : Nat} (h : j ≠ 54) (h2 : j ≠ 61) : (oS0 S k).2 j = S.2 j := by
  show ur (ur S.2 54 _) 61 _ j = _
  rw [ur_n h2, ur_n h]
theorem oS0_i {S : MS} {k j : Nat} (h : j ≠ 57) : (oS0 S k).1 j = S.1 j := if_neg h
theorem gH_oS0 {S : MS} {n u L k : Nat} {y : Int32} (h : gH S n u L y) : gH (oS0 S k) n u L y := by
  obtain ⟨⟨a1, a2⟩, ⟨a3, a4⟩, a5, ⟨a6, a7⟩, a8, a9, a10⟩ := h
  have hlo : lo S (oS0 S k) := fun j hj => oS0_r (by omega) (by omega)
  refine ⟨⟨a1, a2⟩, ⟨a3, a4⟩, a5.lo hlo, ⟨a6, a7⟩, a8, ?_, ?_⟩
  · rw [hlo 13 (by decide)]
    exact a9
  · rw [hlo 2 (by decide), oS0_r (j := 50) (by decide) (by decide)]
    exact a10
theorem k_order {S : MS} {m y : Int32} {d n u L a : Nat} (hn : n ≤ 80) (hN : ¬ S.1 51 = 0 → S.1 28 = nI n) (hm : (0 ≤ m ∧ m < S.1 11) → vp_in m 4) (hH : ((0 ≤ m ∧ m < S.1 11) ∧ (0 ≤ y ∧ y < S.1 16)) → gH S n u L y) (ha : ((0 ≤ m ∧ m < S.1 11) ∧ (0 ≤ y ∧ y < S.1 16)) → frI S m y = nI a ∧ a ≤ 2000) : CM Y_X12_order (d + 10) [.int m, .int y] S (fun r S2 => r = some (.int (r_order S n u L m y a)) ∧ orR S n u L m y a S2) := by
  refine CM.of 2 rfl (fun _ => Nat.le_of_ble_eq_true rfl) (by simp [Value.category]) ?_
  intro G m0 ad h0 h post hM hF fin
  show J Y_X12_order (d + 10) G 0 0 0 [some (.ref m0), some (.int m), some (.int y), none, none] [] h post
  refine J.aload_n 1 dX12_order_0 rfl rfl ?_
  refine J.iload_n 2 dX12_order_1 rfl rfl ?_
  refine mc_215 hM hF (k_isMachine (S := S) (m := m)) rfl 5 dX12_order_2 rfl rfl rfl (Nat.le_of_ble_eq_true rfl) (fun r S2 hp h hM hF => ?_)
  obtain ⟨rfl, hp⟩ := hp
  replace hp := hp.symm
  subst hp
  refine J.if_eq 16 8 dX12_order_5 (by decide) rfl (fun c1 => ?_) (fun c1 => ?_)
  · skip
    refine J.iconst (-1) 17 dX12_order_16 rfl (by decide) ?_
    exact J.iret dX12_order_17 rfl (fin _ _ _ ⟨by simp [r_order, c1, ib_0.mp c1], orR.refl (fun z => by have := z.1.1; simp [c1, ib_0.mp c1] at this)⟩ hM hF)
  · skip
    refine J.aload_n 9 dX12_order_8 rfl rfl ?_
    refine J.iload_n 10 dX12_order_9 rfl rfl ?_
    refine mc_218 hM hF (k_isPilot (S := S) (p := y)) rfl 13 dX12_order_10 rfl rfl rfl (Nat.le_of_ble_eq_true rfl) (fun r S2 hp h hM hF => ?_)
    obtain ⟨rfl, hp⟩ := hp
    replace hp := hp.symm
    subst hp
    refine J.if_ne 18 16 dX12_order_13 (by decide) rfl (fun c2 => ?_) (fun c2 => ?_)
    · skip
      have hok : ((0 ≤ m ∧ m < S.1 11) ∧ (0 ≤ y ∧ y < S.1 16)) := ⟨ib_n.mp (by assumption), ib_n.mp c2⟩
      refine J.aload_n 19 dX12_order_18 rfl rfl ?_
      refine mg_274 hM (x := S.1 51) rfl rfl 22 dX12_order_19 rfl ?_
      refine J.if_eq 35 25 dX12_order_22 (by decide) rfl (fun c3 => ?_) (fun c3 => ?_)
      · skip
        refine J.bipush (-3) 37 dX12_order_35 rfl (by decide) ?_
        exact J.iret dX12_order_37 rfl (fin _ _ _ ⟨by rw [r_order, if_neg (fun z => z hok), if_pos (by first | exact Or.inl (by assumption) | exact Or.inr (Int32.not_le.mp (by assumption)))], orR.refl (fun z => by first | exact z.1.2.1 (by assumption) | exact z.1.2.2 (Int32.not_le.mp (by assumption)))⟩ hM hF)
      · skip
        have hne : ¬ S.1 51 = 0 := c3
        refine J.aload_n 26 dX12_order_25 rfl rfl ?_
        refine J.iload_n 27 dX12_order_26 rfl rfl ?_
        refine J.bipush 110 29 dX12_order_27 rfl (by decide) ?_
        refine mc_211 hM hF (k_ofHanging (S := S) (m := m) (c := 110) (hN (by assumption)) hn) rfl 32 dX12_order_29 rfl rfl rfl (Nat.le_of_ble_eq_true rfl) (fun r S2 hp h hM hF => ?_)
        obtain ⟨rfl, hp⟩ := hp
        replace hp := hp.symm
        subst hp
        refine J.if_le 38 35 dX12_order_32 (by decide) rfl (fun c4 => ?_) (fun c4 => ?_)
        · skip
          have hnh : ¬ 0 < r_hangN S m 110 n := Int32.not_lt.mpr c4
          refine J.aload_n 39 dX12_order_38 rfl rfl ?_
          refine mg_38 hM rfl 42 dX12_order_39 rfl ?_
          refine J.iload_n 43 dX12_order_42 rfl rfl ?_
          refine ml_ia hM m.toNatClampNeg rfl (x := S.2 10 m.toNatClampNeg) rfl rfl rfl (hm hok.1) 44 dX12_order_43 rfl ?_
          refine J.aload_n 45 dX12_order_44 rfl rfl ?_
          refine mg_221 hM (x := S.1 0) rfl rfl 48 dX12_order_45 rfl ?_
          have K1 : ∀ (v1_0 : Int32), v1_0 = (if (S.2 10 m.toNatClampNeg) ≤ (S.1 0) then (S.1 0) else (S.2 10 m.toNatClampNeg)) → ∀ h, MR m0 ad S h → MF m0 ad h0 h → J Y_X12_order (d + 10) G 0 0 64 [some (.ref m0), some (.int m), some (.int y), none, none] [.int v1_0] h post := by
            intro v1_0 ev1_0 h hM hF
            refine J.ist_3 65 dX12_order_64 rfl (by decide) ?_
            refine J.aload_n 66 dX12_order_65 rfl rfl ?_
            refine mg_50 hM rfl 69 dX12_order_66 rfl ?_
            refine J.iload_n 70 dX12_order_69 rfl rfl ?_
            refine ml_ia hM y.toNatClampNeg rfl (x := S.2 15 y.toNatClampNeg) rfl rfl rfl (hH hok).2.2.2.2.1 71 dX12_order_70 rfl ?_
            refine J.iload_n 72 dX12_order_71 rfl rfl ?_
            have K2 : ∀ (v2_0 : Int32), v2_0 = (if (S.2 15 y.toNatClampNeg) ≤ v1_0 then v1_0 else (S.2 15 y.toNatClampNeg)) → ∀ h, MR m0 ad S h → MF m0 ad h0 h → J Y_X12_order (d + 10) G 0 0 85 [some (.ref m0), some (.int m), some (.int y), some (.int v1_0), none] [.int v2_0] h post := by
              intro v2_0 ev2_0 h hM hF
              refine J.ist_3 86 dX12_order_85 rfl (by decide) ?_
              refine J.aload_n 87 dX12_order_86 rfl rfl ?_
              refine J.iconst (-1) 88 dX12_order_87 rfl (by decide) ?_
              refine mp_277 hM hF rfl 91 dX12_order_88 rfl (fun h hM hF => ?_)
              refine J.iconst 0 92 dX12_order_91 rfl (by decide) ?_
              refine J.ist_4 94 dX12_order_92 rfl (by decide) ?_
              have loop94 : ∀ (j2 k2 : Nat) (x42 : Int32), k2 ≤ 5 → 5 + 1 ≤ k2 + j2 → x42 = nI k2 → ∀ Sx : MS, (Sx = oS0 S k2) → ∀ h, MR m0 ad Sx h → MF m0 ad h0 h → J Y_X12_order (d + 10) G 0 0 94 [some (.ref m0), some (.int m), some (.int y), some (.int v2_0), some (.int x42)] [] h post := by
                intro j2
                induction j2 with
                | zero => intro k _ g1 g2; exact absurd g2 (by omega)
                | succ j2 ih2 =>
                  intro k2 x42 g12 g22 e42 Sx eSx h hM hF
                  have q42 : x42.toNatClampNeg = k2 := by rw [e42]; exact nI_clamp (by omega)
                  refine J.iload 96 dX12_order_94 rfl rfl ?_
                  refine J.iconst 5 97 dX12_order_96 rfl (by decide) ?_
                  refine J.icmp_ge 128 100 dX12_order_97 (by decide) rfl (fun c5 => ?_) (fun c5 => ?_)
                  · skip
                    have hk2 : k2 = 5 := Nat.le_antisymm g12 ((nI_leI (by omega) (by omega)).mp (by have z := c5; rw [e42] at z; exact z))
                    rw [hk2] at eSx
                    obtain ⟨hfr, ha2⟩ := ha hok
                    have hL5 := (hH hok).2.2.2.1.2
                    have kgo : CM Y_X12_goOn (d + 9) [.int 0, .int m, .int y, .int v2_0, .int (S.2 14 y.toNatClampNeg), .int (S.2 9 m.toNatClampNeg), .int 0] (oS0 S 5) (fun r S2 => r = none ∧ gR 0 (oS0 S 5) S2 ∧ gB S2 = oG S n u L m y a) := by
                      have z := k_goOn (n := n) (u := u) (L := L) (d := d + 5 - L) (m := m) (y := y) L (oS0 S 5) 0 a (S.2 14 y.toNatClampNeg) (S.2 9 m.toNatClampNeg) 0 (by omega) (gH_oS0 (hH hok)) ha2
                      rw [show d + 5 - L + 4 + L = d + 9 from by omega, gF_lo (S := S) (T := oS0 S 5) (fun j hj => oS0_r (by omega) (by omega)) (oS0_r (by decide) (by decide)), ← hfr] at z
                      rw [show v2_0 = frI S m y from by rw [ev2_0, ev1_0]; rfl]
                      exact z
                    refine J.aload_n 129 dX12_order_128 rfl rfl ?_
                    refine J.iconst 0 130 dX12_order_129 rfl (by decide) ?_
                    refine J.iload_n 131 dX12_order_130 rfl rfl ?_
                    refine J.iload_n 132 dX12_order_131 rfl rfl ?_
                    refine J.iload_n 133 dX12_order_132 rfl rfl ?_
                    refine J.aload_n 134 dX12_order_133 rfl rfl ?_
                    refine mg_47 hM rfl 137 dX12_order_134 rfl ?_
                    refine J.iload_n 138 dX12_order_137 rfl rfl ?_
                    refine ml_ia hM y.toNatClampNeg rfl (x := S.2 14 y.toNatClampNeg) (by rw [eSx]; rfl) rfl rfl (hH hok).2.2.2.2.1 139 dX12_order_138 rfl ?_
                    refine J.aload_n 140 dX12_order_139 rfl rfl ?_
                    refine mg_35 hM rfl 143 dX12_order_140 rfl ?_
                    refine J.iload_n 144 dX12_order_143 rfl rfl ?_
                    refine ml_ia hM m.toNatClampNeg rfl (x := S.2 9 m.toNatClampNeg) (by rw [eSx]; rfl) rfl rfl (hm hok.1) 145 dX12_order_144 rfl ?_
                    refine J.iconst 0 146 dX12_order_145 rfl (by decide) ?_
                    rw [eSx] at hM
                    refine mc_287 hM hF kgo rfl 149 dX12_order_146 rfl rfl rfl (Nat.le_of_ble_eq_true rfl) (fun r T146 hp h hM hF => ?_)
                    obtain ⟨rfl, hq146⟩ := hp
                    have hb57 : T146.1 57 = (oG S n u L m y a).1 := congrArg Prod.fst hq146.2
                    have hb56 : T146.1 56 = (oG S n u L m y a).2.1 := congrArg (fun z : GB => z.2.1) hq146.2
                    have hb53 : T146.2 53 = (oG S n u L m y a).2.2 := congrArg (fun z : GB => z.2.2) hq146.2
                    have h61 : ∀ i, i < 5 → T146.2 61 i = S.2 53 i := fun i hi => by rw [hq146.1.2.1 61 (by decide) (by decide) (by decide)]; show cpy (S.2 53) (S.2 61) 5 i = _; rw [cpy, if_pos hi]
                    have hj1 : ∀ j, j ≠ 35 → j ≠ 56 → j ≠ 57 → T146.1 j = S.1 j := fun j j1 j2 j3 => (hq146.1.1 j j1 j2 j3).trans (oS0_i j3)
                    have hj2 : ∀ j, j ≠ 34 → j ≠ 52 → j ≠ 53 → j ≠ 54 → j ≠ 61 → T146.2 j = S.2 j := fun j j1 j2 j3 j4 j5 => (hq146.1.2.1 j j1 j2 j3).trans (oS0_r j4 j5)
                    refine J.aload_n 150 dX12_order_149 rfl rfl ?_
                    refine mg_277 hM (x := T146.1 57) rfl rfl 153 dX12_order_150 rfl ?_
                    refine J.if_ge 188 156 dX12_order_153 (by decide) rfl (fun c6 => ?_) (fun c6 => ?_)
                    · skip
                      have hneg : ¬ (oG S n u L m y a).1 < 0 := by rw [← hb57]; exact Int32.not_lt.mpr c6
                      refine J.aload_n 189 dX12_order_188 rfl rfl ?_
                      refine J.aload_n 190 dX12_order_189 rfl rfl ?_
                      refine mg_277 hM (x := T146.1 57) rfl rfl 193 dX12_order_190 rfl ?_
                      refine mp_141 hM hF rfl 196 dX12_order_193 rfl (fun h hM hF => ?_)
                      refine J.aload_n 197 dX12_order_196 rfl rfl ?_
                      refine J.iconst 0 198 dX12_order_197 rfl (by decide) ?_
                      refine mp_274 hM hF rfl 201 dX12_order_198 rfl (fun h hM hF => ?_)
                      refine J.aload_n 202 dX12_order_201 rfl rfl ?_
                      refine mg_280 hM (x := T146.1 56) rfl rfl 205 dX12_order_202 rfl ?_
                      exact J.iret dX12_order_205 rfl (fin _ (vf_upd (vf_upd T146.1 55 (T146.1 57)) 51 0, T146.2) _ ⟨by rw [r_order, if_neg (fun z => z hok), if_neg (fun z => z.elim hne hnh), if_neg hneg, ← hb56], ⟨fun j j1 j2 j3 j4 j5 => by show vf_upd (vf_upd T146.1 55 _) 51 0 j = _; rw [vf_upd, if_neg j2, vf_upd, if_neg j3]; exact hj1 j j1 j4 j5, fun j j1 j2 j3 j4 j5 => hj2 j j1 j2 j3 j4 j5, fun _ => ⟨hb57, rfl, hb53⟩, fun z => absurd ⟨⟨hok, hne, hnh⟩, hneg⟩ z⟩⟩ hM hF)
                    · skip
                      have hneg : (oG S n u L m y a).1 < 0 := by rw [← hb57]; exact Int32.not_le.mp c6
                      refine J.iconst 0 157 dX12_order_156 rfl (by decide) ?_
                      refine J.ist_4 159 dX12_order_157 rfl (by decide) ?_
                      have loop159 : ∀ (j3 k3 : Nat) (x43 : Int32), k3 ≤ 5 → 5 + 1 ≤ k3 + j3 → x43 = nI k3 → ∀ Sy : MS, (Sy = (T146.1, ur T146.2 53 (cpy (S.2 53) (T146.2 53) k3))) → ∀ h, MR m0 ad Sy h → MF m0 ad h0 h → J Y_X12_order (d + 10) G 0 0 159 [some (.ref m0), some (.int m), some (.int y), some (.int v2_0), some (.int x43)] [] h post := by
                        intro j3
                        induction j3 with
                        | zero => intro k _ g1 g2; exact absurd g2 (by omega)
                        | succ j3 ih3 =>
                          intro k3 x43 g13 g23 e43 Sy eSy h hM hF
                          have q43 : x43.toNatClampNeg = k3 := by rw [e43]; exact nI_clamp (by omega)
                          refine J.iload 161 dX12_order_159 rfl rfl ?_
                          refine J.iconst 5 162 dX12_order_161 rfl (by decide) ?_
                          refine J.icmp_ge 185 165 dX12_order_162 (by decide) rfl (fun c7 => ?_) (fun c7 => ?_)
                          · skip
                            have hk3 : k3 = 5 := Nat.le_antisymm g13 ((nI_leI (by omega) (by omega)).mp (by have z := c7; rw [e43] at z; exact z))
                            refine J.bipush (-3) 187 dX12_order_185 rfl (by decide) ?_
                            exact J.iret dX12_order_187 rfl (fin _ _ _ ⟨by rw [r_order, if_neg (fun z => z hok), if_neg (fun z => z.elim hne hnh), if_pos hneg], ⟨fun j j1 j2 j3 j4 j5 => by rw [eSy]; exact hj1 j j1 j4 j5, fun j j1 j2 j3 j4 j5 => by rw [eSy]; exact (ur_n j3).trans (hj2 j j1 j2 j3 j4 j5), fun z => absurd hneg z.2, fun _ => ⟨by rw [eSy]; exact hj1 55 (by decide) (by decide) (by decide), by rw [eSy]; exact hj1 51 (by decide) (by decide) (by decide), fun i hi => by rw [eSy, hk3]; show cpy (S.2 53) (T146.2 53) 5 i = _; rw [cpy, if_pos hi]⟩⟩⟩ hM hF)
                          · skip
                            have hk3 : k3 < 5 := Nat.lt_of_not_le (fun y => c7 (by rw [e43]; exact nI_le y (by omega)))
                            have hin3 : vp_in x43 5 := by rw [e43]; exact vp_in_nI (by omega) (by decide)
                            refine J.aload_n 166 dX12_order_165 rfl rfl ?_
                            refine mg_135 hM rfl 169 dX12_order_166 rfl ?_
                            refine J.iload 171 dX12_order_169 rfl rfl ?_
                            refine J.aload_n 172 dX12_order_171 rfl rfl ?_
                            refine mg_150 hM rfl 175 dX12_order_172 rfl ?_
                            refine J.iload 177 dX12_order_175 rfl rfl ?_
                            refine ml_ia hM k3 q43 (x := S.2 53 k3) (by rw [eSy]; exact h61 _ hk3) rfl rfl (by assumption) 178 dX12_order_177 rfl ?_
                            refine ml_is hM hF k3 q43 rfl rfl (by assumption) 179 dX12_order_178 rfl (fun h hM hF => ?_)
                            refine J.iinc_4 1 182 dX12_order_179 rfl (by decide) (by decide) ?_
                            refine J.goto 159 dX12_order_182 (by decide) ?_
                            exact ih3 (k3 + 1) _ (by omega) (by omega) (by rw [e43]; exact nI_1 k3) _ (by rw [eSy]; exact Prod.ext rfl cpy_s) _ hM hF
                      exact loop159 (5 + 1) 0 _ (Nat.zero_le _) (by omega) rfl T146 (Prod.ext rfl cpy_0.symm) _ hM hF
                  · skip
                    have hk2 : k2 < 5 := Nat.lt_of_not_le (fun y => c5 (by rw [e42]; exact nI_le y (by omega)))
                    have hin2 : vp_in x42 5 := by rw [e42]; exact vp_in_nI (by omega) (by decide)
                    refine J.aload_n 101 dX12_order_100 rfl rfl ?_
                    refine mg_138 hM rfl 104 dX12_order_101 rfl ?_
                    refine J.iload 106 dX12_order_104 rfl rfl ?_
                    refine J.iconst 0 107 dX12_order_106 rfl (by decide) ?_
                    refine ml_zs hM hF k2 q42 (Or.inl rfl) rfl rfl (by assumption) 108 dX12_order_107 rfl (fun h hM hF => ?_)
                    refine J.aload_n 109 dX12_order_108 rfl rfl ?_
                    refine mg_150 hM rfl 112 dX12_order_109 rfl ?_
                    refine J.iload 114 dX12_order_112 rfl rfl ?_
                    refine J.aload_n 115 dX12_order_114 rfl rfl ?_
                    refine mg_135 hM rfl 118 dX12_order_115 rfl ?_
                    refine J.iload 120 dX12_order_118 rfl rfl ?_
                    refine ml_ia hM k2 q42 (x := S.2 53 k2) (by rw [eSx]; rfl) rfl rfl (by assumption) 121 dX12_order_120 rfl ?_
                    refine ml_is hM hF k2 q42 rfl rfl (by assumption) 122 dX12_order_121 rfl (fun h hM hF => ?_)
                    refine J.iinc_4 1 125 dX12_order_122 rfl (by decide) (by decide) ?_
                    refine J.goto 94 dX12_order_125 (by decide) ?_
                    exact ih2 (k2 + 1) _ (by omega) (by omega) (by rw [e42]; exact nI_1 k2) _ (by rw [eSx]; exact oS0_s) _ hM hF
              exact loop94 (5 + 1) 0 _ (Nat.zero_le _) (by omega) rfl (vf_upd S.1 57 (-1), S.2) oS0_0 _ hM hF
            refine J.icmp_le 84 75 dX12_order_72 (by decide) rfl (fun c8 => ?_) (fun c8 => ?_)
            · skip
              refine J.iload_n 85 dX12_order_84 rfl rfl ?_
              exact K2 _ (by first | (simp only [if_neg c1, if_neg c2, if_neg c3, if_pos c4, if_pos c8]; done) | (simp only [if_neg c1, if_neg c2, if_neg c3, if_pos c4, if_pos c8]; rfl) | (simp [c1, ib_n.mp c1, c2, ib_n.mp c2, c3, c4, Int32.not_lt.mpr c4, c8, Int32.not_lt.mpr c8]; done) | contradiction) _ hM hF
            · skip
              refine J.aload_n 76 dX12_order_75 rfl rfl ?_
              refine mg_50 hM rfl 79 dX12_order_76 rfl ?_
              refine J.iload_n 80 dX12_order_79 rfl rfl ?_
              refine ml_ia hM y.toNatClampNeg rfl (x := S.2 15 y.toNatClampNeg) rfl rfl rfl (hH hok).2.2.2.2.1 81 dX12_order_80 rfl ?_
              refine J.goto 85 dX12_order_81 (by decide) ?_
              exact K2 _ (by first | (simp only [if_neg c1, if_neg c2, if_neg c3, if_pos c4, if_neg c8]; done) | (simp only [if_neg c1, if_neg c2, if_neg c3, if_pos c4, if_neg c8]; rfl) | (simp [c1, ib_n.mp c1, c2, ib_n.mp c2, c3, c4, Int32.not_lt.mpr c4, c8, Int32.not_le.mp c8]; done) | contradiction) _ hM hF
          refine J.icmp_le 60 51 dX12_order_48 (by decide) rfl (fun c9 => ?_) (fun c9 => ?_)
          · skip
            refine J.aload_n 61 dX12_order_60 rfl rfl ?_
            refine mg_221 hM (x := S.1 0) rfl rfl 64 dX12_order_61 rfl ?_
            exact K1 _ (by first | (simp only [if_neg c1, if_neg c2, if_neg c3, if_pos c4, if_pos c9]; done) | (simp only [if_neg c1, if_neg c2, if_neg c3, if_pos c4, if_pos c9]; rfl) | (simp [c1, ib_n.mp c1, c2, ib_n.mp c2, c3, c4, Int32.not_lt.mpr c4, c9, Int32.not_lt.mpr c9]; done) | contradiction) _ hM hF
          · skip
            refine J.aload_n 52 dX12_order_51 rfl rfl ?_
            refine mg_38 hM rfl 55 dX12_order_52 rfl ?_
            refine J.iload_n 56 dX12_order_55 rfl rfl ?_
            refine ml_ia hM m.toNatClampNeg rfl (x := S.2 10 m.toNatClampNeg) rfl rfl rfl (hm hok.1) 57 dX12_order_56 rfl ?_
            refine J.goto 64 dX12_order_57 (by decide) ?_
            exact K1 _ (by first | (simp only [if_neg c1, if_neg c2, if_neg c3, if_pos c4, if_neg c9]; done) | (simp only [if_neg c1, if_neg c2, if_neg c3, if_pos c4, if_neg c9]; rfl) | (simp [c1, ib_n.mp c1, c2, ib_n.mp c2, c3, c4, Int32.not_lt.mpr c4, c9, Int32.not_le.mp c9]; done) | contradiction) _ hM hF
        · skip
          refine J.bipush (-3) 37 dX12_order_35 rfl (by decide) ?_
          exact J.iret dX12_order_37 rfl (fin _ _ _ ⟨by rw [r_order, if_neg (fun z => z hok), if_pos (by first | exact Or.inl (by assumption) | exact Or.inr (Int32.not_le.mp (by assumption)))], orR.refl (fun z => by first | exact z.1.2.1 (by assumption) | exact z.1.2.2 (Int32.not_le.mp (by assumption)))⟩ hM hF)
    · skip
      refine J.iconst (-1) 17 dX12_order_16 rfl (by decide) ?_
      exact J.iret dX12_order_17 rfl (fin _ _ _ ⟨by simp [r_order, c1, ib_n.mp c1, c2, ib_0.mp c2], orR.refl (fun z => by have := z.1.1; simp [c1, ib_n.mp c1, c2, ib_0.mp c2] at this)⟩ hM hF)
