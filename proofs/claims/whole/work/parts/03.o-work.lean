theorem vpz {x : Int32} {z : Nat} (h : x = nI z) (hz : z < 20) : vp_in x 20 := by rw [h]; exact vp_in_nI hz (by decide)
theorem zadd {x : Int32} {z : Nat} (h : x = nI z) : x + 1 = nI (z + 1) := by rw [h]; exact nI_1 z
theorem zsub {x : Int32} {z : Nat} (h : x = nI z) (h1 : 1 ≤ z) : x - 1 = nI (z - 1) := by
  obtain ⟨y, rfl⟩ : ∃ y, z = y + 1 := ⟨z - 1, by omega⟩
  rw [h]
  exact nI_pred y
abbrev pTwo (c : Int32) : Prop := c = 43 ∨ c = 45 ∨ c = 42 ∨ c = 60 ∨ c = 61 ∨ c = 62 ∨ c = 38 ∨ c = 124
def wOK (z : Nat) (x6 c : Int32) : Prop := ¬ (48 ≤ c ∧ c ≤ 57) → (¬ x6 < 0 → z < 20 ∧ (pTwo c → 1 ≤ z) ∧ (¬ pTwo c → ¬ c = 33 → ¬ c = 32 → z < 19)) ∧ (x6 < 0 → (pTwo c → 2 ≤ z ∧ z ≤ 20) ∧ (c = 33 → 1 ≤ z ∧ z ≤ 20) ∧ (¬ pTwo c → ¬ c = 33 → ¬ c = 32 → z < 20))
def wN (T : MS) (n : Nat) (i t p m f : Int32) : Nat → MS × Int32
  | 0 => (T, -1)
  | k + 1 => (if (ib (48 ≤ ((wN T n i t p m f k).1.2 31 ((60 * i + nI k).toNatClampNeg)) ∧ ((wN T n i t p m f k).1.2 31 ((60 * i + nI k).toNatClampNeg)) ≤ 57)) = 0 then (if (wN T n i t p m f k).2 < 0 then (if (ib (((wN T n i t p m f k).1.2 31 ((60 * i + nI k).toNatClampNeg)) = 43 ∨ ((wN T n i t p m f k).1.2 31 ((60 * i + nI k).toNatClampNeg)) = 45 ∨ ((wN T n i t p m f k).1.2 31 ((60 * i + nI k).toNatClampNeg)) = 42 ∨ ((wN T n i t p m f k).1.2 31 ((60 * i + nI k).toNatClampNeg)) = 60 ∨ ((wN T n i t p m f k).1.2 31 ((60 * i + nI k).toNatClampNeg)) = 61 ∨ ((wN T n i t p m f k).1.2 31 ((60 * i + nI k).toNatClampNeg)) = 62 ∨ ((wN T n i t p m f k).1.2 31 ((60 * i + nI k).toNatClampNeg)) = 38 ∨ ((wN T n i t p m f k).1.2 31 ((60 * i + nI k).toNatClampNeg)) = 124)) = 0 then (if ((wN T n i t p m f k).1.2 31 ((60 * i + nI k).toNatClampNeg)) = 33 then (if (r_take (wN T n i t p m f k).1) = 0 then (s_lay (s_take (wN T n i t p m f k).1) 1) else (s_lay (s_take (wN T n i t p m f k).1) 0)) else (if ((wN T n i t p m f k).1.2 31 ((60 * i + nI k).toNatClampNeg)) = 32 then (wN T n i t p m f k).1 else (s_lay (wN T n i t p m f k).1 (r_named (wN T n i t p m f k).1 n ((wN T n i t p m f k).1.2 31 ((60 * i + nI k).toNatClampNeg)) t p m f)))) else (s_lay (s_take (s_take (wN T n i t p m f k).1)) (m_both ((wN T n i t p m f k).1.2 31 ((60 * i + nI k).toNatClampNeg)) (r_take (s_take (wN T n i t p m f k).1)) (r_take (wN T n i t p m f k).1)))) else (if (ib (((wN T n i t p m f k).1.2 31 ((60 * i + nI k).toNatClampNeg)) = 43 ∨ ((wN T n i t p m f k).1.2 31 ((60 * i + nI k).toNatClampNeg)) = 45 ∨ ((wN T n i t p m f k).1.2 31 ((60 * i + nI k).toNatClampNeg)) = 42 ∨ ((wN T n i t p m f k).1.2 31 ((60 * i + nI k).toNatClampNeg)) = 60 ∨ ((wN T n i t p m f k).1.2 31 ((60 * i + nI k).toNatClampNeg)) = 61 ∨ ((wN T n i t p m f k).1.2 31 ((60 * i + nI k).toNatClampNeg)) = 62 ∨ ((wN T n i t p m f k).1.2 31 ((60 * i + nI k).toNatClampNeg)) = 38 ∨ ((wN T n i t p m f k).1.2 31 ((60 * i + nI k).toNatClampNeg)) = 124)) = 0 then (if ((wN T n i t p m f k).1.2 31 ((60 * i + nI k).toNatClampNeg)) = 33 then (if (r_take (s_lay (wN T n i t p m f k).1 (wN T n i t p m f k).2)) = 0 then (s_lay (s_take (s_lay (wN T n i t p m f k).1 (wN T n i t p m f k).2)) 1) else (s_lay (s_take (s_lay (wN T n i t p m f k).1 (wN T n i t p m f k).2)) 0)) else (if ((wN T n i t p m f k).1.2 31 ((60 * i + nI k).toNatClampNeg)) = 32 then (s_lay (wN T n i t p m f k).1 (wN T n i t p m f k).2) else (s_lay (s_lay (wN T n i t p m f k).1 (wN T n i t p m f k).2) (r_named (s_lay (wN T n i t p m f k).1 (wN T n i t p m f k).2) n ((wN T n i t p m f k).1.2 31 ((60 * i + nI k).toNatClampNeg)) t p m f)))) else (s_lay (s_take (s_take (s_lay (wN T n i t p m f k).1 (wN T n i t p m f k).2))) (m_both ((wN T n i t p m f k).1.2 31 ((60 * i + nI k).toNatClampNeg)) (r_take (s_take (s_lay (wN T n i t p m f k).1 (wN T n i t p m f k).2))) (r_take (s_lay (wN T n i t p m f k).1 (wN T n i t p m f k).2)))))) else (wN T n i t p m f k).1, if (ib (48 ≤ ((wN T n i t p m f k).1.2 31 ((60 * i + nI k).toNatClampNeg)) ∧ ((wN T n i t p m f k).1.2 31 ((60 * i + nI k).toNatClampNeg)) ≤ 57)) = 0 then (if (wN T n i t p m f k).2 < 0 then (wN T n i t p m f k).2 else (-1)) else (if 0 ≤ (wN T n i t p m f k).2 then (((10 * (wN T n i t p m f k).2) + ((wN T n i t p m f k).1.2 31 ((60 * i + nI k).toNatClampNeg))) - 48) else (((wN T n i t p m f k).1.2 31 ((60 * i + nI k).toNatClampNeg)) - 48)))
theorem wN_32 (T : MS) (n : Nat) (i t p m f : Int32) : ∀ k, (wN T n i t p m f k).1.2 32 = T.2 32
  | 0 => rfl
  | k + 1 => by
    have ih := wN_32 T n i t p m f k
    simp only [wN]
    (repeat' split) <;> exact ih
theorem wN_28 (T : MS) (n : Nat) (i t p m f : Int32) : ∀ k, (wN T n i t p m f k).1.1 28 = T.1 28
  | 0 => rfl
  | k + 1 => by
    have ih := wN_28 T n i t p m f k
    simp only [wN]
    (repeat' split) <;> exact ih
def s_work (S : MS) (n q : Nat) (i t p m f : Int32) : MS := if (wN (vf_upd S.1 35 0, S.2) n i t p m f q).2 < 0 then (wN (vf_upd S.1 35 0, S.2) n i t p m f q).1 else s_lay (wN (vf_upd S.1 35 0, S.2) n i t p m f q).1 (wN (vf_upd S.1 35 0, S.2) n i t p m f q).2
def r_work (S : MS) (n q : Nat) (i t p m f : Int32) : Int32 := (s_work S n q i t p m f).2 34 0
theorem k_workedOut {S : MS} {i : Int32} {t : Int32} {p : Int32} {m : Int32} {f : Int32} {d : Nat} {n q : Nat} (hNl : S.1 28 = nI n) (hn : n ≤ 80) (hN : S.2 32 i.toNatClampNeg = nI q) (hq : q ≤ 60) (hi : vp_in i 10) (hp : vp_in p 12) (ht : vp_in (m_hour t) 12) (hX : ∀ k, k < q → vp_in (60 * i + nI k) 600) (hW : ∀ k, k < q → ∃ z, (wN (vf_upd S.1 35 0, S.2) n i t p m f k).1.1 35 = nI z ∧ wOK z (wN (vf_upd S.1 35 0, S.2) n i t p m f k).2 ((wN (vf_upd S.1 35 0, S.2) n i t p m f k).1.2 31 (60 * i + nI k).toNatClampNeg)) (hE : ¬ (wN (vf_upd S.1 35 0, S.2) n i t p m f q).2 < 0 → vp_in ((wN (vf_upd S.1 35 0, S.2) n i t p m f q).1.1 35) 20) : CM Y_X12_workedOut (d + 2) [.int i, .int t, .int p, .int m, .int f] S (fun r S2 => r = some (.int (r_work S n q i t p m f)) ∧ S2 = s_work S n q i t p m f) := by
  refine CM.of 5 rfl (fun _ => Nat.le_of_ble_eq_true rfl) (by simp [Value.category]) ?_
  intro G m0 ad h0 h post hM hF fin
  show J Y_X12_workedOut (d + 2) G 0 0 0 [some (.ref m0), some (.int i), some (.int t), some (.int p), some (.int m), some (.int f), none, none, none, none, none] [] h post
  refine J.aload_n 1 dX12_workedOut_0 rfl rfl ?_
  refine J.iconst 0 2 dX12_workedOut_1 rfl (by decide) ?_
  refine mp_189 hM hF rfl 5 dX12_workedOut_2 rfl (fun h hM hF => ?_)
  refine J.iconst (-1) 6 dX12_workedOut_5 rfl (by decide) ?_
  refine J.ist_6 8 dX12_workedOut_6 rfl (by decide) ?_
  refine J.iconst 0 9 dX12_workedOut_8 rfl (by decide) ?_
  refine J.ist_7 11 dX12_workedOut_9 rfl (by decide) ?_
  have loop11 : ∀ (j k : Nat) (x6 x7 : Int32), k ≤ q → q + 1 ≤ k + j → x6 = (wN (vf_upd S.1 35 0, S.2) n i t p m f k).2 → x7 = nI k → ∀ Sx : MS, Sx = (wN (vf_upd S.1 35 0, S.2) n i t p m f k).1 → ∀ h, MR m0 ad Sx h → MF m0 ad h0 h → J Y_X12_workedOut (d + 2) G 0 0 11 [some (.ref m0), some (.int i), some (.int t), some (.int p), some (.int m), some (.int f), some (.int x6), some (.int x7), none, none, none] [] h post := by
    intro j
    induction j with
    | zero => intro k _ _ g1 g2; exact absurd g2 (by omega)
    | succ j ih =>
      intro k x6 x7 g1 g2 e6 e7 Sx eSx h hM hF
      have q7 : x7.toNatClampNeg = k := by rw [e7]; exact nI_clamp (by omega)
      have hNx : Sx.2 32 i.toNatClampNeg = nI q := by rw [eSx, wN_32]; exact hN
      have hNn : Sx.1 28 = nI n := by rw [eSx, wN_28]; exact hNl
      refine J.iload 13 dX12_workedOut_11 rfl rfl ?_
      refine J.aload_n 14 dX12_workedOut_13 rfl rfl ?_
      refine mg_92 hM rfl 17 dX12_workedOut_14 rfl ?_
      refine J.iload_n 18 dX12_workedOut_17 rfl rfl ?_
      refine ml_ia hM i.toNatClampNeg rfl (x := Sx.2 32 i.toNatClampNeg) rfl rfl rfl (by assumption) 19 dX12_workedOut_18 rfl ?_
      refine J.icmp_ge 178 22 dX12_workedOut_19 (by decide) rfl (fun c1 => ?_) (fun c1 => ?_)
      · skip
        have hk : k = q := Nat.le_antisymm g1 ((nI_leI (by omega) (by omega)).mp (by rw [← hNx, ← e7]; exact c1))
        refine J.iload 180 dX12_workedOut_178 rfl rfl ?_
        refine J.if_lt 189 183 dX12_workedOut_180 (by decide) rfl (fun c2 => ?_) (fun c2 => ?_)
        · skip
          refine J.aload_n 190 dX12_workedOut_189 rfl rfl ?_
          refine mg_95 hM rfl 193 dX12_workedOut_190 rfl ?_
          refine J.iconst 0 194 dX12_workedOut_193 rfl (by decide) ?_
          refine ml_ia hM 0 (by decide) (x := Sx.2 34 0) rfl rfl rfl (by unfold vp_in; decide) 195 dX12_workedOut_194 rfl ?_
          have hs : Sx = s_work S n q i t p m f := by
            rw [s_work, ← hk, ← e6, ← eSx]
            simp [c1, Int32.not_lt.mpr c1, c2, Int32.not_le.mpr c2]
          exact J.iret dX12_workedOut_195 rfl (fin _ _ _ ⟨by rw [r_work, ← hs], hs⟩ hM hF)
        · skip
          refine J.aload_n 184 dX12_workedOut_183 rfl rfl ?_
          refine J.iload 186 dX12_workedOut_184 rfl rfl ?_
          refine mc_192 hM hF (k_lay (S := Sx) (v := x6) (by rw [eSx, hk]; exact hE (by rw [← hk, ← e6]; assumption))) rfl 189 dX12_workedOut_186 rfl rfl rfl (Nat.le_of_ble_eq_true rfl) (fun r S2 hp h hM hF => ?_)
          obtain ⟨rfl, hp⟩ := hp
          replace hp := hp.symm
          subst hp
          refine J.aload_n 190 dX12_workedOut_189 rfl rfl ?_
          refine mg_95 hM rfl 193 dX12_workedOut_190 rfl ?_
          refine J.iconst 0 194 dX12_workedOut_193 rfl (by decide) ?_
          refine ml_ia hM 0 (by decide) (x := (s_lay Sx x6).2 34 0) rfl rfl rfl (by unfold vp_in; decide) 195 dX12_workedOut_194 rfl ?_
          have hs : s_lay Sx x6 = s_work S n q i t p m f := by
            rw [s_work, ← hk, ← e6, ← eSx]
            simp [c1, Int32.not_lt.mpr c1, c2, Int32.not_lt.mp c2]
          exact J.iret dX12_workedOut_195 rfl (fin _ _ _ ⟨by rw [r_work, ← hs], hs⟩ hM hF)
      · skip
        have hk : k < q := Nat.lt_of_not_le (fun z => c1 (by rw [hNx, e7]; exact nI_le z (by omega)))
        have hin : vp_in x7 60 := by rw [e7]; exact vp_in_nI (by omega) (by decide)
        obtain ⟨z, hz, hok⟩ := hW k hk
        rw [← eSx] at hz hok
        rw [← e6] at hok
        refine J.aload_n 23 dX12_workedOut_22 rfl rfl ?_
        refine mg_89 hM rfl 26 dX12_workedOut_23 rfl ?_
        refine J.bipush 60 28 dX12_workedOut_26 rfl (by decide) ?_
        refine J.iload_n 29 dX12_workedOut_28 rfl rfl ?_
        refine J.imul 30 dX12_workedOut_29 rfl ?_
        refine J.iload 32 dX12_workedOut_30 rfl rfl ?_
        refine J.iadd 33 dX12_workedOut_32 rfl ?_
        refine ml_ia hM ((60 * i + nI k).toNatClampNeg) (by rw [e7]) (x := Sx.2 31 ((60 * i + nI k).toNatClampNeg)) rfl rfl rfl (by rw [e7]; exact hX k hk) 34 dX12_workedOut_33 rfl ?_
        refine J.ist_8 36 dX12_workedOut_34 rfl (by decide) ?_
        refine J.iload 38 dX12_workedOut_36 rfl rfl ?_
        refine mc_173 (k_isDigit (c := Sx.2 31 ((60 * i + nI k).toNatClampNeg))) rfl 41 dX12_workedOut_38 rfl rfl rfl (Nat.le_of_ble_eq_true rfl) ?_
        have K1 : ∀ (w1_6 : Int32), w1_6 = (if (ib (48 ≤ (Sx.2 31 ((60 * i + nI k).toNatClampNeg)) ∧ (Sx.2 31 ((60 * i + nI k).toNatClampNeg)) ≤ 57)) = 0 then (if x6 < 0 then x6 else (-1)) else (if 0 ≤ x6 then (((10 * x6) + (Sx.2 31 ((60 * i + nI k).toNatClampNeg))) - 48) else ((Sx.2 31 ((60 * i + nI k).toNatClampNeg)) - 48))) → ∀ S1 : MS, S1 = (if (ib (48 ≤ (Sx.2 31 ((60 * i + nI k).toNatClampNeg)) ∧ (Sx.2 31 ((60 * i + nI k).toNatClampNeg)) ≤ 57)) = 0 then (if x6 < 0 then (if (ib ((Sx.2 31 ((60 * i + nI k).toNatClampNeg)) = 43 ∨ (Sx.2 31 ((60 * i + nI k).toNatClampNeg)) = 45 ∨ (Sx.2 31 ((60 * i + nI k).toNatClampNeg)) = 42 ∨ (Sx.2 31 ((60 * i + nI k).toNatClampNeg)) = 60 ∨ (Sx.2 31 ((60 * i + nI k).toNatClampNeg)) = 61 ∨ (Sx.2 31 ((60 * i + nI k).toNatClampNeg)) = 62 ∨ (Sx.2 31 ((60 * i + nI k).toNatClampNeg)) = 38 ∨ (Sx.2 31 ((60 * i + nI k).toNatClampNeg)) = 124)) = 0 then (if (Sx.2 31 ((60 * i + nI k).toNatClampNeg)) = 33 then (if (r_take Sx) = 0 then (s_lay (s_take Sx) 1) else (s_lay (s_take Sx) 0)) else (if (Sx.2 31 ((60 * i + nI k).toNatClampNeg)) = 32 then Sx else (s_lay Sx (r_named Sx n (Sx.2 31 ((60 * i + nI k).toNatClampNeg)) t p m f)))) else (s_lay (s_take (s_take Sx)) (m_both (Sx.2 31 ((60 * i + nI k).toNatClampNeg)) (r_take (s_take Sx)) (r_take Sx)))) else (if (ib ((Sx.2 31 ((60 * i + nI k).toNatClampNeg)) = 43 ∨ (Sx.2 31 ((60 * i + nI k).toNatClampNeg)) = 45 ∨ (Sx.2 31 ((60 * i + nI k).toNatClampNeg)) = 42 ∨ (Sx.2 31 ((60 * i + nI k).toNatClampNeg)) = 60 ∨ (Sx.2 31 ((60 * i + nI k).toNatClampNeg)) = 61 ∨ (Sx.2 31 ((60 * i + nI k).toNatClampNeg)) = 62 ∨ (Sx.2 31 ((60 * i + nI k).toNatClampNeg)) = 38 ∨ (Sx.2 31 ((60 * i + nI k).toNatClampNeg)) = 124)) = 0 then (if (Sx.2 31 ((60 * i + nI k).toNatClampNeg)) = 33 then (if (r_take (s_lay Sx x6)) = 0 then (s_lay (s_take (s_lay Sx x6)) 1) else (s_lay (s_take (s_lay Sx x6)) 0)) else (if (Sx.2 31 ((60 * i + nI k).toNatClampNeg)) = 32 then (s_lay Sx x6) else (s_lay (s_lay Sx x6) (r_named (s_lay Sx x6) n (Sx.2 31 ((60 * i + nI k).toNatClampNeg)) t p m f)))) else (s_lay (s_take (s_take (s_lay Sx x6))) (m_both (Sx.2 31 ((60 * i + nI k).toNatClampNeg)) (r_take (s_take (s_lay Sx x6))) (r_take (s_lay Sx x6)))))) else Sx) → ∀ h, MR m0 ad S1 h → MF m0 ad h0 h → J Y_X12_workedOut (d + 2) G 0 0 172 [some (.ref m0), some (.int i), some (.int t), some (.int p), some (.int m), some (.int f), some (.int w1_6), some (.int x7), some (.int (Sx.2 31 ((60 * i + nI k).toNatClampNeg))), none, none] [] h post := by
          intro w1_6 ew1_6 S1 eS1 h hM hF
          refine J.iinc_7 1 175 dX12_workedOut_172 rfl (by decide) (by decide) ?_
          refine J.goto 11 dX12_workedOut_175 (by decide) ?_
          refine J.fg_8 ?_
          exact ih (k + 1) _ _ (by omega) (by omega) (by rw [ew1_6, e6, eSx]; rfl) (by rw [e7]; exact nI_1 k) _ (by rw [eS1, e6, eSx]; rfl) _ hM hF
        refine J.if_eq 73 44 dX12_workedOut_41 (by decide) rfl (fun c3 => ?_) (fun c3 => ?_)
        · skip
          refine J.iload 75 dX12_workedOut_73 rfl rfl ?_
          refine J.if_lt 87 78 dX12_workedOut_75 (by decide) rfl (fun c4 => ?_) (fun c4 => ?_)
          · skip
            refine J.iload 89 dX12_workedOut_87 rfl rfl ?_
            refine mc_179 (k_isTwo (c := Sx.2 31 ((60 * i + nI k).toNatClampNeg))) rfl 92 dX12_workedOut_89 rfl rfl rfl (Nat.le_of_ble_eq_true rfl) ?_
            refine J.if_eq 123 95 dX12_workedOut_92 (by decide) rfl (fun c5 => ?_) (fun c5 => ?_)
            · skip
              refine J.iload 125 dX12_workedOut_123 rfl rfl ?_
              refine J.bipush 33 127 dX12_workedOut_125 rfl (by decide) ?_
              refine J.icmp_ne 149 130 dX12_workedOut_127 (by decide) rfl (fun c6 => ?_) (fun c6 => ?_)
              · skip
                refine J.iload 151 dX12_workedOut_149 rfl rfl ?_
                refine J.bipush 32 153 dX12_workedOut_151 rfl (by decide) ?_
                refine J.icmp_eq 172 156 dX12_workedOut_153 (by decide) rfl (fun c7 => ?_) (fun c7 => ?_)
                · skip
                  exact K1 _ (by first | (simp only [if_neg c1, if_pos c3, if_pos c4, if_pos c5, if_neg c6, if_pos c7]; done) | (simp only [if_neg c1, if_pos c3, if_pos c4, if_pos c5, if_neg c6, if_pos c7]; rfl) | (simp [c1, Int32.not_le.mp c1, c3, ib_0.mp c3, c4, Int32.not_le.mpr c4, c5, ib_0.mp c5, c6, c7]; done) | contradiction) _ (by first | (simp only [if_neg c1, if_pos c3, if_pos c4, if_pos c5, if_neg c6, if_pos c7]; done) | (simp only [if_neg c1, if_pos c3, if_pos c4, if_pos c5, if_neg c6, if_pos c7]; rfl) | (simp [c1, Int32.not_le.mp c1, c3, ib_0.mp c3, c4, Int32.not_le.mpr c4, c5, ib_0.mp c5, c6, c7]; done) | contradiction) _ hM hF
                · skip
                  refine J.aload_n 157 dX12_workedOut_156 rfl rfl ?_
                  refine J.aload_n 158 dX12_workedOut_157 rfl rfl ?_
                  refine J.iload 160 dX12_workedOut_158 rfl rfl ?_
                  refine J.iload_n 161 dX12_workedOut_160 rfl rfl ?_
                  refine J.iload_n 162 dX12_workedOut_161 rfl rfl ?_
                  refine J.iload 164 dX12_workedOut_162 rfl rfl ?_
                  refine J.iload 166 dX12_workedOut_164 rfl rfl ?_
                  refine mc_203 hM hF (k_named (S := Sx) (c := Sx.2 31 ((60 * i + nI k).toNatClampNeg)) (t := t) (p := p) (m := m) (f := f) (n := n) hNn hn hp ht) rfl 169 dX12_workedOut_166 rfl rfl rfl (Nat.le_of_ble_eq_true rfl) (fun r S2 hp h hM hF => ?_)
                  obtain ⟨rfl, hp⟩ := hp
                  replace hp := hp.symm
                  subst hp
                  refine mc_192 hM hF (k_lay (S := Sx) (v := r_named Sx n (Sx.2 31 ((60 * i + nI k).toNatClampNeg)) t p m f) (by obtain ⟨u1, u2, u3⟩ := (hok (ib_0.mp (by assumption))).2 (by assumption); have v := u3 (ib_0.mp (by assumption)) (by assumption) (by assumption); exact vpz hz (by omega))) rfl 172 dX12_workedOut_169 rfl rfl rfl (Nat.le_of_ble_eq_true rfl) (fun r S2 hp h hM hF => ?_)
                  obtain ⟨rfl, hp⟩ := hp
                  replace hp := hp.symm
                  subst hp
                  exact K1 _ (by first | (simp only [if_neg c1, if_pos c3, if_pos c4, if_pos c5, if_neg c6, if_neg c7]; done) | (simp only [if_neg c1, if_pos c3, if_pos c4, if_pos c5, if_neg c6, if_neg c7]; rfl) | (simp [c1, Int32.not_le.mp c1, c3, ib_0.mp c3, c4, Int32.not_le.mpr c4, c5, ib_0.mp c5, c6, c7]; done) | contradiction) _ (by first | (simp only [if_neg c1, if_pos c3, if_pos c4, if_pos c5, if_neg c6, if_neg c7]; done) | (simp only [if_neg c1, if_pos c3, if_pos c4, if_pos c5, if_neg c6, if_neg c7]; rfl) | (simp [c1, Int32.not_le.mp c1, c3, ib_0.mp c3, c4, Int32.not_le.mpr c4, c5, ib_0.mp c5, c6, c7]; done) | contradiction) _ hM hF
              · skip
                refine J.aload_n 131 dX12_workedOut_130 rfl rfl ?_
                refine J.aload_n 132 dX12_workedOut_131 rfl rfl ?_
                refine mc_196 hM hF (k_take (S := Sx) (by obtain ⟨u1, u2, u3⟩ := (hok (ib_0.mp (by assumption))).2 (by assumption); have v := u2 (by assumption); exact vpz (zsub hz (by omega)) (by omega))) rfl 135 dX12_workedOut_132 rfl rfl rfl (Nat.le_of_ble_eq_true rfl) (fun r S2 hp h hM hF => ?_)
                obtain ⟨rfl, hp⟩ := hp
                replace hp := hp.symm
                subst hp
                refine J.if_ne 142 138 dX12_workedOut_135 (by decide) rfl (fun c8 => ?_) (fun c8 => ?_)
                · skip
                  refine J.iconst 0 143 dX12_workedOut_142 rfl (by decide) ?_
                  refine mc_192 hM hF (k_lay (S := s_take Sx) (v := 0) (by obtain ⟨u1, u2, u3⟩ := (hok (ib_0.mp (by assumption))).2 (by assumption); have v := u2 (by assumption); exact vpz (zsub hz (by omega)) (by omega))) rfl 146 dX12_workedOut_143 rfl rfl rfl (Nat.le_of_ble_eq_true rfl) (fun r S2 hp h hM hF => ?_)
                  obtain ⟨rfl, hp⟩ := hp
                  replace hp := hp.symm
                  subst hp
                  refine J.goto 172 dX12_workedOut_146 (by decide) ?_
                  exact K1 _ (by first | (simp only [if_neg c1, if_pos c3, if_pos c4, if_pos c5, if_pos c6, if_neg c8]; done) | (simp only [if_neg c1, if_pos c3, if_pos c4, if_pos c5, if_pos c6, if_neg c8]; rfl) | (simp [c1, Int32.not_le.mp c1, c3, ib_0.mp c3, c4, Int32.not_le.mpr c4, c5, ib_0.mp c5, c6, c8]; done) | contradiction) _ (by first | (simp only [if_neg c1, if_pos c3, if_pos c4, if_pos c5, if_pos c6, if_neg c8]; done) | (simp only [if_neg c1, if_pos c3, if_pos c4, if_pos c5, if_pos c6, if_neg c8]; rfl) | (simp [c1, Int32.not_le.mp c1, c3, ib_0.mp c3, c4, Int32.not_le.mpr c4, c5, ib_0.mp c5, c6, c8]; done) | contradiction) _ hM hF
                · skip
                  refine J.iconst 1 139 dX12_workedOut_138 rfl (by decide) ?_
                  refine J.goto 143 dX12_workedOut_139 (by decide) ?_
                  refine mc_192 hM hF (k_lay (S := s_take Sx) (v := 1) (by obtain ⟨u1, u2, u3⟩ := (hok (ib_0.mp (by assumption))).2 (by assumption); have v := u2 (by assumption); exact vpz (zsub hz (by omega)) (by omega))) rfl 146 dX12_workedOut_143 rfl rfl rfl (Nat.le_of_ble_eq_true rfl) (fun r S2 hp h hM hF => ?_)
                  obtain ⟨rfl, hp⟩ := hp
                  replace hp := hp.symm
                  subst hp
                  refine J.goto 172 dX12_workedOut_146 (by decide) ?_
                  exact K1 _ (by first | (simp only [if_neg c1, if_pos c3, if_pos c4, if_pos c5, if_pos c6, if_pos c8]; done) | (simp only [if_neg c1, if_pos c3, if_pos c4, if_pos c5, if_pos c6, if_pos c8]; rfl) | (simp [c1, Int32.not_le.mp c1, c3, ib_0.mp c3, c4, Int32.not_le.mpr c4, c5, ib_0.mp c5, c6, c8]; done) | contradiction) _ (by first | (simp only [if_neg c1, if_pos c3, if_pos c4, if_pos c5, if_pos c6, if_pos c8]; done) | (simp only [if_neg c1, if_pos c3, if_pos c4, if_pos c5, if_pos c6, if_pos c8]; rfl) | (simp [c1, Int32.not_le.mp c1, c3, ib_0.mp c3, c4, Int32.not_le.mpr c4, c5, ib_0.mp c5, c6, c8]; done) | contradiction) _ hM hF
            · skip
              refine J.aload_n 96 dX12_workedOut_95 rfl rfl ?_
              refine mc_196 hM hF (k_take (S := Sx) (by obtain ⟨u1, u2, u3⟩ := (hok (ib_0.mp (by assumption))).2 (by assumption); have v := u1 (ib_n.mp (by assumption)); exact vpz (zsub hz (by omega)) (by omega))) rfl 99 dX12_workedOut_96 rfl rfl rfl (Nat.le_of_ble_eq_true rfl) (fun r S2 hp h hM hF => ?_)
              obtain ⟨rfl, hp⟩ := hp
              replace hp := hp.symm
              subst hp
              refine J.ist_9 101 dX12_workedOut_99 rfl (by decide) ?_
              refine J.aload_n 102 dX12_workedOut_101 rfl rfl ?_
              refine mc_196 hM hF (k_take (S := s_take Sx) (by obtain ⟨u1, u2, u3⟩ := (hok (ib_0.mp (by assumption))).2 (by assumption); have v := u1 (ib_n.mp (by assumption)); exact vpz (zsub (zsub hz (by omega)) (by omega)) (by omega))) rfl 105 dX12_workedOut_102 rfl rfl rfl (Nat.le_of_ble_eq_true rfl) (fun r S2 hp h hM hF => ?_)
              obtain ⟨rfl, hp⟩ := hp
              replace hp := hp.symm
              subst hp
              refine J.ist_10 107 dX12_workedOut_105 rfl (by decide) ?_
              refine J.aload_n 108 dX12_workedOut_107 rfl rfl ?_
              refine J.iload 110 dX12_workedOut_108 rfl rfl ?_
              refine J.iload 112 dX12_workedOut_110 rfl rfl ?_
              refine J.iload 114 dX12_workedOut_112 rfl rfl ?_
              refine mc_199 (k_both (c := Sx.2 31 ((60 * i + nI k).toNatClampNeg)) (a := r_take (s_take Sx)) (b := r_take Sx)) rfl 117 dX12_workedOut_114 rfl rfl rfl (Nat.le_of_ble_eq_true rfl) ?_
              refine mc_192 hM hF (k_lay (S := s_take (s_take Sx)) (v := m_both (Sx.2 31 ((60 * i + nI k).toNatClampNeg)) (r_take (s_take Sx)) (r_take Sx)) (by obtain ⟨u1, u2, u3⟩ := (hok (ib_0.mp (by assumption))).2 (by assumption); have v := u1 (ib_n.mp (by assumption)); exact vpz (zsub (zsub hz (by omega)) (by omega)) (by omega))) rfl 120 dX12_workedOut_117 rfl rfl rfl (Nat.le_of_ble_eq_true rfl) (fun r S2 hp h hM hF => ?_)
              obtain ⟨rfl, hp⟩ := hp
              replace hp := hp.symm
              subst hp
              refine J.goto 172 dX12_workedOut_120 (by decide) ?_
              refine J.fg_9 ?_
              refine J.fg_10 ?_
              exact K1 _ (by first | (simp only [if_neg c1, if_pos c3, if_pos c4, if_neg c5]; done) | (simp only [if_neg c1, if_pos c3, if_pos c4, if_neg c5]; rfl) | (simp [c1, Int32.not_le.mp c1, c3, ib_0.mp c3, c4, Int32.not_le.mpr c4, c5, ib_n.mp c5]; done) | contradiction) _ (by first | (simp only [if_neg c1, if_pos c3, if_pos c4, if_neg c5]; done) | (simp only [if_neg c1, if_pos c3, if_pos c4, if_neg c5]; rfl) | (simp [c1, Int32.not_le.mp c1, c3, ib_0.mp c3, c4, Int32.not_le.mpr c4, c5, ib_n.mp c5]; done) | contradiction) _ hM hF
          · skip
            refine J.aload_n 79 dX12_workedOut_78 rfl rfl ?_
            refine J.iload 81 dX12_workedOut_79 rfl rfl ?_
            refine mc_192 hM hF (k_lay (S := Sx) (v := x6) (by obtain ⟨u1, u2, u3⟩ := (hok (ib_0.mp (by assumption))).1 (by assumption); exact vpz hz (by omega))) rfl 84 dX12_workedOut_81 rfl rfl rfl (Nat.le_of_ble_eq_true rfl) (fun r S2 hp h hM hF => ?_)
            obtain ⟨rfl, hp⟩ := hp
            replace hp := hp.symm
            subst hp
            refine J.iconst (-1) 85 dX12_workedOut_84 rfl (by decide) ?_
            refine J.ist_6 87 dX12_workedOut_85 rfl (by decide) ?_
            refine J.iload 89 dX12_workedOut_87 rfl rfl ?_
            refine mc_179 (k_isTwo (c := Sx.2 31 ((60 * i + nI k).toNatClampNeg))) rfl 92 dX12_workedOut_89 rfl rfl rfl (Nat.le_of_ble_eq_true rfl) ?_
            refine J.if_eq 123 95 dX12_workedOut_92 (by decide) rfl (fun c9 => ?_) (fun c9 => ?_)
            · skip
              refine J.iload 125 dX12_workedOut_123 rfl rfl ?_
              refine J.bipush 33 127 dX12_workedOut_125 rfl (by decide) ?_
              refine J.icmp_ne 149 130 dX12_workedOut_127 (by decide) rfl (fun c10 => ?_) (fun c10 => ?_)
              · skip
                refine J.iload 151 dX12_workedOut_149 rfl rfl ?_
                refine J.bipush 32 153 dX12_workedOut_151 rfl (by decide) ?_
                refine J.icmp_eq 172 156 dX12_workedOut_153 (by decide) rfl (fun c11 => ?_) (fun c11 => ?_)
                · skip
                  exact K1 _ (by first | (simp only [if_neg c1, if_pos c3, if_neg c4, if_pos c9, if_neg c10, if_pos c11]; done) | (simp only [if_neg c1, if_pos c3, if_neg c4, if_pos c9, if_neg c10, if_pos c11]; rfl) | (simp [c1, Int32.not_le.mp c1, c3, ib_0.mp c3, c4, Int32.not_lt.mp c4, c9, ib_0.mp c9, c10, c11]; done) | contradiction) _ (by first | (simp only [if_neg c1, if_pos c3, if_neg c4, if_pos c9, if_neg c10, if_pos c11]; done) | (simp only [if_neg c1, if_pos c3, if_neg c4, if_pos c9, if_neg c10, if_pos c11]; rfl) | (simp [c1, Int32.not_le.mp c1, c3, ib_0.mp c3, c4, Int32.not_lt.mp c4, c9, ib_0.mp c9, c10, c11]; done) | contradiction) _ hM hF
                · skip
                  refine J.aload_n 157 dX12_workedOut_156 rfl rfl ?_
                  refine J.aload_n 158 dX12_workedOut_157 rfl rfl ?_
                  refine J.iload 160 dX12_workedOut_158 rfl rfl ?_
                  refine J.iload_n 161 dX12_workedOut_160 rfl rfl ?_
                  refine J.iload_n 162 dX12_workedOut_161 rfl rfl ?_
                  refine J.iload 164 dX12_workedOut_162 rfl rfl ?_
                  refine J.iload 166 dX12_workedOut_164 rfl rfl ?_
                  refine mc_203 hM hF (k_named (S := s_lay Sx x6) (c := Sx.2 31 ((60 * i + nI k).toNatClampNeg)) (t := t) (p := p) (m := m) (f := f) (n := n) hNn hn hp ht) rfl 169 dX12_workedOut_166 rfl rfl rfl (Nat.le_of_ble_eq_true rfl) (fun r S2 hp h hM hF => ?_)
                  obtain ⟨rfl, hp⟩ := hp
                  replace hp := hp.symm
                  subst hp
                  refine mc_192 hM hF (k_lay (S := s_lay Sx x6) (v := r_named (s_lay Sx x6) n (Sx.2 31 ((60 * i + nI k).toNatClampNeg)) t p m f) (by obtain ⟨u1, u2, u3⟩ := (hok (ib_0.mp (by assumption))).1 (by assumption); have v := u3 (ib_0.mp (by assumption)) (by assumption) (by assumption); exact vpz (zadd hz) (by omega))) rfl 172 dX12_workedOut_169 rfl rfl rfl (Nat.le_of_ble_eq_true rfl) (fun r S2 hp h hM hF => ?_)
                  obtain ⟨rfl, hp⟩ := hp
                  replace hp := hp.symm
                  subst hp
                  exact K1 _ (by first | (simp only [if_neg c1, if_pos c3, if_neg c4, if_pos c9, if_neg c10, if_neg c11]; done) | (simp only [if_neg c1, if_pos c3, if_neg c4, if_pos c9, if_neg c10, if_neg c11]; rfl) | (simp [c1, Int32.not_le.mp c1, c3, ib_0.mp c3, c4, Int32.not_lt.mp c4, c9, ib_0.mp c9, c10, c11]; done) | contradiction) _ (by first | (simp only [if_neg c1, if_pos c3, if_neg c4, if_pos c9, if_neg c10, if_neg c11]; done) | (simp only [if_neg c1, if_pos c3, if_neg c4, if_pos c9, if_neg c10, if_neg c11]; rfl) | (simp [c1, Int32.not_le.mp c1, c3, ib_0.mp c3, c4, Int32.not_lt.mp c4, c9, ib_0.mp c9, c10, c11]; done) | contradiction) _ hM hF
              · skip
                refine J.aload_n 131 dX12_workedOut_130 rfl rfl ?_
                refine J.aload_n 132 dX12_workedOut_131 rfl rfl ?_
                refine mc_196 hM hF (k_take (S := s_lay Sx x6) (by obtain ⟨u1, u2, u3⟩ := (hok (ib_0.mp (by assumption))).1 (by assumption); exact vpz (zsub (zadd hz) (by omega)) (by omega))) rfl 135 dX12_workedOut_132 rfl rfl rfl (Nat.le_of_ble_eq_true rfl) (fun r S2 hp h hM hF => ?_)
                obtain ⟨rfl, hp⟩ := hp
                replace hp := hp.symm
                subst hp
                refine J.if_ne 142 138 dX12_workedOut_135 (by decide) rfl (fun c12 => ?_) (fun c12 => ?_)
                · skip
                  refine J.iconst 0 143 dX12_workedOut_142 rfl (by decide) ?_
                  refine mc_192 hM hF (k_lay (S := s_take (s_lay Sx x6)) (v := 0) (by obtain ⟨u1, u2, u3⟩ := (hok (ib_0.mp (by assumption))).1 (by assumption); exact vpz (zsub (zadd hz) (by omega)) (by omega))) rfl 146 dX12_workedOut_143 rfl rfl rfl (Nat.le_of_ble_eq_true rfl) (fun r S2 hp h hM hF => ?_)
                  obtain ⟨rfl, hp⟩ := hp
                  replace hp := hp.symm
                  subst hp
                  refine J.goto 172 dX12_workedOut_146 (by decide) ?_
                  exact K1 _ (by first | (simp only [if_neg c1, if_pos c3, if_neg c4, if_pos c9, if_pos c10, if_neg c12]; done) | (simp only [if_neg c1, if_pos c3, if_neg c4, if_pos c9, if_pos c10, if_neg c12]; rfl) | (simp [c1, Int32.not_le.mp c1, c3, ib_0.mp c3, c4, Int32.not_lt.mp c4, c9, ib_0.mp c9, c10, c12]; done) | contradiction) _ (by first | (simp only [if_neg c1, if_pos c3, if_neg c4, if_pos c9, if_pos c10, if_neg c12]; done) | (simp only [if_neg c1, if_pos c3, if_neg c4, if_pos c9, if_pos c10, if_neg c12]; rfl) | (simp [c1, Int32.not_le.mp c1, c3, ib_0.mp c3, c4, Int32.not_lt.mp c4, c9, ib_0.mp c9, c10, c12]; done) | contradiction) _ hM hF
                · skip
                  refine J.iconst 1 139 dX12_workedOut_138 rfl (by decide) ?_
                  refine J.goto 143 dX12_workedOut_139 (by decide) ?_
                  refine mc_192 hM hF (k_lay (S := s_take (s_lay Sx x6)) (v := 1) (by obtain ⟨u1, u2, u3⟩ := (hok (ib_0.mp (by assumption))).1 (by assumption); exact vpz (zsub (zadd hz) (by omega)) (by omega))) rfl 146 dX12_workedOut_143 rfl rfl rfl (Nat.le_of_ble_eq_true rfl) (fun r S2 hp h hM hF => ?_)
                  obtain ⟨rfl, hp⟩ := hp
                  replace hp := hp.symm
                  subst hp
                  refine J.goto 172 dX12_workedOut_146 (by decide) ?_
                  exact K1 _ (by first | (simp only [if_neg c1, if_pos c3, if_neg c4, if_pos c9, if_pos c10, if_pos c12]; done) | (simp only [if_neg c1, if_pos c3, if_neg c4, if_pos c9, if_pos c10, if_pos c12]; rfl) | (simp [c1, Int32.not_le.mp c1, c3, ib_0.mp c3, c4, Int32.not_lt.mp c4, c9, ib_0.mp c9, c10, c12]; done) | contradiction) _ (by first | (simp only [if_neg c1, if_pos c3, if_neg c4, if_pos c9, if_pos c10, if_pos c12]; done) | (simp only [if_neg c1, if_pos c3, if_neg c4, if_pos c9, if_pos c10, if_pos c12]; rfl) | (simp [c1, Int32.not_le.mp c1, c3, ib_0.mp c3, c4, Int32.not_lt.mp c4, c9, ib_0.mp c9, c10, c12]; done) | contradiction) _ hM hF
            · skip
              refine J.aload_n 96 dX12_workedOut_95 rfl rfl ?_
              refine mc_196 hM hF (k_take (S := s_lay Sx x6) (by obtain ⟨u1, u2, u3⟩ := (hok (ib_0.mp (by assumption))).1 (by assumption); have v := u2 (ib_n.mp (by assumption)); exact vpz (zsub (zadd hz) (by omega)) (by omega))) rfl 99 dX12_workedOut_96 rfl rfl rfl (Nat.le_of_ble_eq_true rfl) (fun r S2 hp h hM hF => ?_)
              obtain ⟨rfl, hp⟩ := hp
              replace hp := hp.symm
              subst hp
              refine J.ist_9 101 dX12_workedOut_99 rfl (by decide) ?_
              refine J.aload_n 102 dX12_workedOut_101 rfl rfl ?_
              refine mc_196 hM hF (k_take (S := s_take (s_lay Sx x6)) (by obtain ⟨u1, u2, u3⟩ := (hok (ib_0.mp (by assumption))).1 (by assumption); have v := u2 (ib_n.mp (by assumption)); exact vpz (zsub (zsub (zadd hz) (by omega)) (by omega)) (by omega))) rfl 105 dX12_workedOut_102 rfl rfl rfl (Nat.le_of_ble_eq_true rfl) (fun r S2 hp h hM hF => ?_)
              obtain ⟨rfl, hp⟩ := hp
              replace hp := hp.symm
              subst hp
              refine J.ist_10 107 dX12_workedOut_105 rfl (by decide) ?_
              refine J.aload_n 108 dX12_workedOut_107 rfl rfl ?_
              refine J.iload 110 dX12_workedOut_108 rfl rfl ?_
              refine J.iload 112 dX12_workedOut_110 rfl rfl ?_
              refine J.iload 114 dX12_workedOut_112 rfl rfl ?_
              refine mc_199 (k_both (c := Sx.2 31 ((60 * i + nI k).toNatClampNeg)) (a := r_take (s_take (s_lay Sx x6))) (b := r_take (s_lay Sx x6))) rfl 117 dX12_workedOut_114 rfl rfl rfl (Nat.le_of_ble_eq_true rfl) ?_
              refine mc_192 hM hF (k_lay (S := s_take (s_take (s_lay Sx x6))) (v := m_both (Sx.2 31 ((60 * i + nI k).toNatClampNeg)) (r_take (s_take (s_lay Sx x6))) (r_take (s_lay Sx x6))) (by obtain ⟨u1, u2, u3⟩ := (hok (ib_0.mp (by assumption))).1 (by assumption); have v := u2 (ib_n.mp (by assumption)); exact vpz (zsub (zsub (zadd hz) (by omega)) (by omega)) (by omega))) rfl 120 dX12_workedOut_117 rfl rfl rfl (Nat.le_of_ble_eq_true rfl) (fun r S2 hp h hM hF => ?_)
              obtain ⟨rfl, hp⟩ := hp
              replace hp := hp.symm
              subst hp
              refine J.goto 172 dX12_workedOut_120 (by decide) ?_
              refine J.fg_9 ?_
              refine J.fg_10 ?_
              exact K1 _ (by first | (simp only [if_neg c1, if_pos c3, if_neg c4, if_neg c9]; done) | (simp only [if_neg c1, if_pos c3, if_neg c4, if_neg c9]; rfl) | (simp [c1, Int32.not_le.mp c1, c3, ib_0.mp c3, c4, Int32.not_lt.mp c4, c9, ib_n.mp c9]; done) | contradiction) _ (by first | (simp only [if_neg c1, if_pos c3, if_neg c4, if_neg c9]; done) | (simp only [if_neg c1, if_pos c3, if_neg c4, if_neg c9]; rfl) | (simp [c1, Int32.not_le.mp c1, c3, ib_0.mp c3, c4, Int32.not_lt.mp c4, c9, ib_n.mp c9]; done) | contradiction) _ hM hF
        · skip
          refine J.iload 46 dX12_workedOut_44 rfl rfl ?_
          have K2 : ∀ (v2_0 : Int32), v2_0 = (if 0 ≤ x6 then (((10 * x6) + (Sx.2 31 ((60 * i + nI k).toNatClampNeg))) - 48) else ((Sx.2 31 ((60 * i + nI k).toNatClampNeg)) - 48)) → ∀ h, MR m0 ad Sx h → MF m0 ad h0 h → J Y_X12_workedOut (d + 2) G 0 0 68 [some (.ref m0), some (.int i), some (.int t), some (.int p), some (.int m), some (.int f), some (.int x6), some (.int x7), some (.int (Sx.2 31 ((60 * i + nI k).toNatClampNeg))), none, none] [.int v2_0] h post := by
            intro v2_0 ev2_0 h hM hF
            refine J.ist_6 70 dX12_workedOut_68 rfl (by decide) ?_
            refine J.goto 172 dX12_workedOut_70 (by decide) ?_
            exact K1 _ (by first | (simp only [if_neg c1, if_neg c3, ev2_0]; done) | (simp only [if_neg c1, if_neg c3, ev2_0]; rfl) | (simp [c1, Int32.not_le.mp c1, c3, ib_n.mp c3, ev2_0]; done) | contradiction) _ (by first | (simp only [if_neg c1, if_neg c3, ev2_0]; done) | (simp only [if_neg c1, if_neg c3, ev2_0]; rfl) | (simp [c1, Int32.not_le.mp c1, c3, ib_n.mp c3, ev2_0]; done) | contradiction) _ hM hF
          refine J.if_ge 57 49 dX12_workedOut_46 (by decide) rfl (fun c13 => ?_) (fun c13 => ?_)
          · skip
            refine J.bipush 10 59 dX12_workedOut_57 rfl (by decide) ?_
            refine J.iload 61 dX12_workedOut_59 rfl rfl ?_
            refine J.imul 62 dX12_workedOut_61 rfl ?_
            refine J.iload 64 dX12_workedOut_62 rfl rfl ?_
            refine J.iadd 65 dX12_workedOut_64 rfl ?_
            refine J.bipush 48 67 dX12_workedOut_65 rfl (by decide) ?_
            refine J.isub 68 dX12_workedOut_67 rfl ?_
            exact K2 _ (by first | (simp only [if_neg c1, if_neg c3, if_pos c13]; done) | (simp only [if_neg c1, if_neg c3, if_pos c13]; rfl) | (simp [c1, Int32.not_le.mp c1, c3, ib_n.mp c3, c13, Int32.not_lt.mpr c13]; done) | contradiction) _ hM hF
          · skip
            refine J.iload 51 dX12_workedOut_49 rfl rfl ?_
            refine J.bipush 48 53 dX12_workedOut_51 rfl (by decide) ?_
            refine J.isub 54 dX12_workedOut_53 rfl ?_
            refine J.goto 68 dX12_workedOut_54 (by decide) ?_
            exact K2 _ (by first | (simp only [if_neg c1, if_neg c3, if_neg c13]; done) | (simp only [if_neg c1, if_neg c3, if_neg c13]; rfl) | (simp [c1, Int32.not_le.mp c1, c3, ib_n.mp c3, c13, Int32.not_le.mp c13]; done) | contradiction) _ hM hF
  exact loop11 (q + 1) 0 _ _ (Nat.zero_le _) (by omega) rfl rfl _ rfl _ hM hF
