def qlen (S : MS) (i : Int32) : Nat := (S.2 32 i.toNatClampNeg).toNatClampNeg
def wHyp (S : MS) (n : Nat) (i t p m f : Int32) : Prop := (S.1 28 = nI n ∧ n ≤ 80) ∧ (S.2 32 i.toNatClampNeg = nI (qlen S i) ∧ qlen S i ≤ 60) ∧ vp_in i 10 ∧ vp_in p 12 ∧ vp_in (m_hour t) 12 ∧ (∀ k, k < qlen S i → vp_in (60 * i + nI k) 600) ∧ (∀ k, k < qlen S i → ∃ z, (wN (vf_upd S.1 35 0, S.2) n i t p m f k).1.1 35 = nI z ∧ wOK z (wN (vf_upd S.1 35 0, S.2) n i t p m f k).2 ((wN (vf_upd S.1 35 0, S.2) n i t p m f k).1.2 31 (60 * i + nI k).toNatClampNeg)) ∧ (¬ (wN (vf_upd S.1 35 0, S.2) n i t p m f (qlen S i)).2 < 0 → vp_in ((wN (vf_upd S.1 35 0, S.2) n i t p m f (qlen S i)).1.1 35) 20)
def rW (S : MS) (n : Nat) (i t p m f : Int32) : Int32 := r_work S n (qlen S i) i t p m f
def sW (S : MS) (n : Nat) (i t p m f : Int32) : MS := s_work S n (qlen S i) i t p m f
theorem k_W {S : MS} {i t p m f : Int32} {d n : Nat} (h : wHyp S n i t p m f) : CM Y_X12_workedOut (d + 2) [.int i, .int t, .int p, .int m, .int f] S (fun r S2 => r = some (.int (rW S n i t p m f)) ∧ S2 = sW S n i t p m f) := by
  obtain ⟨⟨h1, h2⟩, ⟨h3, h4⟩, h5, h6, h7, h8, h9, h10⟩ := h
  exact k_workedOut h1 h2 h3 h4 h5 h6 h7 h8 h9 h10
def ok_says (S : MS) (i m y p : Int32) : Prop := (0 ≤ i ∧ i < S.1 33) ∧ (0 ≤ m ∧ m < S.1 11) ∧ (0 ≤ y ∧ y < S.1 16) ∧ (0 < p ∧ p < S.1 3)
def r_says (S : MS) (n : Nat) (i m y p : Int32) : Int32 := if (0 ≤ i ∧ i < S.1 33) ∧ (0 ≤ m ∧ m < S.1 11) ∧ (0 ≤ y ∧ y < S.1 16) ∧ (0 < p ∧ p < S.1 3) then rW S n i (S.1 0) p m (S.2 14 y.toNatClampNeg) else -2000000000
def s_says (S : MS) (n : Nat) (i m y p : Int32) : MS := if (0 ≤ i ∧ i < S.1 33) ∧ (0 ≤ m ∧ m < S.1 11) ∧ (0 ≤ y ∧ y < S.1 16) ∧ (0 < p ∧ p < S.1 3) then sW S n i (S.1 0) p m (S.2 14 y.toNatClampNeg) else S
theorem k_says {S : MS} {i : Int32} {m : Int32} {y : Int32} {p : Int32} {d : Nat} {n : Nat} (hw : ok_says S i m y p → wHyp S n i (S.1 0) p m (S.2 14 y.toNatClampNeg)) (hy : (0 ≤ y ∧ y < S.1 16) → vp_in y 6) : CM Y_X12_says (d + 3) [.int i, .int m, .int y, .int p] S (fun r S2 => r = some (.int (r_says S n i m y p)) ∧ S2 = s_says S n i m y p) := by
  refine CM.of 0 rfl (fun _ => Nat.le_of_ble_eq_true rfl) (by simp [Value.category]) ?_
  intro G m0 ad h0 h post hM hF fin
  show J Y_X12_says (d + 3) G 0 0 0 [some (.ref m0), some (.int i), some (.int m), some (.int y), some (.int p)] [] h post
  refine J.iload_n 1 dX12_says_0 rfl rfl ?_
  refine J.if_lt 58 4 dX12_says_1 (by decide) rfl (fun c1 => ?_) (fun c1 => ?_)
  · skip
    refine J.ldc (-2000000000) 60 dX12_says_58 rfl wm_1262 ?_
    exact J.iret dX12_says_60 rfl (fin _ _ _ ⟨by simp [r_says, s_says, c1, Int32.not_le.mpr c1], by simp [r_says, s_says, c1, Int32.not_le.mpr c1]⟩ hM hF)
  · skip
    refine J.iload_n 5 dX12_says_4 rfl rfl ?_
    refine J.aload_n 6 dX12_says_5 rfl rfl ?_
    refine mg_182 hM (x := S.1 33) rfl rfl 9 dX12_says_6 rfl ?_
    refine J.icmp_ge 58 12 dX12_says_9 (by decide) rfl (fun c2 => ?_) (fun c2 => ?_)
    · skip
      refine J.ldc (-2000000000) 60 dX12_says_58 rfl wm_1262 ?_
      exact J.iret dX12_says_60 rfl (fin _ _ _ ⟨by simp [r_says, s_says, c1, Int32.not_lt.mp c1, c2, Int32.not_lt.mpr c2], by simp [r_says, s_says, c1, Int32.not_lt.mp c1, c2, Int32.not_lt.mpr c2]⟩ hM hF)
    · skip
      refine J.aload_n 13 dX12_says_12 rfl rfl ?_
      refine J.iload_n 14 dX12_says_13 rfl rfl ?_
      refine mc_215 hM hF (k_isMachine (S := S) (m := m)) rfl 17 dX12_says_14 rfl rfl rfl (Nat.le_of_ble_eq_true rfl) (fun r S2 hp h hM hF => ?_)
      obtain ⟨rfl, hp⟩ := hp
      replace hp := hp.symm
      subst hp
      refine J.if_eq 58 20 dX12_says_17 (by decide) rfl (fun c3 => ?_) (fun c3 => ?_)
      · skip
        refine J.ldc (-2000000000) 60 dX12_says_58 rfl wm_1262 ?_
        exact J.iret dX12_says_60 rfl (fin _ _ _ ⟨by simp [r_says, s_says, c1, Int32.not_lt.mp c1, c2, Int32.not_le.mp c2, c3, ib_0.mp c3], by simp [r_says, s_says, c1, Int32.not_lt.mp c1, c2, Int32.not_le.mp c2, c3, ib_0.mp c3]⟩ hM hF)
      · skip
        refine J.aload_n 21 dX12_says_20 rfl rfl ?_
        refine J.iload_n 22 dX12_says_21 rfl rfl ?_
        refine mc_218 hM hF (k_isPilot (S := S) (p := y)) rfl 25 dX12_says_22 rfl rfl rfl (Nat.le_of_ble_eq_true rfl) (fun r S2 hp h hM hF => ?_)
        obtain ⟨rfl, hp⟩ := hp
        replace hp := hp.symm
        subst hp
        refine J.if_eq 58 28 dX12_says_25 (by decide) rfl (fun c4 => ?_) (fun c4 => ?_)
        · skip
          refine J.ldc (-2000000000) 60 dX12_says_58 rfl wm_1262 ?_
          exact J.iret dX12_says_60 rfl (fin _ _ _ ⟨by simp [r_says, s_says, c1, Int32.not_lt.mp c1, c2, Int32.not_le.mp c2, c3, ib_n.mp c3, c4, ib_0.mp c4], by simp [r_says, s_says, c1, Int32.not_lt.mp c1, c2, Int32.not_le.mp c2, c3, ib_n.mp c3, c4, ib_0.mp c4]⟩ hM hF)
        · skip
          refine J.aload_n 29 dX12_says_28 rfl rfl ?_
          refine J.iload 31 dX12_says_29 rfl rfl ?_
          refine mc_166 hM hF (k_isHut (S := S) (p := p)) rfl 34 dX12_says_31 rfl rfl rfl (Nat.le_of_ble_eq_true rfl) (fun r S2 hp h hM hF => ?_)
          obtain ⟨rfl, hp⟩ := hp
          replace hp := hp.symm
          subst hp
          refine J.if_eq 58 37 dX12_says_34 (by decide) rfl (fun c5 => ?_) (fun c5 => ?_)
          · skip
            refine J.ldc (-2000000000) 60 dX12_says_58 rfl wm_1262 ?_
            exact J.iret dX12_says_60 rfl (fin _ _ _ ⟨by simp [r_says, s_says, c1, Int32.not_lt.mp c1, c2, Int32.not_le.mp c2, c3, ib_n.mp c3, c4, ib_n.mp c4, c5, ib_0.mp c5], by simp [r_says, s_says, c1, Int32.not_lt.mp c1, c2, Int32.not_le.mp c2, c3, ib_n.mp c3, c4, ib_n.mp c4, c5, ib_0.mp c5]⟩ hM hF)
          · skip
            refine J.aload_n 38 dX12_says_37 rfl rfl ?_
            refine J.iload_n 39 dX12_says_38 rfl rfl ?_
            refine J.aload_n 40 dX12_says_39 rfl rfl ?_
            refine mg_221 hM (x := S.1 0) rfl rfl 43 dX12_says_40 rfl ?_
            refine J.iload 45 dX12_says_43 rfl rfl ?_
            refine J.iload_n 46 dX12_says_45 rfl rfl ?_
            refine J.aload_n 47 dX12_says_46 rfl rfl ?_
            refine mg_47 hM rfl 50 dX12_says_47 rfl ?_
            refine J.iload_n 51 dX12_says_50 rfl rfl ?_
            refine ml_ia hM y.toNatClampNeg rfl (x := S.2 14 y.toNatClampNeg) rfl rfl rfl (hy (ib_n.mp (by assumption))) 52 dX12_says_51 rfl ?_
            refine mc_224 hM hF (k_W (S := S) (n := n) (i := i) (t := S.1 0) (p := p) (m := m) (f := S.2 14 y.toNatClampNeg) (hw ⟨⟨by first | assumption | exact Int32.not_lt.mp (by assumption), by first | assumption | exact Int32.not_le.mp (by assumption)⟩, ib_n.mp (by assumption), ib_n.mp (by assumption), ib_n.mp (by assumption)⟩)) rfl 55 dX12_says_52 rfl rfl rfl (Nat.le_of_ble_eq_true rfl) (fun r S2 hp h hM hF => ?_)
            obtain ⟨rfl, hp⟩ := hp
            replace hp := hp.symm
            subst hp
            refine J.goto 60 dX12_says_55 (by decide) ?_
            exact J.iret dX12_says_60 rfl (fin _ _ _ ⟨by simp [r_says, s_says, c1, Int32.not_lt.mp c1, c2, Int32.not_le.mp c2, c3, ib_n.mp c3, c4, ib_n.mp c4, c5, ib_n.mp c5], by simp [r_says, s_says, c1, Int32.not_lt.mp c1, c2, Int32.not_le.mp c2, c3, ib_n.mp c3, c4, ib_n.mp c4, c5, ib_n.mp c5]⟩ hM hF)
