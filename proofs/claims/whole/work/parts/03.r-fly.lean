def yHyp (S : MS) (n u : Nat) (m y p : Int32) : Prop := (S.1 28 = nI n ∧ n ≤ 80 ∧ u ≤ 10) ∧ (vp_in m 4 ∧ vp_in y 6 ∧ vp_in p 12) ∧ vp_in (m_hour (S.1 0 + r_wayOf S n m p)) 12 ∧ (s_find S n m p).1 28 = nI n ∧ (∀ k, (wSt (s_find S n m p) n y m p k).1 33 = nI u) ∧ vp_in (m_hour ((s_find S n m p).1 0)) 12 ∧ vp_in (m_hour ((s_find S n m p).1 46)) 12 ∧ (∀ k, k < u → wHyp (wSt (s_find S n m p) n y m p k) n (nI k) ((wSt (s_find S n m p) n y m p k).1 0) p m ((wSt (s_find S n m p) n y m p k).2 14 y.toNatClampNeg))
theorem k_Y {S : MS} {m y p : Int32} {d n u : Nat} (h : yHyp S n u m y p) : CM Y_X12_why (d + 3) [.int m, .int y, .int p] S (fun r S2 => r = some (.int (r_why S n u m y p)) ∧ S2 = s_why S n u m y p) := by
  obtain ⟨⟨h1, h2, h3⟩, ⟨h4, h5, h6⟩, h7, h8, h9, h10, h11, h12⟩ := h
  exact k_why h1 h2 h3 h4 h5 h6 h7 h8 h9 h10 h11 h12
def r_may (S : MS) (n u : Nat) (m y p : Int32) : Int32 := if ((0 ≤ m ∧ m < S.1 11) ∧ (0 ≤ y ∧ y < S.1 16) ∧ (0 < p ∧ p < S.1 3)) then r_why S n u m y p else -1
def s_may (S : MS) (n u : Nat) (m y p : Int32) : MS := if ((0 ≤ m ∧ m < S.1 11) ∧ (0 ≤ y ∧ y < S.1 16) ∧ (0 < p ∧ p < S.1 3)) then s_why S n u m y p else S
theorem k_may {S : MS} {m : Int32} {y : Int32} {p : Int32} {d : Nat} {n u : Nat} (hw : ((0 ≤ m ∧ m < S.1 11) ∧ (0 ≤ y ∧ y < S.1 16) ∧ (0 < p ∧ p < S.1 3)) → yHyp S n u m y p) : CM Y_X12_may (d + 4) [.int m, .int y, .int p] S (fun r S2 => r = some (.int (r_may S n u m y p)) ∧ S2 = s_may S n u m y p) := by
  refine CM.of 0 rfl (fun _ => Nat.le_of_ble_eq_true rfl) (by simp [Value.category]) ?_
  intro G m0 ad h0 h post hM hF fin
  show J Y_X12_may (d + 4) G 0 0 0 [some (.ref m0), some (.int m), some (.int y), some (.int p)] [] h post
  refine J.aload_n 1 dX12_may_0 rfl rfl ?_
  refine J.iload_n 2 dX12_may_1 rfl rfl ?_
  refine mc_215 hM hF (k_isMachine (S := S) (m := m)) rfl 5 dX12_may_2 rfl rfl rfl (Nat.le_of_ble_eq_true rfl) (fun r S2 hp h hM hF => ?_)
  obtain ⟨rfl, hp⟩ := hp
  replace hp := hp.symm
  subst hp
  refine J.if_eq 34 8 dX12_may_5 (by decide) rfl (fun c1 => ?_) (fun c1 => ?_)
  · skip
    refine J.iconst (-1) 35 dX12_may_34 rfl (by decide) ?_
    exact J.iret dX12_may_35 rfl (fin _ _ _ ⟨by simp [r_may, s_may, c1, ib_0.mp c1], by simp [r_may, s_may, c1, ib_0.mp c1]⟩ hM hF)
  · skip
    refine J.aload_n 9 dX12_may_8 rfl rfl ?_
    refine J.iload_n 10 dX12_may_9 rfl rfl ?_
    refine mc_218 hM hF (k_isPilot (S := S) (p := y)) rfl 13 dX12_may_10 rfl rfl rfl (Nat.le_of_ble_eq_true rfl) (fun r S2 hp h hM hF => ?_)
    obtain ⟨rfl, hp⟩ := hp
    replace hp := hp.symm
    subst hp
    refine J.if_eq 34 16 dX12_may_13 (by decide) rfl (fun c2 => ?_) (fun c2 => ?_)
    · skip
      refine J.iconst (-1) 35 dX12_may_34 rfl (by decide) ?_
      exact J.iret dX12_may_35 rfl (fin _ _ _ ⟨by simp [r_may, s_may, c1, ib_n.mp c1, c2, ib_0.mp c2], by simp [r_may, s_may, c1, ib_n.mp c1, c2, ib_0.mp c2]⟩ hM hF)
    · skip
      refine J.aload_n 17 dX12_may_16 rfl rfl ?_
      refine J.iload_n 18 dX12_may_17 rfl rfl ?_
      refine mc_166 hM hF (k_isHut (S := S) (p := p)) rfl 21 dX12_may_18 rfl rfl rfl (Nat.le_of_ble_eq_true rfl) (fun r S2 hp h hM hF => ?_)
      obtain ⟨rfl, hp⟩ := hp
      replace hp := hp.symm
      subst hp
      refine J.if_eq 34 24 dX12_may_21 (by decide) rfl (fun c3 => ?_) (fun c3 => ?_)
      · skip
        refine J.iconst (-1) 35 dX12_may_34 rfl (by decide) ?_
        exact J.iret dX12_may_35 rfl (fin _ _ _ ⟨by simp [r_may, s_may, c1, ib_n.mp c1, c2, ib_n.mp c2, c3, ib_0.mp c3], by simp [r_may, s_may, c1, ib_n.mp c1, c2, ib_n.mp c2, c3, ib_0.mp c3]⟩ hM hF)
      · skip
        refine J.aload_n 25 dX12_may_24 rfl rfl ?_
        refine J.iload_n 26 dX12_may_25 rfl rfl ?_
        refine J.iload_n 27 dX12_may_26 rfl rfl ?_
        refine J.iload_n 28 dX12_may_27 rfl rfl ?_
        refine mc_253 hM hF (k_Y (S := S) (n := n) (u := u) (m := m) (y := y) (p := p) (hw ⟨ib_n.mp (by assumption), ib_n.mp (by assumption), ib_n.mp (by assumption)⟩)) rfl 31 dX12_may_28 rfl rfl rfl (Nat.le_of_ble_eq_true rfl) (fun r S2 hp h hM hF => ?_)
        obtain ⟨rfl, hp⟩ := hp
        replace hp := hp.symm
        subst hp
        refine J.goto 35 dX12_may_31 (by decide) ?_
        exact J.iret dX12_may_35 rfl (fin _ _ _ ⟨by simp [r_may, s_may, c1, ib_n.mp c1, c2, ib_n.mp c2, c3, ib_n.mp c3], by simp [r_may, s_may, c1, ib_n.mp c1, c2, ib_n.mp c2, c3, ib_n.mp c3]⟩ hM hF)
def s_fly0 (S : MS) (m y p : Int32) : MS := (S.1, u2 (u2 (u2 (u2 (u2 (u2 (u2 (u2 (u2 S.2 36 (S.1 45).toNatClampNeg m) 37 (S.1 45).toNatClampNeg y) 38 (S.1 45).toNatClampNeg p) 39 (S.1 45).toNatClampNeg (S.1 0)) 40 (S.1 45).toNatClampNeg (S.1 46)) 41 (S.1 45).toNatClampNeg (S.1 47)) 42 (S.1 45).toNatClampNeg (S.1 48)) 43 (S.1 45).toNatClampNeg 0) 44 (S.1 45).toNatClampNeg 0)
def s_flyA (X : MS) (f : Int32) (a b : Int32) (k : Nat) : MS := (X.1, u2 (u2 (u2 (u2 (u2 X.2 43 f.toNatClampNeg (X.2 43 f.toNatClampNeg + a)) 44 f.toNatClampNeg (X.2 44 f.toNatClampNeg + b)) 23 k 2) 24 k (-1)) 25 k f)
def s_flyS (X : MS) (m f : Int32) (k : Nat) : MS := if X.2 23 k = 1 ∧ X.2 24 k = m then s_flyA X f 1 0 k else if X.2 49 k = 0 then X else s_flyA X f 0 1 k
def s_flyN (T : MS) (m f : Int32) : Nat → MS
  | 0 => T
  | k + 1 => s_flyS (s_flyN T m f k) m f k
theorem s_flyN_1 (T : MS) (m f : Int32) : ∀ k, (s_flyN T m f k).1 = T.1
  | 0 => rfl
  | k + 1 => by
    have ih := s_flyN_1 T m f k
    simp only [s_flyN, s_flyS]
    (repeat' split) <;> exact ih
def s_fly2 (X : MS) (m y : Int32) : MS := (X.1, u2 (u2 (u2 (u2 X.2 9 m.toNatClampNeg ((X.2 9 m.toNatClampNeg) - (X.1 48))) 10 m.toNatClampNeg (X.1 47)) 15 y.toNatClampNeg ((X.1 47) + (X.2 13 y.toNatClampNeg))) 14 y.toNatClampNeg ((X.2 14 y.toNatClampNeg) + ((X.1 47) - (X.1 0))))
def s_fly1 (S1 : MS) (n : Nat) (m y p : Int32) : MS := s_fly2 (s_flyN (s_fly0 S1 m y p) m (S1.1 45) n) m y
def s_fly3 (S1 : MS) (n : Nat) (m y p : Int32) : MS := s_part (s_fly1 S1 n m y p) n (S1.1 45) (S1.1 47 - S1.1 0)
def s_fly4 (S1 : MS) (n : Nat) (m y p : Int32) : MS := (vf_upd (s_fly3 S1 n m y p).1 45 ((s_fly3 S1 n m y p).1 45 + 1), (s_fly3 S1 n m y p).2)
def r_fly (S : MS) (n u : Nat) (m y p : Int32) : Int32 := if ((0 ≤ m ∧ m < S.1 11) ∧ (0 ≤ y ∧ y < S.1 16) ∧ (0 < p ∧ p < S.1 3)) then (if r_why S n u m y p = 0 then (if (s_why S n u m y p).1 45 = 200 then -2 else (s_why S n u m y p).1 45) else -10 - r_why S n u m y p) else -1
def s_fly (S : MS) (n u : Nat) (m y p : Int32) : MS := if ((0 ≤ m ∧ m < S.1 11) ∧ (0 ≤ y ∧ y < S.1 16) ∧ (0 < p ∧ p < S.1 3)) then (if r_why S n u m y p = 0 ∧ ¬ (s_why S n u m y p).1 45 = 200 then s_fly4 (s_why S n u m y p) n m y p else s_why S n u m y p) else S
theorem flyStep (Sx : MS) (m f : Int32) (k : Nat) : (if ((if (Sx.2 23 k) = 1 then (if (Sx.2 24 k) = m then 1 else 0) else 0) : Int32) = 0 then (if (Sx.2 49 k) = 0 then Sx else (if ((if (Sx.2 23 k) = 1 then (if (Sx.2 24 k) = m then 1 else 0) else 0) : Int32) = 0 then (if ((if (Sx.2 23 k) = 1 then (if (Sx.2 24 k) = m then 1 else 0) else 0) : Int32) = 0 then (Sx.1, u2 (u2 (u2 (u2 (u2 Sx.2 43 ((f).toNatClampNeg) ((Sx.2 43 ((f).toNatClampNeg)) + 0)) 44 ((f).toNatClampNeg) ((Sx.2 44 ((f).toNatClampNeg)) + 1)) 23 k 2) 24 k (-1)) 25 k (f)) else (Sx.1, u2 (u2 (u2 (u2 (u2 Sx.2 43 ((f).toNatClampNeg) ((Sx.2 43 ((f).toNatClampNeg)) + 0)) 44 ((f).toNatClampNeg) ((Sx.2 44 ((f).toNatClampNeg)) + 0)) 23 k 2) 24 k (-1)) 25 k (f))) else (if ((if (Sx.2 23 k) = 1 then (if (Sx.2 24 k) = m then 1 else 0) else 0) : Int32) = 0 then (Sx.1, u2 (u2 (u2 (u2 (u2 Sx.2 43 ((f).toNatClampNeg) ((Sx.2 43 ((f).toNatClampNeg)) + 1)) 44 ((f).toNatClampNeg) ((Sx.2 44 ((f).toNatClampNeg)) + 1)) 23 k 2) 24 k (-1)) 25 k (f)) else (Sx.1, u2 (u2 (u2 (u2 (u2 Sx.2 43 ((f).toNatClampNeg) ((Sx.2 43 ((f).toNatClampNeg)) + 1)) 44 ((f).toNatClampNeg) ((Sx.2 44 ((f).toNatClampNeg)) + 0)) 23 k 2) 24 k (-1)) 25 k (f))))) else (if ((if (Sx.2 23 k) = 1 then (if (Sx.2 24 k) = m then 1 else 0) else 0) : Int32) = 0 then (if ((if (Sx.2 23 k) = 1 then (if (Sx.2 24 k) = m then 1 else 0) else 0) : Int32) = 0 then (Sx.1, u2 (u2 (u2 (u2 (u2 Sx.2 43 ((f).toNatClampNeg) ((Sx.2 43 ((f).toNatClampNeg)) + 0)) 44 ((f).toNatClampNeg) ((Sx.2 44 ((f).toNatClampNeg)) + 1)) 23 k 2) 24 k (-1)) 25 k (f)) else (Sx.1, u2 (u2 (u2 (u2 (u2 Sx.2 43 ((f).toNatClampNeg) ((Sx.2 43 ((f).toNatClampNeg)) + 0)) 44 ((f).toNatClampNeg) ((Sx.2 44 ((f).toNatClampNeg)) + 0)) 23 k 2) 24 k (-1)) 25 k (f))) else (if ((if (Sx.2 23 k) = 1 then (if (Sx.2 24 k) = m then 1 else 0) else 0) : Int32) = 0 then (Sx.1, u2 (u2 (u2 (u2 (u2 Sx.2 43 ((f).toNatClampNeg) ((Sx.2 43 ((f).toNatClampNeg)) + 1)) 44 ((f).toNatClampNeg) ((Sx.2 44 ((f).toNatClampNeg)) + 1)) 23 k 2) 24 k (-1)) 25 k (f)) else (Sx.1, u2 (u2 (u2 (u2 (u2 Sx.2 43 ((f).toNatClampNeg) ((Sx.2 43 ((f).toNatClampNeg)) + 1)) 44 ((f).toNatClampNeg) ((Sx.2 44 ((f).toNatClampNeg)) + 0)) 23 k 2) 24 k (-1)) 25 k (f))))) = s_flyS Sx m f k := by
  by_cases h1 : Sx.2 23 k = 1 <;> by_cases h2 : Sx.2 24 k = m <;> by_cases h3 : Sx.2 49 k = 0 <;> simp [s_flyS, s_flyA, h1, h2, h3]
theorem k_fly {S : MS} {m : Int32} {y : Int32} {p : Int32} {d : Nat} {n u : Nat} (hw : ((0 ≤ m ∧ m < S.1 11) ∧ (0 ≤ y ∧ y < S.1 16) ∧ (0 < p ∧ p < S.1 3)) → yHyp S n u m y p) (hX : ((0 ≤ m ∧ m < S.1 11) ∧ (0 ≤ y ∧ y < S.1 16) ∧ (0 < p ∧ p < S.1 3)) → (s_why S n u m y p).1 28 = nI n ∧ (r_why S n u m y p = 0 → ¬ (s_why S n u m y p).1 45 = 200 → vp_in ((s_why S n u m y p).1 45) 200) ∧ (r_why S n u m y p = 0 → ¬ (s_why S n u m y p).1 45 = 200 → (∀ k, k < n → (s_fly1 (s_why S n u m y p) n m y p).2 25 k = (s_why S n u m y p).1 45 → ¬ r_allN (s_fly1 (s_why S n u m y p) n m y p) ((s_why S n u m y p).1 45) n = 0) ∧ (¬ r_leastN (s_fly1 (s_why S n u m y p) n m y p) ((s_why S n u m y p).1 45) n < 0 → vp_in (r_leastN (s_fly1 (s_why S n u m y p) n m y p) ((s_why S n u m y p).1 45) n) 80)) ∧ n ≤ 80 ∧ vp_in m 4 ∧ vp_in y 6) : CM Y_X12_fly (d + 4) [.int m, .int y, .int p] S (fun r S2 => r = some (.int (r_fly S n u m y p)) ∧ S2 = s_fly S n u m y p) := by
  refine CM.of 4 rfl (fun _ => Nat.le_of_ble_eq_true rfl) (by simp [Value.category]) ?_
  intro G m0 ad h0 h post hM hF fin
  show J Y_X12_fly (d + 4) G 0 0 0 [some (.ref m0), some (.int m), some (.int y), some (.int p), none, none, none, none] [] h post
  refine J.aload_n 1 dX12_fly_0 rfl rfl ?_
  refine J.iload_n 2 dX12_fly_1 rfl rfl ?_
  refine mc_215 hM hF (k_isMachine (S := S) (m := m)) rfl 5 dX12_fly_2 rfl rfl rfl (Nat.le_of_ble_eq_true rfl) (fun r S2 hp h hM hF => ?_)
  obtain ⟨rfl, hp⟩ := hp
  replace hp := hp.symm
  subst hp
  refine J.if_eq 24 8 dX12_fly_5 (by decide) rfl (fun c1 => ?_) (fun c1 => ?_)
  · skip
    refine J.iconst (-1) 25 dX12_fly_24 rfl (by decide) ?_
    exact J.iret dX12_fly_25 rfl (fin _ _ _ ⟨by simp [r_fly, c1, ib_0.mp c1], by simp [s_fly, c1, ib_0.mp c1]⟩ hM hF)
  · skip
    refine J.aload_n 9 dX12_fly_8 rfl rfl ?_
    refine J.iload_n 10 dX12_fly_9 rfl rfl ?_
    refine mc_218 hM hF (k_isPilot (S := S) (p := y)) rfl 13 dX12_fly_10 rfl rfl rfl (Nat.le_of_ble_eq_true rfl) (fun r S2 hp h hM hF => ?_)
    obtain ⟨rfl, hp⟩ := hp
    replace hp := hp.symm
    subst hp
    refine J.if_eq 24 16 dX12_fly_13 (by decide) rfl (fun c2 => ?_) (fun c2 => ?_)
    · skip
      refine J.iconst (-1) 25 dX12_fly_24 rfl (by decide) ?_
      exact J.iret dX12_fly_25 rfl (fin _ _ _ ⟨by simp [r_fly, c1, ib_n.mp c1, c2, ib_0.mp c2], by simp [s_fly, c1, ib_n.mp c1, c2, ib_0.mp c2]⟩ hM hF)
    · skip
      refine J.aload_n 17 dX12_fly_16 rfl rfl ?_
      refine J.iload_n 18 dX12_fly_17 rfl rfl ?_
      refine mc_166 hM hF (k_isHut (S := S) (p := p)) rfl 21 dX12_fly_18 rfl rfl rfl (Nat.le_of_ble_eq_true rfl) (fun r S2 hp h hM hF => ?_)
      obtain ⟨rfl, hp⟩ := hp
      replace hp := hp.symm
      subst hp
      refine J.if_ne 26 24 dX12_fly_21 (by decide) rfl (fun c3 => ?_) (fun c3 => ?_)
      · skip
        refine J.aload_n 27 dX12_fly_26 rfl rfl ?_
        refine J.iload_n 28 dX12_fly_27 rfl rfl ?_
        refine J.iload_n 29 dX12_fly_28 rfl rfl ?_
        refine J.iload_n 30 dX12_fly_29 rfl rfl ?_
        refine mc_253 hM hF (k_Y (S := S) (n := n) (u := u) (m := m) (y := y) (p := p) (hw ⟨ib_n.mp (by assumption), ib_n.mp (by assumption), ib_n.mp (by assumption)⟩)) rfl 33 dX12_fly_30 rfl rfl rfl (Nat.le_of_ble_eq_true rfl) (fun r S2 hp h hM hF => ?_)
        obtain ⟨rfl, hp⟩ := hp
        replace hp := hp.symm
        subst hp
        obtain ⟨S1, hS1⟩ : ∃ S1, S1 = s_why S n u m y p := ⟨_, rfl⟩
        have hok : ((0 ≤ m ∧ m < S.1 11) ∧ (0 ≤ y ∧ y < S.1 16) ∧ (0 < p ∧ p < S.1 3)) := ⟨ib_n.mp (by assumption), ib_n.mp (by assumption), ib_n.mp (by assumption)⟩
        obtain ⟨hN1, hf, hPt, hn, hm4, hy6⟩ := hX hok
        rw [← hS1] at hM hN1 hf hPt
        refine J.ist_4 35 dX12_fly_33 rfl (by decide) ?_
        refine J.iload 37 dX12_fly_35 rfl rfl ?_
        refine J.if_eq 46 40 dX12_fly_37 (by decide) rfl (fun c4 => ?_) (fun c4 => ?_)
        · skip
          refine J.aload_n 47 dX12_fly_46 rfl rfl ?_
          refine mg_256 hM (x := S1.1 45) rfl rfl 50 dX12_fly_47 rfl ?_
          refine J.sipush 200 53 dX12_fly_50 rfl (by decide) ?_
          refine J.icmp_ne 59 56 dX12_fly_53 (by decide) rfl (fun c5 => ?_) (fun c5 => ?_)
          · skip
            refine J.aload_n 60 dX12_fly_59 rfl rfl ?_
            refine mg_256 hM (x := S1.1 45) rfl rfl 63 dX12_fly_60 rfl ?_
            refine J.ist_5 65 dX12_fly_63 rfl (by decide) ?_
            refine J.aload_n 66 dX12_fly_65 rfl rfl ?_
            refine mg_98 hM rfl 69 dX12_fly_66 rfl ?_
            refine J.iload 71 dX12_fly_69 rfl rfl ?_
            refine J.iload_n 72 dX12_fly_71 rfl rfl ?_
            refine ml_is hM hF ((S1.1 45).toNatClampNeg) rfl rfl rfl (hf (by assumption) (by assumption)) 73 dX12_fly_72 rfl (fun h hM hF => ?_)
            refine J.aload_n 74 dX12_fly_73 rfl rfl ?_
            refine mg_101 hM rfl 77 dX12_fly_74 rfl ?_
            refine J.iload 79 dX12_fly_77 rfl rfl ?_
            refine J.iload_n 80 dX12_fly_79 rfl rfl ?_
            refine ml_is hM hF ((S1.1 45).toNatClampNeg) rfl rfl rfl (hf (by assumption) (by assumption)) 81 dX12_fly_80 rfl (fun h hM hF => ?_)
            refine J.aload_n 82 dX12_fly_81 rfl rfl ?_
            refine mg_104 hM rfl 85 dX12_fly_82 rfl ?_
            refine J.iload 87 dX12_fly_85 rfl rfl ?_
            refine J.iload_n 88 dX12_fly_87 rfl rfl ?_
            refine ml_is hM hF ((S1.1 45).toNatClampNeg) rfl rfl rfl (hf (by assumption) (by assumption)) 89 dX12_fly_88 rfl (fun h hM hF => ?_)
            refine J.aload_n 90 dX12_fly_89 rfl rfl ?_
            refine mg_107 hM rfl 93 dX12_fly_90 rfl ?_
            refine J.iload 95 dX12_fly_93 rfl rfl ?_
            refine J.aload_n 96 dX12_fly_95 rfl rfl ?_
            refine mg_221 hM (x := S1.1 0) rfl rfl 99 dX12_fly_96 rfl ?_
            refine ml_is hM hF ((S1.1 45).toNatClampNeg) rfl rfl rfl (hf (by assumption) (by assumption)) 100 dX12_fly_99 rfl (fun h hM hF => ?_)
            refine J.aload_n 101 dX12_fly_100 rfl rfl ?_
            refine mg_110 hM rfl 104 dX12_fly_101 rfl ?_
            refine J.iload 106 dX12_fly_104 rfl rfl ?_
            refine J.aload_n 107 dX12_fly_106 rfl rfl ?_
            refine mg_237 hM (x := S1.1 46) rfl rfl 110 dX12_fly_107 rfl ?_
            refine ml_is hM hF ((S1.1 45).toNatClampNeg) rfl rfl rfl (hf (by assumption) (by assumption)) 111 dX12_fly_110 rfl (fun h hM hF => ?_)
            refine J.aload_n 112 dX12_fly_111 rfl rfl ?_
            refine mg_113 hM rfl 115 dX12_fly_112 rfl ?_
            refine J.iload 117 dX12_fly_115 rfl rfl ?_
            refine J.aload_n 118 dX12_fly_117 rfl rfl ?_
            refine mg_240 hM (x := S1.1 47) rfl rfl 121 dX12_fly_118 rfl ?_
            refine ml_is hM hF ((S1.1 45).toNatClampNeg) rfl rfl rfl (hf (by assumption) (by assumption)) 122 dX12_fly_121 rfl (fun h hM hF => ?_)
            refine J.aload_n 123 dX12_fly_122 rfl rfl ?_
            refine mg_116 hM rfl 126 dX12_fly_123 rfl ?_
            refine J.iload 128 dX12_fly_126 rfl rfl ?_
            refine J.aload_n 129 dX12_fly_128 rfl rfl ?_
            refine mg_246 hM (x := S1.1 48) rfl rfl 132 dX12_fly_129 rfl ?_
            refine ml_is hM hF ((S1.1 45).toNatClampNeg) rfl rfl rfl (hf (by assumption) (by assumption)) 133 dX12_fly_132 rfl (fun h hM hF => ?_)
            refine J.aload_n 134 dX12_fly_133 rfl rfl ?_
            refine mg_119 hM rfl 137 dX12_fly_134 rfl ?_
            refine J.iload 139 dX12_fly_137 rfl rfl ?_
            refine J.iconst 0 140 dX12_fly_139 rfl (by decide) ?_
            refine ml_is hM hF ((S1.1 45).toNatClampNeg) rfl rfl rfl (hf (by assumption) (by assumption)) 141 dX12_fly_140 rfl (fun h hM hF => ?_)
            refine J.aload_n 142 dX12_fly_141 rfl rfl ?_
            refine mg_122 hM rfl 145 dX12_fly_142 rfl ?_
            refine J.iload 147 dX12_fly_145 rfl rfl ?_
            refine J.iconst 0 148 dX12_fly_147 rfl (by decide) ?_
            refine ml_is hM hF ((S1.1 45).toNatClampNeg) rfl rfl rfl (hf (by assumption) (by assumption)) 149 dX12_fly_148 rfl (fun h hM hF => ?_)
            refine J.iconst 0 150 dX12_fly_149 rfl (by decide) ?_
            refine J.ist_6 152 dX12_fly_150 rfl (by decide) ?_
            have loop152 : ∀ (j k : Nat) (x6 : Int32), k ≤ n → n + 1 ≤ k + j → x6 = nI k → ∀ Sx : MS, Sx = s_flyN (s_fly0 S1 m y p) m (S1.1 45) k → ∀ h, MR m0 ad Sx h → MF m0 ad h0 h → J Y_X12_fly (d + 4) G 0 0 152 [some (.ref m0), some (.int m), some (.int y), some (.int p), some (.int (r_why S n u m y p)), some (.int (S1.1 45)), some (.int x6), none] [] h post := by
              intro j
              induction j with
              | zero => intro k _ g1 g2; exact absurd g2 (by omega)
              | succ j ih =>
                intro k x6 g1 g2 e6 Sx eSx h hM hF
                have q6 : x6.toNatClampNeg = k := by rw [e6]; exact nI_clamp (by omega)
                have hx1 : Sx.1 = S1.1 := by rw [eSx, s_flyN_1]; rfl
                have hNx : Sx.1 28 = nI n := by rw [hx1]; exact hN1
                refine J.iload 154 dX12_fly_152 rfl rfl ?_
                refine J.aload_n 155 dX12_fly_154 rfl rfl ?_
                refine mg_163 hM (x := Sx.1 28) rfl rfl 158 dX12_fly_155 rfl ?_
                refine J.icmp_ge 276 161 dX12_fly_158 (by decide) rfl (fun c6 => ?_) (fun c6 => ?_)
                · skip
                  have hk : k = n := Nat.le_antisymm g1 ((nI_leI (by omega) (by omega)).mp (by rw [← hNx, ← e6]; exact c6))
                  have e47 : Sx.1 47 = S1.1 47 := by rw [hx1]
                  have e0 : Sx.1 0 = S1.1 0 := by rw [hx1]
                  have kp : CM Y_X12_part (d + 3) [.int (S1.1 45), .int ((Sx.1 47) - (Sx.1 0))] (Sx.1, u2 (u2 (u2 (u2 Sx.2 9 m.toNatClampNeg ((Sx.2 9 m.toNatClampNeg) - (Sx.1 48))) 10 m.toNatClampNeg (Sx.1 47)) 15 y.toNatClampNeg ((Sx.1 47) + (Sx.2 13 y.toNatClampNeg))) 14 y.toNatClampNeg ((Sx.2 14 y.toNatClampNeg) + ((Sx.1 47) - (Sx.1 0)))) (fun r S2 => r = none ∧ S2 = s_fly3 S1 n m y p) := by
                    have e2 : (Sx.1, u2 (u2 (u2 (u2 Sx.2 9 m.toNatClampNeg ((Sx.2 9 m.toNatClampNeg) - (Sx.1 48))) 10 m.toNatClampNeg (Sx.1 47)) 15 y.toNatClampNeg ((Sx.1 47) + (Sx.2 13 y.toNatClampNeg))) 14 y.toNatClampNeg ((Sx.2 14 y.toNatClampNeg) + ((Sx.1 47) - (Sx.1 0)))) = s_fly1 S1 n m y p := by rw [s_fly1, ← hk, ← eSx]; rfl
                    rw [e2, e47, e0]
                    exact k_part (by rw [← e2]; exact hNx) hn (hPt (by assumption) (by assumption)).1 (hPt (by assumption) (by assumption)).2
                  refine J.aload_n 277 dX12_fly_276 rfl rfl ?_
                  refine mg_35 hM rfl 280 dX12_fly_277 rfl ?_
                  refine J.iload_n 281 dX12_fly_280 rfl rfl ?_
                  refine J.dup2 282 dX12_fly_281 rfl rfl rfl ?_
                  refine ml_ia hM m.toNatClampNeg rfl (x := Sx.2 9 m.toNatClampNeg) rfl rfl rfl hm4 283 dX12_fly_282 rfl ?_
                  refine J.aload_n 284 dX12_fly_283 rfl rfl ?_
                  refine mg_246 hM (x := Sx.1 48) rfl rfl 287 dX12_fly_284 rfl ?_
                  refine J.isub 288 dX12_fly_287 rfl ?_
                  refine ml_is hM hF m.toNatClampNeg rfl rfl rfl hm4 289 dX12_fly_288 rfl (fun h hM hF => ?_)
                  refine J.aload_n 290 dX12_fly_289 rfl rfl ?_
                  refine mg_38 hM rfl 293 dX12_fly_290 rfl ?_
                  refine J.iload_n 294 dX12_fly_293 rfl rfl ?_
                  refine J.aload_n 295 dX12_fly_294 rfl rfl ?_
                  refine mg_240 hM (x := Sx.1 47) rfl rfl 298 dX12_fly_295 rfl ?_
                  refine ml_is hM hF m.toNatClampNeg rfl rfl rfl hm4 299 dX12_fly_298 rfl (fun h hM hF => ?_)
                  refine J.aload_n 300 dX12_fly_299 rfl rfl ?_
                  refine mg_50 hM rfl 303 dX12_fly_300 rfl ?_
                  refine J.iload_n 304 dX12_fly_303 rfl rfl ?_
                  refine J.aload_n 305 dX12_fly_304 rfl rfl ?_
                  refine mg_240 hM (x := Sx.1 47) rfl rfl 308 dX12_fly_305 rfl ?_
                  refine J.aload_n 309 dX12_fly_308 rfl rfl ?_
                  refine mg_44 hM rfl 312 dX12_fly_309 rfl ?_
                  refine J.iload_n 313 dX12_fly_312 rfl rfl ?_
                  refine ml_ia hM y.toNatClampNeg rfl (x := Sx.2 13 y.toNatClampNeg) rfl rfl rfl hy6 314 dX12_fly_313 rfl ?_
                  refine J.iadd 315 dX12_fly_314 rfl ?_
                  refine ml_is hM hF y.toNatClampNeg rfl rfl rfl hy6 316 dX12_fly_315 rfl (fun h hM hF => ?_)
                  refine J.aload_n 317 dX12_fly_316 rfl rfl ?_
                  refine mg_47 hM rfl 320 dX12_fly_317 rfl ?_
                  refine J.iload_n 321 dX12_fly_320 rfl rfl ?_
                  refine J.dup2 322 dX12_fly_321 rfl rfl rfl ?_
                  refine ml_ia hM y.toNatClampNeg rfl (x := Sx.2 14 y.toNatClampNeg) rfl rfl rfl hy6 323 dX12_fly_322 rfl ?_
                  refine J.aload_n 324 dX12_fly_323 rfl rfl ?_
                  refine mg_240 hM (x := Sx.1 47) rfl rfl 327 dX12_fly_324 rfl ?_
                  refine J.aload_n 328 dX12_fly_327 rfl rfl ?_
                  refine mg_221 hM (x := Sx.1 0) rfl rfl 331 dX12_fly_328 rfl ?_
                  refine J.isub 332 dX12_fly_331 rfl ?_
                  refine J.iadd 333 dX12_fly_332 rfl ?_
                  refine ml_is hM hF y.toNatClampNeg rfl rfl rfl hy6 334 dX12_fly_333 rfl (fun h hM hF => ?_)
                  refine J.aload_n 335 dX12_fly_334 rfl rfl ?_
                  refine J.iload 337 dX12_fly_335 rfl rfl ?_
                  refine J.aload_n 338 dX12_fly_337 rfl rfl ?_
                  refine mg_240 hM (x := Sx.1 47) rfl rfl 341 dX12_fly_338 rfl ?_
                  refine J.aload_n 342 dX12_fly_341 rfl rfl ?_
                  refine mg_221 hM (x := Sx.1 0) rfl rfl 345 dX12_fly_342 rfl ?_
                  refine J.isub 346 dX12_fly_345 rfl ?_
                  refine mc_259 hM hF kp rfl 349 dX12_fly_346 rfl rfl rfl (Nat.le_of_ble_eq_true rfl) (fun r S2 hp h hM hF => ?_)
                  obtain ⟨rfl, hp⟩ := hp
                  replace hp := hp.symm
                  subst hp
                  refine J.aload_n 350 dX12_fly_349 rfl rfl ?_
                  refine J.dup 351 dX12_fly_350 rfl rfl ?_
                  refine mg_256 hM (x := (s_fly3 S1 n m y p).1 45) rfl rfl 354 dX12_fly_351 rfl ?_
                  refine J.iconst 1 355 dX12_fly_354 rfl (by decide) ?_
                  refine J.iadd 356 dX12_fly_355 rfl ?_
                  refine mp_256 hM hF rfl 359 dX12_fly_356 rfl (fun h hM hF => ?_)
                  refine J.iload 361 dX12_fly_359 rfl rfl ?_
                  exact J.iret dX12_fly_361 rfl (fin _ _ _ ⟨by simp [r_fly, ← hS1, c1, ib_n.mp c1, c2, ib_n.mp c2, c3, ib_n.mp c3, c4, c5, c6, Int32.not_lt.mpr c6], by simp [s_fly, ← hS1, s_fly4, c1, ib_n.mp c1, c2, ib_n.mp c2, c3, ib_n.mp c3, c4, c5, c6, Int32.not_lt.mpr c6]⟩ hM hF)
                · skip
                  have hk : k < n := Nat.lt_of_not_le (fun z => c6 (by rw [hNx, e6]; exact nI_le z (by omega)))
                  have hin : vp_in x6 80 := by rw [e6]; exact vp_in_nI (by omega) (by decide)
                  refine J.aload_n 162 dX12_fly_161 rfl rfl ?_
                  refine mg_71 hM rfl 165 dX12_fly_162 rfl ?_
                  refine J.iload 167 dX12_fly_165 rfl rfl ?_
                  refine ml_ia hM k q6 (x := Sx.2 23 k) rfl rfl rfl (by assumption) 168 dX12_fly_167 rfl ?_
                  refine J.iconst 1 169 dX12_fly_168 rfl (by decide) ?_
                  have K1 : ∀ (v1_0 : Int32), v1_0 = (if (Sx.2 23 k) = 1 then (if (Sx.2 24 k) = m then 1 else 0) else 0) → ∀ h, MR m0 ad Sx h → MF m0 ad h0 h → J Y_X12_fly (d + 4) G 0 0 188 [some (.ref m0), some (.int m), some (.int y), some (.int p), some (.int (r_why S n u m y p)), some (.int (S1.1 45)), some (.int x6), none] [.int v1_0] h post := by
                    intro v1_0 ev1_0 h hM hF
                    refine J.ist_7 190 dX12_fly_188 rfl (by decide) ?_
                    refine J.iload 192 dX12_fly_190 rfl rfl ?_
                    have K2 : ∀ S2 : MS, S2 = (if v1_0 = 0 then (if (Sx.2 49 k) = 0 then Sx else (if v1_0 = 0 then (if v1_0 = 0 then (Sx.1, u2 (u2 (u2 (u2 (u2 Sx.2 43 ((S1.1 45).toNatClampNeg) ((Sx.2 43 ((S1.1 45).toNatClampNeg)) + 0)) 44 ((S1.1 45).toNatClampNeg) ((Sx.2 44 ((S1.1 45).toNatClampNeg)) + 1)) 23 k 2) 24 k (-1)) 25 k (S1.1 45)) else (Sx.1, u2 (u2 (u2 (u2 (u2 Sx.2 43 ((S1.1 45).toNatClampNeg) ((Sx.2 43 ((S1.1 45).toNatClampNeg)) + 0)) 44 ((S1.1 45).toNatClampNeg) ((Sx.2 44 ((S1.1 45).toNatClampNeg)) + 0)) 23 k 2) 24 k (-1)) 25 k (S1.1 45))) else (if v1_0 = 0 then (Sx.1, u2 (u2 (u2 (u2 (u2 Sx.2 43 ((S1.1 45).toNatClampNeg) ((Sx.2 43 ((S1.1 45).toNatClampNeg)) + 1)) 44 ((S1.1 45).toNatClampNeg) ((Sx.2 44 ((S1.1 45).toNatClampNeg)) + 1)) 23 k 2) 24 k (-1)) 25 k (S1.1 45)) else (Sx.1, u2 (u2 (u2 (u2 (u2 Sx.2 43 ((S1.1 45).toNatClampNeg) ((Sx.2 43 ((S1.1 45).toNatClampNeg)) + 1)) 44 ((S1.1 45).toNatClampNeg) ((Sx.2 44 ((S1.1 45).toNatClampNeg)) + 0)) 23 k 2) 24 k (-1)) 25 k (S1.1 45))))) else (if v1_0 = 0 then (if v1_0 = 0 then (Sx.1, u2 (u2 (u2 (u2 (u2 Sx.2 43 ((S1.1 45).toNatClampNeg) ((Sx.2 43 ((S1.1 45).toNatClampNeg)) + 0)) 44 ((S1.1 45).toNatClampNeg) ((Sx.2 44 ((S1.1 45).toNatClampNeg)) + 1)) 23 k 2) 24 k (-1)) 25 k (S1.1 45)) else (Sx.1, u2 (u2 (u2 (u2 (u2 Sx.2 43 ((S1.1 45).toNatClampNeg) ((Sx.2 43 ((S1.1 45).toNatClampNeg)) + 0)) 44 ((S1.1 45).toNatClampNeg) ((Sx.2 44 ((S1.1 45).toNatClampNeg)) + 0)) 23 k 2) 24 k (-1)) 25 k (S1.1 45))) else (if v1_0 = 0 then (Sx.1, u2 (u2 (u2 (u2 (u2 Sx.2 43 ((S1.1 45).toNatClampNeg) ((Sx.2 43 ((S1.1 45).toNatClampNeg)) + 1)) 44 ((S1.1 45).toNatClampNeg) ((Sx.2 44 ((S1.1 45).toNatClampNeg)) + 1)) 23 k 2) 24 k (-1)) 25 k (S1.1 45)) else (Sx.1, u2 (u2 (u2 (u2 (u2 Sx.2 43 ((S1.1 45).toNatClampNeg) ((Sx.2 43 ((S1.1 45).toNatClampNeg)) + 1)) 44 ((S1.1 45).toNatClampNeg) ((Sx.2 44 ((S1.1 45).toNatClampNeg)) + 0)) 23 k 2) 24 k (-1)) 25 k (S1.1 45))))) → ∀ h, MR m0 ad S2 h → MF m0 ad h0 h → J Y_X12_fly (d + 4) G 0 0 270 [some (.ref m0), some (.int m), some (.int y), some (.int p), some (.int (r_why S n u m y p)), some (.int (S1.1 45)), some (.int x6), some (.int v1_0)] [] h post := by
                      intro S2 eS2 h hM hF
                      refine J.iinc_6 1 273 dX12_fly_270 rfl (by decide) (by decide) ?_
                      refine J.goto 152 dX12_fly_273 (by decide) ?_
                      refine J.fg_7 ?_
                      exact ih (k + 1) _ (by omega) (by omega)  (by rw [e6]; exact nI_1 k) _ (by rw [eS2, ev1_0, eSx]; exact flyStep _ _ _ _) _ hM hF
                    refine J.if_ne 205 195 dX12_fly_192 (by decide) rfl (fun c7 => ?_) (fun c7 => ?_)
                    · skip
                      refine J.aload_n 206 dX12_fly_205 rfl rfl ?_
                      refine mg_119 hM rfl 209 dX12_fly_206 rfl ?_
                      refine J.iload 211 dX12_fly_209 rfl rfl ?_
                      refine J.dup2 212 dX12_fly_211 rfl rfl rfl ?_
                      refine ml_ia hM ((S1.1 45).toNatClampNeg) rfl (x := Sx.2 43 ((S1.1 45).toNatClampNeg)) rfl rfl rfl (hf (by assumption) (by assumption)) 213 dX12_fly_212 rfl ?_
                      refine J.iload 215 dX12_fly_213 rfl rfl ?_
                      refine J.if_eq 222 218 dX12_fly_215 (by decide) rfl (fun c8 => ?_) (fun c8 => ?_)
                      · skip
                        refine J.iconst 0 223 dX12_fly_222 rfl (by decide) ?_
                        refine J.iadd 224 dX12_fly_223 rfl ?_
                        refine ml_is hM hF ((S1.1 45).toNatClampNeg) rfl rfl rfl (hf (by assumption) (by assumption)) 225 dX12_fly_224 rfl (fun h hM hF => ?_)
                        refine J.aload_n 226 dX12_fly_225 rfl rfl ?_
                        refine mg_122 hM rfl 229 dX12_fly_226 rfl ?_
                        refine J.iload 231 dX12_fly_229 rfl rfl ?_
                        refine J.dup2 232 dX12_fly_231 rfl rfl rfl ?_
                        refine ml_ia hM ((S1.1 45).toNatClampNeg) rfl (x := Sx.2 44 ((S1.1 45).toNatClampNeg)) rfl rfl rfl (hf (by assumption) (by assumption)) 233 dX12_fly_232 rfl ?_
                        refine J.iload 235 dX12_fly_233 rfl rfl ?_
                        refine J.if_eq 242 238 dX12_fly_235 (by decide) rfl (fun c9 => ?_) (fun c9 => ?_)
                        · skip
                          refine J.iconst 1 243 dX12_fly_242 rfl (by decide) ?_
                          refine J.iadd 244 dX12_fly_243 rfl ?_
                          refine ml_is hM hF ((S1.1 45).toNatClampNeg) rfl rfl rfl (hf (by assumption) (by assumption)) 245 dX12_fly_244 rfl (fun h hM hF => ?_)
                          refine J.aload_n 246 dX12_fly_245 rfl rfl ?_
                          refine mg_71 hM rfl 249 dX12_fly_246 rfl ?_
                          refine J.iload 251 dX12_fly_249 rfl rfl ?_
                          refine J.iconst 2 252 dX12_fly_251 rfl (by decide) ?_
                          refine ml_is hM hF k q6 rfl rfl (by assumption) 253 dX12_fly_252 rfl (fun h hM hF => ?_)
                          refine J.aload_n 254 dX12_fly_253 rfl rfl ?_
                          refine mg_74 hM rfl 257 dX12_fly_254 rfl ?_
                          refine J.iload 259 dX12_fly_257 rfl rfl ?_
                          refine J.iconst (-1) 260 dX12_fly_259 rfl (by decide) ?_
                          refine ml_is hM hF k q6 rfl rfl (by assumption) 261 dX12_fly_260 rfl (fun h hM hF => ?_)
                          refine J.aload_n 262 dX12_fly_261 rfl rfl ?_
                          refine mg_77 hM rfl 265 dX12_fly_262 rfl ?_
                          refine J.iload 267 dX12_fly_265 rfl rfl ?_
                          refine J.iload 269 dX12_fly_267 rfl rfl ?_
                          refine ml_is hM hF k q6 rfl rfl (by assumption) 270 dX12_fly_269 rfl (fun h hM hF => ?_)
                          exact K2 _ (by first | (simp only [if_neg c1, if_neg c2, if_neg c3, if_pos c4, if_neg c5, if_neg c6, if_neg c7, if_pos c8, if_pos c9]; done) | (simp only [if_neg c1, if_neg c2, if_neg c3, if_pos c4, if_neg c5, if_neg c6, if_neg c7, if_pos c8, if_pos c9]; rfl) | (simp [c1, ib_n.mp c1, c2, ib_n.mp c2, c3, ib_n.mp c3, c4, c5, c6, Int32.not_le.mp c6, c7, c8, c9]; done) | contradiction) _ hM hF
                        · skip
                          refine J.iconst 0 239 dX12_fly_238 rfl (by decide) ?_
                          refine J.goto 243 dX12_fly_239 (by decide) ?_
                          refine J.iadd 244 dX12_fly_243 rfl ?_
                          refine ml_is hM hF ((S1.1 45).toNatClampNeg) rfl rfl rfl (hf (by assumption) (by assumption)) 245 dX12_fly_244 rfl (fun h hM hF => ?_)
                          refine J.aload_n 246 dX12_fly_245 rfl rfl ?_
                          refine mg_71 hM rfl 249 dX12_fly_246 rfl ?_
                          refine J.iload 251 dX12_fly_249 rfl rfl ?_
                          refine J.iconst 2 252 dX12_fly_251 rfl (by decide) ?_
                          refine ml_is hM hF k q6 rfl rfl (by assumption) 253 dX12_fly_252 rfl (fun h hM hF => ?_)
                          refine J.aload_n 254 dX12_fly_253 rfl rfl ?_
                          refine mg_74 hM rfl 257 dX12_fly_254 rfl ?_
                          refine J.iload 259 dX12_fly_257 rfl rfl ?_
                          refine J.iconst (-1) 260 dX12_fly_259 rfl (by decide) ?_
                          refine ml_is hM hF k q6 rfl rfl (by assumption) 261 dX12_fly_260 rfl (fun h hM hF => ?_)
                          refine J.aload_n 262 dX12_fly_261 rfl rfl ?_
                          refine mg_77 hM rfl 265 dX12_fly_262 rfl ?_
                          refine J.iload 267 dX12_fly_265 rfl rfl ?_
                          refine J.iload 269 dX12_fly_267 rfl rfl ?_
                          refine ml_is hM hF k q6 rfl rfl (by assumption) 270 dX12_fly_269 rfl (fun h hM hF => ?_)
                          exact K2 _ (by first | (simp only [if_neg c1, if_neg c2, if_neg c3, if_pos c4, if_neg c5, if_neg c6, if_neg c7, if_pos c8, if_neg c9]; done) | (simp only [if_neg c1, if_neg c2, if_neg c3, if_pos c4, if_neg c5, if_neg c6, if_neg c7, if_pos c8, if_neg c9]; rfl) | (simp [c1, ib_n.mp c1, c2, ib_n.mp c2, c3, ib_n.mp c3, c4, c5, c6, Int32.not_le.mp c6, c7, c8, c9]; done) | contradiction) _ hM hF
                      · skip
                        refine J.iconst 1 219 dX12_fly_218 rfl (by decide) ?_
                        refine J.goto 223 dX12_fly_219 (by decide) ?_
                        refine J.iadd 224 dX12_fly_223 rfl ?_
                        refine ml_is hM hF ((S1.1 45).toNatClampNeg) rfl rfl rfl (hf (by assumption) (by assumption)) 225 dX12_fly_224 rfl (fun h hM hF => ?_)
                        refine J.aload_n 226 dX12_fly_225 rfl rfl ?_
                        refine mg_122 hM rfl 229 dX12_fly_226 rfl ?_
                        refine J.iload 231 dX12_fly_229 rfl rfl ?_
                        refine J.dup2 232 dX12_fly_231 rfl rfl rfl ?_
                        refine ml_ia hM ((S1.1 45).toNatClampNeg) rfl (x := Sx.2 44 ((S1.1 45).toNatClampNeg)) rfl rfl rfl (hf (by assumption) (by assumption)) 233 dX12_fly_232 rfl ?_
                        refine J.iload 235 dX12_fly_233 rfl rfl ?_
                        refine J.if_eq 242 238 dX12_fly_235 (by decide) rfl (fun c10 => ?_) (fun c10 => ?_)
                        · skip
                          refine J.iconst 1 243 dX12_fly_242 rfl (by decide) ?_
                          refine J.iadd 244 dX12_fly_243 rfl ?_
                          refine ml_is hM hF ((S1.1 45).toNatClampNeg) rfl rfl rfl (hf (by assumption) (by assumption)) 245 dX12_fly_244 rfl (fun h hM hF => ?_)
                          refine J.aload_n 246 dX12_fly_245 rfl rfl ?_
                          refine mg_71 hM rfl 249 dX12_fly_246 rfl ?_
                          refine J.iload 251 dX12_fly_249 rfl rfl ?_
                          refine J.iconst 2 252 dX12_fly_251 rfl (by decide) ?_
                          refine ml_is hM hF k q6 rfl rfl (by assumption) 253 dX12_fly_252 rfl (fun h hM hF => ?_)
                          refine J.aload_n 254 dX12_fly_253 rfl rfl ?_
                          refine mg_74 hM rfl 257 dX12_fly_254 rfl ?_
                          refine J.iload 259 dX12_fly_257 rfl rfl ?_
                          refine J.iconst (-1) 260 dX12_fly_259 rfl (by decide) ?_
                          refine ml_is hM hF k q6 rfl rfl (by assumption) 261 dX12_fly_260 rfl (fun h hM hF => ?_)
                          refine J.aload_n 262 dX12_fly_261 rfl rfl ?_
                          refine mg_77 hM rfl 265 dX12_fly_262 rfl ?_
                          refine J.iload 267 dX12_fly_265 rfl rfl ?_
                          refine J.iload 269 dX12_fly_267 rfl rfl ?_
                          refine ml_is hM hF k q6 rfl rfl (by assumption) 270 dX12_fly_269 rfl (fun h hM hF => ?_)
                          exact K2 _ (by first | (simp only [if_neg c1, if_neg c2, if_neg c3, if_pos c4, if_neg c5, if_neg c6, if_neg c7, if_neg c8, if_pos c10]; done) | (simp only [if_neg c1, if_neg c2, if_neg c3, if_pos c4, if_neg c5, if_neg c6, if_neg c7, if_neg c8, if_pos c10]; rfl) | (simp [c1, ib_n.mp c1, c2, ib_n.mp c2, c3, ib_n.mp c3, c4, c5, c6, Int32.not_le.mp c6, c7, c8, c10]; done) | contradiction) _ hM hF
                        · skip
                          refine J.iconst 0 239 dX12_fly_238 rfl (by decide) ?_
                          refine J.goto 243 dX12_fly_239 (by decide) ?_
                          refine J.iadd 244 dX12_fly_243 rfl ?_
                          refine ml_is hM hF ((S1.1 45).toNatClampNeg) rfl rfl rfl (hf (by assumption) (by assumption)) 245 dX12_fly_244 rfl (fun h hM hF => ?_)
                          refine J.aload_n 246 dX12_fly_245 rfl rfl ?_
                          refine mg_71 hM rfl 249 dX12_fly_246 rfl ?_
                          refine J.iload 251 dX12_fly_249 rfl rfl ?_
                          refine J.iconst 2 252 dX12_fly_251 rfl (by decide) ?_
                          refine ml_is hM hF k q6 rfl rfl (by assumption) 253 dX12_fly_252 rfl (fun h hM hF => ?_)
                          refine J.aload_n 254 dX12_fly_253 rfl rfl ?_
                          refine mg_74 hM rfl 257 dX12_fly_254 rfl ?_
                          refine J.iload 259 dX12_fly_257 rfl rfl ?_
                          refine J.iconst (-1) 260 dX12_fly_259 rfl (by decide) ?_
                          refine ml_is hM hF k q6 rfl rfl (by assumption) 261 dX12_fly_260 rfl (fun h hM hF => ?_)
                          refine J.aload_n 262 dX12_fly_261 rfl rfl ?_
                          refine mg_77 hM rfl 265 dX12_fly_262 rfl ?_
                          refine J.iload 267 dX12_fly_265 rfl rfl ?_
                          refine J.iload 269 dX12_fly_267 rfl rfl ?_
                          refine ml_is hM hF k q6 rfl rfl (by assumption) 270 dX12_fly_269 rfl (fun h hM hF => ?_)
                          exact K2 _ (by first | (simp only [if_neg c1, if_neg c2, if_neg c3, if_pos c4, if_neg c5, if_neg c6, if_neg c7, if_neg c8, if_neg c10]; done) | (simp only [if_neg c1, if_neg c2, if_neg c3, if_pos c4, if_neg c5, if_neg c6, if_neg c7, if_neg c8, if_neg c10]; rfl) | (simp [c1, ib_n.mp c1, c2, ib_n.mp c2, c3, ib_n.mp c3, c4, c5, c6, Int32.not_le.mp c6, c7, c8, c10]; done) | contradiction) _ hM hF
                    · skip
                      refine J.aload_n 196 dX12_fly_195 rfl rfl ?_
                      refine mg_125 hM rfl 199 dX12_fly_196 rfl ?_
                      refine J.iload 201 dX12_fly_199 rfl rfl ?_
                      refine ml_za hM k q6 (x := Sx.2 49 k) rfl rfl rfl (by assumption) 202 dX12_fly_201 rfl ?_
                      refine J.if_eq 270 205 dX12_fly_202 (by decide) rfl (fun c11 => ?_) (fun c11 => ?_)
                      · skip
                        exact K2 _ (by first | (simp only [if_neg c1, if_neg c2, if_neg c3, if_pos c4, if_neg c5, if_neg c6, if_pos c7, if_pos c11]; done) | (simp only [if_neg c1, if_neg c2, if_neg c3, if_pos c4, if_neg c5, if_neg c6, if_pos c7, if_pos c11]; rfl) | (simp [c1, ib_n.mp c1, c2, ib_n.mp c2, c3, ib_n.mp c3, c4, c5, c6, Int32.not_le.mp c6, c7, c11]; done) | contradiction) _ hM hF
                      · skip
                        refine J.aload_n 206 dX12_fly_205 rfl rfl ?_
                        refine mg_119 hM rfl 209 dX12_fly_206 rfl ?_
                        refine J.iload 211 dX12_fly_209 rfl rfl ?_
                        refine J.dup2 212 dX12_fly_211 rfl rfl rfl ?_
                        refine ml_ia hM ((S1.1 45).toNatClampNeg) rfl (x := Sx.2 43 ((S1.1 45).toNatClampNeg)) rfl rfl rfl (hf (by assumption) (by assumption)) 213 dX12_fly_212 rfl ?_
                        refine J.iload 215 dX12_fly_213 rfl rfl ?_
                        refine J.if_eq 222 218 dX12_fly_215 (by decide) rfl (fun c12 => ?_) (fun c12 => ?_)
                        · skip
                          refine J.iconst 0 223 dX12_fly_222 rfl (by decide) ?_
                          refine J.iadd 224 dX12_fly_223 rfl ?_
                          refine ml_is hM hF ((S1.1 45).toNatClampNeg) rfl rfl rfl (hf (by assumption) (by assumption)) 225 dX12_fly_224 rfl (fun h hM hF => ?_)
                          refine J.aload_n 226 dX12_fly_225 rfl rfl ?_
                          refine mg_122 hM rfl 229 dX12_fly_226 rfl ?_
                          refine J.iload 231 dX12_fly_229 rfl rfl ?_
                          refine J.dup2 232 dX12_fly_231 rfl rfl rfl ?_
                          refine ml_ia hM ((S1.1 45).toNatClampNeg) rfl (x := Sx.2 44 ((S1.1 45).toNatClampNeg)) rfl rfl rfl (hf (by assumption) (by assumption)) 233 dX12_fly_232 rfl ?_
                          refine J.iload 235 dX12_fly_233 rfl rfl ?_
                          refine J.if_eq 242 238 dX12_fly_235 (by decide) rfl (fun c13 => ?_) (fun c13 => ?_)
                          · skip
                            refine J.iconst 1 243 dX12_fly_242 rfl (by decide) ?_
                            refine J.iadd 244 dX12_fly_243 rfl ?_
                            refine ml_is hM hF ((S1.1 45).toNatClampNeg) rfl rfl rfl (hf (by assumption) (by assumption)) 245 dX12_fly_244 rfl (fun h hM hF => ?_)
                            refine J.aload_n 246 dX12_fly_245 rfl rfl ?_
                            refine mg_71 hM rfl 249 dX12_fly_246 rfl ?_
                            refine J.iload 251 dX12_fly_249 rfl rfl ?_
                            refine J.iconst 2 252 dX12_fly_251 rfl (by decide) ?_
                            refine ml_is hM hF k q6 rfl rfl (by assumption) 253 dX12_fly_252 rfl (fun h hM hF => ?_)
                            refine J.aload_n 254 dX12_fly_253 rfl rfl ?_
                            refine mg_74 hM rfl 257 dX12_fly_254 rfl ?_
                            refine J.iload 259 dX12_fly_257 rfl rfl ?_
                            refine J.iconst (-1) 260 dX12_fly_259 rfl (by decide) ?_
                            refine ml_is hM hF k q6 rfl rfl (by assumption) 261 dX12_fly_260 rfl (fun h hM hF => ?_)
                            refine J.aload_n 262 dX12_fly_261 rfl rfl ?_
                            refine mg_77 hM rfl 265 dX12_fly_262 rfl ?_
                            refine J.iload 267 dX12_fly_265 rfl rfl ?_
                            refine J.iload 269 dX12_fly_267 rfl rfl ?_
                            refine ml_is hM hF k q6 rfl rfl (by assumption) 270 dX12_fly_269 rfl (fun h hM hF => ?_)
                            exact K2 _ (by first | (simp only [if_neg c1, if_neg c2, if_neg c3, if_pos c4, if_neg c5, if_neg c6, if_pos c7, if_neg c11, if_pos c12, if_pos c13]; done) | (simp only [if_neg c1, if_neg c2, if_neg c3, if_pos c4, if_neg c5, if_neg c6, if_pos c7, if_neg c11, if_pos c12, if_pos c13]; rfl) | (simp [c1, ib_n.mp c1, c2, ib_n.mp c2, c3, ib_n.mp c3, c4, c5, c6, Int32.not_le.mp c6, c7, c11, c12, c13]; done) | contradiction) _ hM hF
                          · skip
                            refine J.iconst 0 239 dX12_fly_238 rfl (by decide) ?_
                            refine J.goto 243 dX12_fly_239 (by decide) ?_
                            refine J.iadd 244 dX12_fly_243 rfl ?_
                            refine ml_is hM hF ((S1.1 45).toNatClampNeg) rfl rfl rfl (hf (by assumption) (by assumption)) 245 dX12_fly_244 rfl (fun h hM hF => ?_)
                            refine J.aload_n 246 dX12_fly_245 rfl rfl ?_
                            refine mg_71 hM rfl 249 dX12_fly_246 rfl ?_
                            refine J.iload 251 dX12_fly_249 rfl rfl ?_
                            refine J.iconst 2 252 dX12_fly_251 rfl (by decide) ?_
                            refine ml_is hM hF k q6 rfl rfl (by assumption) 253 dX12_fly_252 rfl (fun h hM hF => ?_)
                            refine J.aload_n 254 dX12_fly_253 rfl rfl ?_
                            refine mg_74 hM rfl 257 dX12_fly_254 rfl ?_
                            refine J.iload 259 dX12_fly_257 rfl rfl ?_
                            refine J.iconst (-1) 260 dX12_fly_259 rfl (by decide) ?_
                            refine ml_is hM hF k q6 rfl rfl (by assumption) 261 dX12_fly_260 rfl (fun h hM hF => ?_)
                            refine J.aload_n 262 dX12_fly_261 rfl rfl ?_
                            refine mg_77 hM rfl 265 dX12_fly_262 rfl ?_
                            refine J.iload 267 dX12_fly_265 rfl rfl ?_
                            refine J.iload 269 dX12_fly_267 rfl rfl ?_
                            refine ml_is hM hF k q6 rfl rfl (by assumption) 270 dX12_fly_269 rfl (fun h hM hF => ?_)
                            exact K2 _ (by first | (simp only [if_neg c1, if_neg c2, if_neg c3, if_pos c4, if_neg c5, if_neg c6, if_pos c7, if_neg c11, if_pos c12, if_neg c13]; done) | (simp only [if_neg c1, if_neg c2, if_neg c3, if_pos c4, if_neg c5, if_neg c6, if_pos c7, if_neg c11, if_pos c12, if_neg c13]; rfl) | (simp [c1, ib_n.mp c1, c2, ib_n.mp c2, c3, ib_n.mp c3, c4, c5, c6, Int32.not_le.mp c6, c7, c11, c12, c13]; done) | contradiction) _ hM hF
                        · skip
                          refine J.iconst 1 219 dX12_fly_218 rfl (by decide) ?_
                          refine J.goto 223 dX12_fly_219 (by decide) ?_
                          refine J.iadd 224 dX12_fly_223 rfl ?_
                          refine ml_is hM hF ((S1.1 45).toNatClampNeg) rfl rfl rfl (hf (by assumption) (by assumption)) 225 dX12_fly_224 rfl (fun h hM hF => ?_)
                          refine J.aload_n 226 dX12_fly_225 rfl rfl ?_
                          refine mg_122 hM rfl 229 dX12_fly_226 rfl ?_
                          refine J.iload 231 dX12_fly_229 rfl rfl ?_
                          refine J.dup2 232 dX12_fly_231 rfl rfl rfl ?_
                          refine ml_ia hM ((S1.1 45).toNatClampNeg) rfl (x := Sx.2 44 ((S1.1 45).toNatClampNeg)) rfl rfl rfl (hf (by assumption) (by assumption)) 233 dX12_fly_232 rfl ?_
                          refine J.iload 235 dX12_fly_233 rfl rfl ?_
                          refine J.if_eq 242 238 dX12_fly_235 (by decide) rfl (fun c14 => ?_) (fun c14 => ?_)
                          · skip
                            refine J.iconst 1 243 dX12_fly_242 rfl (by decide) ?_
                            refine J.iadd 244 dX12_fly_243 rfl ?_
                            refine ml_is hM hF ((S1.1 45).toNatClampNeg) rfl rfl rfl (hf (by assumption) (by assumption)) 245 dX12_fly_244 rfl (fun h hM hF => ?_)
                            refine J.aload_n 246 dX12_fly_245 rfl rfl ?_
                            refine mg_71 hM rfl 249 dX12_fly_246 rfl ?_
                            refine J.iload 251 dX12_fly_249 rfl rfl ?_
                            refine J.iconst 2 252 dX12_fly_251 rfl (by decide) ?_
                            refine ml_is hM hF k q6 rfl rfl (by assumption) 253 dX12_fly_252 rfl (fun h hM hF => ?_)
                            refine J.aload_n 254 dX12_fly_253 rfl rfl ?_
                            refine mg_74 hM rfl 257 dX12_fly_254 rfl ?_
                            refine J.iload 259 dX12_fly_257 rfl rfl ?_
                            refine J.iconst (-1) 260 dX12_fly_259 rfl (by decide) ?_
                            refine ml_is hM hF k q6 rfl rfl (by assumption) 261 dX12_fly_260 rfl (fun h hM hF => ?_)
                            refine J.aload_n 262 dX12_fly_261 rfl rfl ?_
                            refine mg_77 hM rfl 265 dX12_fly_262 rfl ?_
                            refine J.iload 267 dX12_fly_265 rfl rfl ?_
                            refine J.iload 269 dX12_fly_267 rfl rfl ?_
                            refine ml_is hM hF k q6 rfl rfl (by assumption) 270 dX12_fly_269 rfl (fun h hM hF => ?_)
                            exact K2 _ (by first | (simp only [if_neg c1, if_neg c2, if_neg c3, if_pos c4, if_neg c5, if_neg c6, if_pos c7, if_neg c11, if_neg c12, if_pos c14]; done) | (simp only [if_neg c1, if_neg c2, if_neg c3, if_pos c4, if_neg c5, if_neg c6, if_pos c7, if_neg c11, if_neg c12, if_pos c14]; rfl) | (simp [c1, ib_n.mp c1, c2, ib_n.mp c2, c3, ib_n.mp c3, c4, c5, c6, Int32.not_le.mp c6, c7, c11, c12, c14]; done) | contradiction) _ hM hF
                          · skip
                            refine J.iconst 0 239 dX12_fly_238 rfl (by decide) ?_
                            refine J.goto 243 dX12_fly_239 (by decide) ?_
                            refine J.iadd 244 dX12_fly_243 rfl ?_
                            refine ml_is hM hF ((S1.1 45).toNatClampNeg) rfl rfl rfl (hf (by assumption) (by assumption)) 245 dX12_fly_244 rfl (fun h hM hF => ?_)
                            refine J.aload_n 246 dX12_fly_245 rfl rfl ?_
                            refine mg_71 hM rfl 249 dX12_fly_246 rfl ?_
                            refine J.iload 251 dX12_fly_249 rfl rfl ?_
                            refine J.iconst 2 252 dX12_fly_251 rfl (by decide) ?_
                            refine ml_is hM hF k q6 rfl rfl (by assumption) 253 dX12_fly_252 rfl (fun h hM hF => ?_)
                            refine J.aload_n 254 dX12_fly_253 rfl rfl ?_
                            refine mg_74 hM rfl 257 dX12_fly_254 rfl ?_
                            refine J.iload 259 dX12_fly_257 rfl rfl ?_
                            refine J.iconst (-1) 260 dX12_fly_259 rfl (by decide) ?_
                            refine ml_is hM hF k q6 rfl rfl (by assumption) 261 dX12_fly_260 rfl (fun h hM hF => ?_)
                            refine J.aload_n 262 dX12_fly_261 rfl rfl ?_
                            refine mg_77 hM rfl 265 dX12_fly_262 rfl ?_
                            refine J.iload 267 dX12_fly_265 rfl rfl ?_
                            refine J.iload 269 dX12_fly_267 rfl rfl ?_
                            refine ml_is hM hF k q6 rfl rfl (by assumption) 270 dX12_fly_269 rfl (fun h hM hF => ?_)
                            exact K2 _ (by first | (simp only [if_neg c1, if_neg c2, if_neg c3, if_pos c4, if_neg c5, if_neg c6, if_pos c7, if_neg c11, if_neg c12, if_neg c14]; done) | (simp only [if_neg c1, if_neg c2, if_neg c3, if_pos c4, if_neg c5, if_neg c6, if_pos c7, if_neg c11, if_neg c12, if_neg c14]; rfl) | (simp [c1, ib_n.mp c1, c2, ib_n.mp c2, c3, ib_n.mp c3, c4, c5, c6, Int32.not_le.mp c6, c7, c11, c12, c14]; done) | contradiction) _ hM hF
                  refine J.icmp_ne 187 172 dX12_fly_169 (by decide) rfl (fun c15 => ?_) (fun c15 => ?_)
                  · skip
                    refine J.iconst 0 188 dX12_fly_187 rfl (by decide) ?_
                    exact K1 _ (by first | (simp only [if_neg c1, if_neg c2, if_neg c3, if_pos c4, if_neg c5, if_neg c6, if_neg c15]; done) | (simp only [if_neg c1, if_neg c2, if_neg c3, if_pos c4, if_neg c5, if_neg c6, if_neg c15]; rfl) | (simp [c1, ib_n.mp c1, c2, ib_n.mp c2, c3, ib_n.mp c3, c4, c5, c6, Int32.not_le.mp c6, c15]; done) | contradiction) _ hM hF
                  · skip
                    refine J.aload_n 173 dX12_fly_172 rfl rfl ?_
                    refine mg_74 hM rfl 176 dX12_fly_173 rfl ?_
                    refine J.iload 178 dX12_fly_176 rfl rfl ?_
                    refine ml_ia hM k q6 (x := Sx.2 24 k) rfl rfl rfl (by assumption) 179 dX12_fly_178 rfl ?_
                    refine J.iload_n 180 dX12_fly_179 rfl rfl ?_
                    refine J.icmp_ne 187 183 dX12_fly_180 (by decide) rfl (fun c16 => ?_) (fun c16 => ?_)
                    · skip
                      refine J.iconst 0 188 dX12_fly_187 rfl (by decide) ?_
                      exact K1 _ (by first | (simp only [if_neg c1, if_neg c2, if_neg c3, if_pos c4, if_neg c5, if_neg c6, if_pos c15, if_neg c16]; done) | (simp only [if_neg c1, if_neg c2, if_neg c3, if_pos c4, if_neg c5, if_neg c6, if_pos c15, if_neg c16]; rfl) | (simp [c1, ib_n.mp c1, c2, ib_n.mp c2, c3, ib_n.mp c3, c4, c5, c6, Int32.not_le.mp c6, c15, c16]; done) | contradiction) _ hM hF
                    · skip
                      refine J.iconst 1 184 dX12_fly_183 rfl (by decide) ?_
                      refine J.goto 188 dX12_fly_184 (by decide) ?_
                      exact K1 _ (by first | (simp only [if_neg c1, if_neg c2, if_neg c3, if_pos c4, if_neg c5, if_neg c6, if_pos c15, if_pos c16]; done) | (simp only [if_neg c1, if_neg c2, if_neg c3, if_pos c4, if_neg c5, if_neg c6, if_pos c15, if_pos c16]; rfl) | (simp [c1, ib_n.mp c1, c2, ib_n.mp c2, c3, ib_n.mp c3, c4, c5, c6, Int32.not_le.mp c6, c15, c16]; done) | contradiction) _ hM hF
            exact loop152 (n + 1) 0 _ (Nat.zero_le _) (by omega)  rfl _ rfl _ hM hF
          · skip
            refine J.bipush (-2) 58 dX12_fly_56 rfl (by decide) ?_
            exact J.iret dX12_fly_58 rfl (fin _ _ _ ⟨by simp [r_fly, ← hS1, c1, ib_n.mp c1, c2, ib_n.mp c2, c3, ib_n.mp c3, c4, c5], by simp [s_fly, ← hS1, c1, ib_n.mp c1, c2, ib_n.mp c2, c3, ib_n.mp c3, c4, c5]⟩ hM hF)
        · skip
          refine J.bipush (-10) 42 dX12_fly_40 rfl (by decide) ?_
          refine J.iload 44 dX12_fly_42 rfl rfl ?_
          refine J.isub 45 dX12_fly_44 rfl ?_
          exact J.iret dX12_fly_45 rfl (fin _ _ _ ⟨by simp [r_fly, ← hS1, c1, ib_n.mp c1, c2, ib_n.mp c2, c3, ib_n.mp c3, c4], by simp [s_fly, ← hS1, c1, ib_n.mp c1, c2, ib_n.mp c2, c3, ib_n.mp c3, c4]⟩ hM hF)
      · skip
        refine J.iconst (-1) 25 dX12_fly_24 rfl (by decide) ?_
        exact J.iret dX12_fly_25 rfl (fin _ _ _ ⟨by simp [r_fly, c1, ib_n.mp c1, c2, ib_n.mp c2, c3, ib_0.mp c3], by simp [s_fly, c1, ib_n.mp c1, c2, ib_n.mp c2, c3, ib_0.mp c3]⟩ hM hF)
