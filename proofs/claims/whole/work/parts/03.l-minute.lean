section FG
variable {Y : YM} {d kc ks pc : Nat} {G : Nat → Nat} {st : List Value} {h : AH} {post : Option Value → AH → Prop}
theorem lv_forget (i : Nat) (l : List (Option Value)) : ∀ (j : Nat) (v : Value), (l.set i none)[j]? = some (some v) → l[j]? = some (some v) := by
  intro j v q
  by_cases e : j = i
  · subst e
    by_cases hl : j < l.length
    · rw [List.getElem?_set_self hl] at q
      cases q
    · rw [List.getElem?_eq_none (by rw [List.length_set]; omega)] at q
      cases q
  · rw [List.getElem?_set_ne (Ne.symm e)] at q
    exact q
theorem J.fg_0 {a0 : Option Value} {r : List (Option Value)} (k : J Y d G kc ks pc (none :: r) st h post) : J Y d G kc ks pc (a0 :: r) st h post := J.lvs (lv2 := none :: r) (lv_forget 0 (a0 :: r)) k
theorem J.fg_1 {a0 a1 : Option Value} {r : List (Option Value)} (k : J Y d G kc ks pc (a0 :: none :: r) st h post) : J Y d G kc ks pc (a0 :: a1 :: r) st h post := J.lvs (lv2 := a0 :: none :: r) (lv_forget 1 (a0 :: a1 :: r)) k
theorem J.fg_2 {a0 a1 a2 : Option Value} {r : List (Option Value)} (k : J Y d G kc ks pc (a0 :: a1 :: none :: r) st h post) : J Y d G kc ks pc (a0 :: a1 :: a2 :: r) st h post := J.lvs (lv2 := a0 :: a1 :: none :: r) (lv_forget 2 (a0 :: a1 :: a2 :: r)) k
theorem J.fg_3 {a0 a1 a2 a3 : Option Value} {r : List (Option Value)} (k : J Y d G kc ks pc (a0 :: a1 :: a2 :: none :: r) st h post) : J Y d G kc ks pc (a0 :: a1 :: a2 :: a3 :: r) st h post := J.lvs (lv2 := a0 :: a1 :: a2 :: none :: r) (lv_forget 3 (a0 :: a1 :: a2 :: a3 :: r)) k
theorem J.fg_4 {a0 a1 a2 a3 a4 : Option Value} {r : List (Option Value)} (k : J Y d G kc ks pc (a0 :: a1 :: a2 :: a3 :: none :: r) st h post) : J Y d G kc ks pc (a0 :: a1 :: a2 :: a3 :: a4 :: r) st h post := J.lvs (lv2 := a0 :: a1 :: a2 :: a3 :: none :: r) (lv_forget 4 (a0 :: a1 :: a2 :: a3 :: a4 :: r)) k
theorem J.fg_5 {a0 a1 a2 a3 a4 a5 : Option Value} {r : List (Option Value)} (k : J Y d G kc ks pc (a0 :: a1 :: a2 :: a3 :: a4 :: none :: r) st h post) : J Y d G kc ks pc (a0 :: a1 :: a2 :: a3 :: a4 :: a5 :: r) st h post := J.lvs (lv2 := a0 :: a1 :: a2 :: a3 :: a4 :: none :: r) (lv_forget 5 (a0 :: a1 :: a2 :: a3 :: a4 :: a5 :: r)) k
theorem J.fg_6 {a0 a1 a2 a3 a4 a5 a6 : Option Value} {r : List (Option Value)} (k : J Y d G kc ks pc (a0 :: a1 :: a2 :: a3 :: a4 :: a5 :: none :: r) st h post) : J Y d G kc ks pc (a0 :: a1 :: a2 :: a3 :: a4 :: a5 :: a6 :: r) st h post := J.lvs (lv2 := a0 :: a1 :: a2 :: a3 :: a4 :: a5 :: none :: r) (lv_forget 6 (a0 :: a1 :: a2 :: a3 :: a4 :: a5 :: a6 :: r)) k
theorem J.fg_7 {a0 a1 a2 a3 a4 a5 a6 a7 : Option Value} {r : List (Option Value)} (k : J Y d G kc ks pc (a0 :: a1 :: a2 :: a3 :: a4 :: a5 :: a6 :: none :: r) st h post) : J Y d G kc ks pc (a0 :: a1 :: a2 :: a3 :: a4 :: a5 :: a6 :: a7 :: r) st h post := J.lvs (lv2 := a0 :: a1 :: a2 :: a3 :: a4 :: a5 :: a6 :: none :: r) (lv_forget 7 (a0 :: a1 :: a2 :: a3 :: a4 :: a5 :: a6 :: a7 :: r)) k
theorem J.fg_8 {a0 a1 a2 a3 a4 a5 a6 a7 a8 : Option Value} {r : List (Option Value)} (k : J Y d G kc ks pc (a0 :: a1 :: a2 :: a3 :: a4 :: a5 :: a6 :: a7 :: none :: r) st h post) : J Y d G kc ks pc (a0 :: a1 :: a2 :: a3 :: a4 :: a5 :: a6 :: a7 :: a8 :: r) st h post := J.lvs (lv2 := a0 :: a1 :: a2 :: a3 :: a4 :: a5 :: a6 :: a7 :: none :: r) (lv_forget 8 (a0 :: a1 :: a2 :: a3 :: a4 :: a5 :: a6 :: a7 :: a8 :: r)) k
theorem J.fg_9 {a0 a1 a2 a3 a4 a5 a6 a7 a8 a9 : Option Value} {r : List (Option Value)} (k : J Y d G kc ks pc (a0 :: a1 :: a2 :: a3 :: a4 :: a5 :: a6 :: a7 :: a8 :: none :: r) st h post) : J Y d G kc ks pc (a0 :: a1 :: a2 :: a3 :: a4 :: a5 :: a6 :: a7 :: a8 :: a9 :: r) st h post := J.lvs (lv2 := a0 :: a1 :: a2 :: a3 :: a4 :: a5 :: a6 :: a7 :: a8 :: none :: r) (lv_forget 9 (a0 :: a1 :: a2 :: a3 :: a4 :: a5 :: a6 :: a7 :: a8 :: a9 :: r)) k
theorem J.fg_10 {a0 a1 a2 a3 a4 a5 a6 a7 a8 a9 a10 : Option Value} {r : List (Option Value)} (k : J Y d G kc ks pc (a0 :: a1 :: a2 :: a3 :: a4 :: a5 :: a6 :: a7 :: a8 :: a9 :: none :: r) st h post) : J Y d G kc ks pc (a0 :: a1 :: a2 :: a3 :: a4 :: a5 :: a6 :: a7 :: a8 :: a9 :: a10 :: r) st h post := J.lvs (lv2 := a0 :: a1 :: a2 :: a3 :: a4 :: a5 :: a6 :: a7 :: a8 :: a9 :: none :: r) (lv_forget 10 (a0 :: a1 :: a2 :: a3 :: a4 :: a5 :: a6 :: a7 :: a8 :: a9 :: a10 :: r)) k
theorem J.fg_11 {a0 a1 a2 a3 a4 a5 a6 a7 a8 a9 a10 a11 : Option Value} {r : List (Option Value)} (k : J Y d G kc ks pc (a0 :: a1 :: a2 :: a3 :: a4 :: a5 :: a6 :: a7 :: a8 :: a9 :: a10 :: none :: r) st h post) : J Y d G kc ks pc (a0 :: a1 :: a2 :: a3 :: a4 :: a5 :: a6 :: a7 :: a8 :: a9 :: a10 :: a11 :: r) st h post := J.lvs (lv2 := a0 :: a1 :: a2 :: a3 :: a4 :: a5 :: a6 :: a7 :: a8 :: a9 :: a10 :: none :: r) (lv_forget 11 (a0 :: a1 :: a2 :: a3 :: a4 :: a5 :: a6 :: a7 :: a8 :: a9 :: a10 :: a11 :: r)) k
theorem J.fg_12 {a0 a1 a2 a3 a4 a5 a6 a7 a8 a9 a10 a11 a12 : Option Value} {r : List (Option Value)} (k : J Y d G kc ks pc (a0 :: a1 :: a2 :: a3 :: a4 :: a5 :: a6 :: a7 :: a8 :: a9 :: a10 :: a11 :: none :: r) st h post) : J Y d G kc ks pc (a0 :: a1 :: a2 :: a3 :: a4 :: a5 :: a6 :: a7 :: a8 :: a9 :: a10 :: a11 :: a12 :: r) st h post := J.lvs (lv2 := a0 :: a1 :: a2 :: a3 :: a4 :: a5 :: a6 :: a7 :: a8 :: a9 :: a10 :: a11 :: none :: r) (lv_forget 12 (a0 :: a1 :: a2 :: a3 :: a4 :: a5 :: a6 :: a7 :: a8 :: a9 :: a10 :: a11 :: a12 :: r)) k
theorem J.fg_13 {a0 a1 a2 a3 a4 a5 a6 a7 a8 a9 a10 a11 a12 a13 : Option Value} {r : List (Option Value)} (k : J Y d G kc ks pc (a0 :: a1 :: a2 :: a3 :: a4 :: a5 :: a6 :: a7 :: a8 :: a9 :: a10 :: a11 :: a12 :: none :: r) st h post) : J Y d G kc ks pc (a0 :: a1 :: a2 :: a3 :: a4 :: a5 :: a6 :: a7 :: a8 :: a9 :: a10 :: a11 :: a12 :: a13 :: r) st h post := J.lvs (lv2 := a0 :: a1 :: a2 :: a3 :: a4 :: a5 :: a6 :: a7 :: a8 :: a9 :: a10 :: a11 :: a12 :: none :: r) (lv_forget 13 (a0 :: a1 :: a2 :: a3 :: a4 :: a5 :: a6 :: a7 :: a8 :: a9 :: a10 :: a11 :: a12 :: a13 :: r)) k
theorem J.fg_14 {a0 a1 a2 a3 a4 a5 a6 a7 a8 a9 a10 a11 a12 a13 a14 : Option Value} {r : List (Option Value)} (k : J Y d G kc ks pc (a0 :: a1 :: a2 :: a3 :: a4 :: a5 :: a6 :: a7 :: a8 :: a9 :: a10 :: a11 :: a12 :: a13 :: none :: r) st h post) : J Y d G kc ks pc (a0 :: a1 :: a2 :: a3 :: a4 :: a5 :: a6 :: a7 :: a8 :: a9 :: a10 :: a11 :: a12 :: a13 :: a14 :: r) st h post := J.lvs (lv2 := a0 :: a1 :: a2 :: a3 :: a4 :: a5 :: a6 :: a7 :: a8 :: a9 :: a10 :: a11 :: a12 :: a13 :: none :: r) (lv_forget 14 (a0 :: a1 :: a2 :: a3 :: a4 :: a5 :: a6 :: a7 :: a8 :: a9 :: a10 :: a11 :: a12 :: a13 :: a14 :: r)) k
theorem J.fg_15 {a0 a1 a2 a3 a4 a5 a6 a7 a8 a9 a10 a11 a12 a13 a14 a15 : Option Value} {r : List (Option Value)} (k : J Y d G kc ks pc (a0 :: a1 :: a2 :: a3 :: a4 :: a5 :: a6 :: a7 :: a8 :: a9 :: a10 :: a11 :: a12 :: a13 :: a14 :: none :: r) st h post) : J Y d G kc ks pc (a0 :: a1 :: a2 :: a3 :: a4 :: a5 :: a6 :: a7 :: a8 :: a9 :: a10 :: a11 :: a12 :: a13 :: a14 :: a15 :: r) st h post := J.lvs (lv2 := a0 :: a1 :: a2 :: a3 :: a4 :: a5 :: a6 :: a7 :: a8 :: a9 :: a10 :: a11 :: a12 :: a13 :: a14 :: none :: r) (lv_forget 15 (a0 :: a1 :: a2 :: a3 :: a4 :: a5 :: a6 :: a7 :: a8 :: a9 :: a10 :: a11 :: a12 :: a13 :: a14 :: a15 :: r)) k
theorem J.fg_16 {a0 a1 a2 a3 a4 a5 a6 a7 a8 a9 a10 a11 a12 a13 a14 a15 a16 : Option Value} {r : List (Option Value)} (k : J Y d G kc ks pc (a0 :: a1 :: a2 :: a3 :: a4 :: a5 :: a6 :: a7 :: a8 :: a9 :: a10 :: a11 :: a12 :: a13 :: a14 :: a15 :: none :: r) st h post) : J Y d G kc ks pc (a0 :: a1 :: a2 :: a3 :: a4 :: a5 :: a6 :: a7 :: a8 :: a9 :: a10 :: a11 :: a12 :: a13 :: a14 :: a15 :: a16 :: r) st h post := J.lvs (lv2 := a0 :: a1 :: a2 :: a3 :: a4 :: a5 :: a6 :: a7 :: a8 :: a9 :: a10 :: a11 :: a12 :: a13 :: a14 :: a15 :: none :: r) (lv_forget 16 (a0 :: a1 :: a2 :: a3 :: a4 :: a5 :: a6 :: a7 :: a8 :: a9 :: a10 :: a11 :: a12 :: a13 :: a14 :: a15 :: a16 :: r)) k
theorem J.fg_17 {a0 a1 a2 a3 a4 a5 a6 a7 a8 a9 a10 a11 a12 a13 a14 a15 a16 a17 : Option Value} {r : List (Option Value)} (k : J Y d G kc ks pc (a0 :: a1 :: a2 :: a3 :: a4 :: a5 :: a6 :: a7 :: a8 :: a9 :: a10 :: a11 :: a12 :: a13 :: a14 :: a15 :: a16 :: none :: r) st h post) : J Y d G kc ks pc (a0 :: a1 :: a2 :: a3 :: a4 :: a5 :: a6 :: a7 :: a8 :: a9 :: a10 :: a11 :: a12 :: a13 :: a14 :: a15 :: a16 :: a17 :: r) st h post := J.lvs (lv2 := a0 :: a1 :: a2 :: a3 :: a4 :: a5 :: a6 :: a7 :: a8 :: a9 :: a10 :: a11 :: a12 :: a13 :: a14 :: a15 :: a16 :: none :: r) (lv_forget 17 (a0 :: a1 :: a2 :: a3 :: a4 :: a5 :: a6 :: a7 :: a8 :: a9 :: a10 :: a11 :: a12 :: a13 :: a14 :: a15 :: a16 :: a17 :: r)) k
theorem J.fg_18 {a0 a1 a2 a3 a4 a5 a6 a7 a8 a9 a10 a11 a12 a13 a14 a15 a16 a17 a18 : Option Value} {r : List (Option Value)} (k : J Y d G kc ks pc (a0 :: a1 :: a2 :: a3 :: a4 :: a5 :: a6 :: a7 :: a8 :: a9 :: a10 :: a11 :: a12 :: a13 :: a14 :: a15 :: a16 :: a17 :: none :: r) st h post) : J Y d G kc ks pc (a0 :: a1 :: a2 :: a3 :: a4 :: a5 :: a6 :: a7 :: a8 :: a9 :: a10 :: a11 :: a12 :: a13 :: a14 :: a15 :: a16 :: a17 :: a18 :: r) st h post := J.lvs (lv2 := a0 :: a1 :: a2 :: a3 :: a4 :: a5 :: a6 :: a7 :: a8 :: a9 :: a10 :: a11 :: a12 :: a13 :: a14 :: a15 :: a16 :: a17 :: none :: r) (lv_forget 18 (a0 :: a1 :: a2 :: a3 :: a4 :: a5 :: a6 :: a7 :: a8 :: a9 :: a10 :: a11 :: a12 :: a13 :: a14 :: a15 :: a16 :: a17 :: a18 :: r)) k
theorem J.fg_19 {a0 a1 a2 a3 a4 a5 a6 a7 a8 a9 a10 a11 a12 a13 a14 a15 a16 a17 a18 a19 : Option Value} {r : List (Option Value)} (k : J Y d G kc ks pc (a0 :: a1 :: a2 :: a3 :: a4 :: a5 :: a6 :: a7 :: a8 :: a9 :: a10 :: a11 :: a12 :: a13 :: a14 :: a15 :: a16 :: a17 :: a18 :: none :: r) st h post) : J Y d G kc ks pc (a0 :: a1 :: a2 :: a3 :: a4 :: a5 :: a6 :: a7 :: a8 :: a9 :: a10 :: a11 :: a12 :: a13 :: a14 :: a15 :: a16 :: a17 :: a18 :: a19 :: r) st h post := J.lvs (lv2 := a0 :: a1 :: a2 :: a3 :: a4 :: a5 :: a6 :: a7 :: a8 :: a9 :: a10 :: a11 :: a12 :: a13 :: a14 :: a15 :: a16 :: a17 :: a18 :: none :: r) (lv_forget 19 (a0 :: a1 :: a2 :: a3 :: a4 :: a5 :: a6 :: a7 :: a8 :: a9 :: a10 :: a11 :: a12 :: a13 :: a14 :: a15 :: a16 :: a17 :: a18 :: a19 :: r)) k
end FG
def s_minN (T : MS) : Nat → MS
  | 0 => T
  | k + 1 => (if ((s_minN T k).2 23 k) = 2 then (if ((s_minN T k).2 20 k) = 4 then (if ((s_minN T k).1 0) < ((s_minN T k).2 41 (((s_minN T k).2 25 k).toNatClampNeg)) then (s_minN T k) else ((s_minN T k).1, u2 (u2 (s_minN T k).2 23 k 3) 26 k ((s_minN T k).2 41 (((s_minN T k).2 25 k).toNatClampNeg)))) else (if ((s_minN T k).1 0) < ((s_minN T k).2 40 (((s_minN T k).2 25 k).toNatClampNeg)) then (s_minN T k) else ((s_minN T k).1, u2 (u2 (s_minN T k).2 23 k 3) 26 k ((s_minN T k).2 40 (((s_minN T k).2 25 k).toNatClampNeg))))) else (s_minN T k))
theorem s_minN_1 (T : MS) : ∀ k, (s_minN T k).1 = T.1
  | 0 => rfl
  | k + 1 => by
    have ih := s_minN_1 T k
    simp only [s_minN]
    (repeat' split) <;> exact ih
theorem s_minN_25 (T : MS) : ∀ k, (s_minN T k).2 25 = T.2 25
  | 0 => rfl
  | k + 1 => by
    have ih := s_minN_25 T k
    simp only [s_minN]
    (repeat' split) <;> exact ih
theorem s_minN_23 (T : MS) : ∀ k j, k ≤ j → (s_minN T k).2 23 j = T.2 23 j
  | 0, _, _ => rfl
  | k + 1, j, h => by
    have ih := s_minN_23 T k j (by omega)
    simp only [s_minN]
    (repeat' split) <;> first | exact ih | exact (pk_un (by omega)).trans ih
def r_minute (S : MS) (x : Int32) : Int32 := if ¬ (1 ≤ x ∧ x ≤ 120) ∨ 720 < S.1 0 + x then -1 else S.1 0 + x
def s_minute (S : MS) (n : Nat) (x : Int32) : MS := if ¬ (1 ≤ x ∧ x ≤ 120) ∨ 720 < S.1 0 + x then S else s_minN (vf_upd S.1 0 (S.1 0 + x), S.2) n
theorem k_minute {S : MS} {x : Int32} {d : Nat} {n : Nat} (hN : S.1 28 = nI n) (hn : n ≤ 80) (hB : ∀ k, k < n → S.2 23 k = 2 → vp_in (S.2 25 k) 200) : CM Y_X12_minute (d + 1) [.int x] S (fun r S2 => r = some (.int (r_minute S x)) ∧ S2 = s_minute S n x) := by
  refine CM.of 2 rfl (fun _ => Nat.le_of_ble_eq_true rfl) (by simp [Value.category]) ?_
  intro G m0 ad h0 h post hM hF fin
  show J Y_X12_minute (d + 1) G 0 0 0 [some (.ref m0), some (.int x), none, none] [] h post
  refine J.iload_n 1 dX12_minute_0 rfl rfl ?_
  refine J.iconst 1 2 dX12_minute_1 rfl (by decide) ?_
  refine J.bipush 120 4 dX12_minute_2 rfl (by decide) ?_
  refine mc_153 (k_within (v := x) (a := 1) (b := 120)) rfl 7 dX12_minute_4 rfl rfl rfl (Nat.le_of_ble_eq_true rfl) ?_
  refine J.if_eq 22 10 dX12_minute_7 (by decide) rfl (fun c1 => ?_) (fun c1 => ?_)
  · skip
    refine J.iconst (-1) 23 dX12_minute_22 rfl (by decide) ?_
    exact J.iret dX12_minute_23 rfl (fin _ _ _ ⟨by simp [r_minute, c1, ib_0.mp c1], by simp [s_minute, c1, ib_0.mp c1]⟩ hM hF)
  · skip
    refine J.aload_n 11 dX12_minute_10 rfl rfl ?_
    refine mg_221 hM (x := S.1 0) rfl rfl 14 dX12_minute_11 rfl ?_
    refine J.iload_n 15 dX12_minute_14 rfl rfl ?_
    refine J.iadd 16 dX12_minute_15 rfl ?_
    refine J.sipush 720 19 dX12_minute_16 rfl (by decide) ?_
    refine J.icmp_le 24 22 dX12_minute_19 (by decide) rfl (fun c2 => ?_) (fun c2 => ?_)
    · skip
      refine J.aload_n 25 dX12_minute_24 rfl rfl ?_
      refine J.dup 26 dX12_minute_25 rfl rfl ?_
      refine mg_221 hM (x := S.1 0) rfl rfl 29 dX12_minute_26 rfl ?_
      refine J.iload_n 30 dX12_minute_29 rfl rfl ?_
      refine J.iadd 31 dX12_minute_30 rfl ?_
      refine mp_221 hM hF rfl 34 dX12_minute_31 rfl (fun h hM hF => ?_)
      refine J.iconst 0 35 dX12_minute_34 rfl (by decide) ?_
      refine J.ist_2 36 dX12_minute_35 rfl (by decide) ?_
      have loop36 : ∀ (j k : Nat) (x2 : Int32), k ≤ n → n + 1 ≤ k + j → x2 = nI k → ∀ Sx : MS, Sx = s_minN (vf_upd S.1 0 (S.1 0 + x), S.2) k → ∀ h, MR m0 ad Sx h → MF m0 ad h0 h → J Y_X12_minute (d + 1) G 0 0 36 [some (.ref m0), some (.int x), some (.int x2), none] [] h post := by
        intro j
        induction j with
        | zero => intro k _ g1 g2; exact absurd g2 (by omega)
        | succ j ih =>
          intro k x2 g1 g2 e2 Sx eSx h hM hF
          have q2 : x2.toNatClampNeg = k := by rw [e2]; exact nI_clamp (by omega)
          have hx1 : Sx.1 = (vf_upd S.1 0 (S.1 0 + x), S.2).1 := by rw [eSx]; exact s_minN_1 _ k
          have hNx : Sx.1 28 = nI n := by rw [hx1]; exact hN
          refine J.iload_n 37 dX12_minute_36 rfl rfl ?_
          refine J.aload_n 38 dX12_minute_37 rfl rfl ?_
          refine mg_163 hM (x := Sx.1 28) rfl rfl 41 dX12_minute_38 rfl ?_
          refine J.icmp_ge 118 44 dX12_minute_41 (by decide) rfl (fun c3 => ?_) (fun c3 => ?_)
          · skip
            have hk : k = n := Nat.le_antisymm g1 ((nI_leI (by omega) (by omega)).mp (by rw [← hNx, ← e2]; exact c3))
            refine J.aload_n 119 dX12_minute_118 rfl rfl ?_
            refine mg_221 hM (x := Sx.1 0) rfl rfl 122 dX12_minute_119 rfl ?_
            have hr : Sx.1 0 = S.1 0 + x := by rw [hx1]; rfl
            exact J.iret dX12_minute_122 rfl (fin _ _ _ ⟨by rw [hr]; simp [r_minute, c1, ib_n.mp c1, c2, Int32.not_lt.mpr c2, c3, Int32.not_lt.mpr c3], by rw [eSx, hk]; simp [s_minute, c1, ib_n.mp c1, c2, Int32.not_lt.mpr c2, c3, Int32.not_lt.mpr c3]⟩ hM hF)
          · skip
            have hk : k < n := Nat.lt_of_not_le (fun z => c3 (by rw [hNx, e2]; exact nI_le z (by omega)))
            have hin : vp_in x2 80 := by rw [e2]; exact vp_in_nI (by omega) (by decide)
            have hb : Sx.2 23 k = 2 → vp_in (Sx.2 25 k) 200 := by rw [eSx, s_minN_23 _ k k (Nat.le_refl k), s_minN_25]; exact hB k hk
            refine J.aload_n 45 dX12_minute_44 rfl rfl ?_
            refine mg_71 hM rfl 48 dX12_minute_45 rfl ?_
            refine J.iload_n 49 dX12_minute_48 rfl rfl ?_
            refine ml_ia hM k q2 (x := Sx.2 23 k) rfl rfl rfl (by assumption) 50 dX12_minute_49 rfl ?_
            refine J.iconst 2 51 dX12_minute_50 rfl (by decide) ?_
            have K1 : ∀ S1 : MS, S1 = (if (Sx.2 23 k) = 2 then (if (Sx.2 20 k) = 4 then (if (Sx.1 0) < (Sx.2 41 ((Sx.2 25 k).toNatClampNeg)) then Sx else (Sx.1, u2 (u2 Sx.2 23 k 3) 26 k (Sx.2 41 ((Sx.2 25 k).toNatClampNeg)))) else (if (Sx.1 0) < (Sx.2 40 ((Sx.2 25 k).toNatClampNeg)) then Sx else (Sx.1, u2 (u2 Sx.2 23 k 3) 26 k (Sx.2 40 ((Sx.2 25 k).toNatClampNeg))))) else Sx) → ∀ h, MR m0 ad S1 h → MF m0 ad h0 h → J Y_X12_minute (d + 1) G 0 0 112 [some (.ref m0), some (.int x), some (.int x2), none] [] h post := by
              intro S1 eS1 h hM hF
              refine J.iinc_2 1 115 dX12_minute_112 rfl (by decide) (by decide) ?_
              refine J.goto 36 dX12_minute_115 (by decide) ?_
              exact ih (k + 1) _ (by omega) (by omega)  (by rw [e2]; exact nI_1 k) _ (by rw [eS1, eSx]; rfl) _ hM hF
            refine J.icmp_ne 112 54 dX12_minute_51 (by decide) rfl (fun c4 => ?_) (fun c4 => ?_)
            · skip
              exact K1 _ (by first | (simp only [if_neg c1, if_pos c2, if_neg c3, if_neg c4]; done) | (simp only [if_neg c1, if_pos c2, if_neg c3, if_neg c4]; rfl) | (simp [c1, ib_n.mp c1, c2, Int32.not_lt.mpr c2, c3, Int32.not_le.mp c3, c4]; done)) _ hM hF
            · skip
              refine J.aload_n 55 dX12_minute_54 rfl rfl ?_
              refine mg_62 hM rfl 58 dX12_minute_55 rfl ?_
              refine J.iload_n 59 dX12_minute_58 rfl rfl ?_
              refine ml_ia hM k q2 (x := Sx.2 20 k) rfl rfl rfl (by assumption) 60 dX12_minute_59 rfl ?_
              refine J.iconst 4 61 dX12_minute_60 rfl (by decide) ?_
              refine J.icmp_ne 78 64 dX12_minute_61 (by decide) rfl (fun c5 => ?_) (fun c5 => ?_)
              · skip
                refine J.aload_n 79 dX12_minute_78 rfl rfl ?_
                refine mg_110 hM rfl 82 dX12_minute_79 rfl ?_
                refine J.aload_n 83 dX12_minute_82 rfl rfl ?_
                refine mg_77 hM rfl 86 dX12_minute_83 rfl ?_
                refine J.iload_n 87 dX12_minute_86 rfl rfl ?_
                refine ml_ia hM k q2 (x := Sx.2 25 k) rfl rfl rfl (by assumption) 88 dX12_minute_87 rfl ?_
                refine ml_ia hM ((Sx.2 25 k).toNatClampNeg) rfl (x := Sx.2 40 ((Sx.2 25 k).toNatClampNeg)) rfl rfl rfl (hb (by assumption)) 89 dX12_minute_88 rfl ?_
                refine J.ist_3 90 dX12_minute_89 rfl (by decide) ?_
                refine J.iload_n 91 dX12_minute_90 rfl rfl ?_
                refine J.aload_n 92 dX12_minute_91 rfl rfl ?_
                refine mg_221 hM (x := Sx.1 0) rfl rfl 95 dX12_minute_92 rfl ?_
                refine J.icmp_gt 112 98 dX12_minute_95 (by decide) rfl (fun c6 => ?_) (fun c6 => ?_)
                · skip
                  refine J.fg_3 ?_
                  exact K1 _ (by first | (simp only [if_neg c1, if_pos c2, if_neg c3, if_pos c4, if_neg c5, if_pos c6]; done) | (simp only [if_neg c1, if_pos c2, if_neg c3, if_pos c4, if_neg c5, if_pos c6]; rfl) | (simp [c1, ib_n.mp c1, c2, Int32.not_lt.mpr c2, c3, Int32.not_le.mp c3, c4, c5, c6, Int32.not_le.mpr c6]; done)) _ hM hF
                · skip
                  refine J.aload_n 99 dX12_minute_98 rfl rfl ?_
                  refine mg_71 hM rfl 102 dX12_minute_99 rfl ?_
                  refine J.iload_n 103 dX12_minute_102 rfl rfl ?_
                  refine J.iconst 3 104 dX12_minute_103 rfl (by decide) ?_
                  refine ml_is hM hF k q2 rfl rfl (by assumption) 105 dX12_minute_104 rfl (fun h hM hF => ?_)
                  refine J.aload_n 106 dX12_minute_105 rfl rfl ?_
                  refine mg_80 hM rfl 109 dX12_minute_106 rfl ?_
                  refine J.iload_n 110 dX12_minute_109 rfl rfl ?_
                  refine J.iload_n 111 dX12_minute_110 rfl rfl ?_
                  refine ml_is hM hF k q2 rfl rfl (by assumption) 112 dX12_minute_111 rfl (fun h hM hF => ?_)
                  refine J.fg_3 ?_
                  exact K1 _ (by first | (simp only [if_neg c1, if_pos c2, if_neg c3, if_pos c4, if_neg c5, if_neg c6]; done) | (simp only [if_neg c1, if_pos c2, if_neg c3, if_pos c4, if_neg c5, if_neg c6]; rfl) | (simp [c1, ib_n.mp c1, c2, Int32.not_lt.mpr c2, c3, Int32.not_le.mp c3, c4, c5, c6, Int32.not_lt.mp c6]; done)) _ hM hF
              · skip
                refine J.aload_n 65 dX12_minute_64 rfl rfl ?_
                refine mg_113 hM rfl 68 dX12_minute_65 rfl ?_
                refine J.aload_n 69 dX12_minute_68 rfl rfl ?_
                refine mg_77 hM rfl 72 dX12_minute_69 rfl ?_
                refine J.iload_n 73 dX12_minute_72 rfl rfl ?_
                refine ml_ia hM k q2 (x := Sx.2 25 k) rfl rfl rfl (by assumption) 74 dX12_minute_73 rfl ?_
                refine ml_ia hM ((Sx.2 25 k).toNatClampNeg) rfl (x := Sx.2 41 ((Sx.2 25 k).toNatClampNeg)) rfl rfl rfl (hb (by assumption)) 75 dX12_minute_74 rfl ?_
                refine J.goto 89 dX12_minute_75 (by decide) ?_
                refine J.ist_3 90 dX12_minute_89 rfl (by decide) ?_
                refine J.iload_n 91 dX12_minute_90 rfl rfl ?_
                refine J.aload_n 92 dX12_minute_91 rfl rfl ?_
                refine mg_221 hM (x := Sx.1 0) rfl rfl 95 dX12_minute_92 rfl ?_
                refine J.icmp_gt 112 98 dX12_minute_95 (by decide) rfl (fun c7 => ?_) (fun c7 => ?_)
                · skip
                  refine J.fg_3 ?_
                  exact K1 _ (by first | (simp only [if_neg c1, if_pos c2, if_neg c3, if_pos c4, if_pos c5, if_pos c7]; done) | (simp only [if_neg c1, if_pos c2, if_neg c3, if_pos c4, if_pos c5, if_pos c7]; rfl) | (simp [c1, ib_n.mp c1, c2, Int32.not_lt.mpr c2, c3, Int32.not_le.mp c3, c4, c5, c7, Int32.not_le.mpr c7]; done)) _ hM hF
                · skip
                  refine J.aload_n 99 dX12_minute_98 rfl rfl ?_
                  refine mg_71 hM rfl 102 dX12_minute_99 rfl ?_
                  refine J.iload_n 103 dX12_minute_102 rfl rfl ?_
                  refine J.iconst 3 104 dX12_minute_103 rfl (by decide) ?_
                  refine ml_is hM hF k q2 rfl rfl (by assumption) 105 dX12_minute_104 rfl (fun h hM hF => ?_)
                  refine J.aload_n 106 dX12_minute_105 rfl rfl ?_
                  refine mg_80 hM rfl 109 dX12_minute_106 rfl ?_
                  refine J.iload_n 110 dX12_minute_109 rfl rfl ?_
                  refine J.iload_n 111 dX12_minute_110 rfl rfl ?_
                  refine ml_is hM hF k q2 rfl rfl (by assumption) 112 dX12_minute_111 rfl (fun h hM hF => ?_)
                  refine J.fg_3 ?_
                  exact K1 _ (by first | (simp only [if_neg c1, if_pos c2, if_neg c3, if_pos c4, if_pos c5, if_neg c7]; done) | (simp only [if_neg c1, if_pos c2, if_neg c3, if_pos c4, if_pos c5, if_neg c7]; rfl) | (simp [c1, ib_n.mp c1, c2, Int32.not_lt.mpr c2, c3, Int32.not_le.mp c3, c4, c5, c7, Int32.not_lt.mp c7]; done)) _ hM hF
      exact loop36 (n + 1) 0 _ (Nat.zero_le _) (by omega)  rfl _ rfl _ hM hF
    · skip
      refine J.iconst (-1) 23 dX12_minute_22 rfl (by decide) ?_
      exact J.iret dX12_minute_23 rfl (fin _ _ _ ⟨by simp [r_minute, c1, ib_n.mp c1, c2, Int32.not_le.mp c2], by simp [s_minute, c1, ib_n.mp c1, c2, Int32.not_le.mp c2]⟩ hM hF)
