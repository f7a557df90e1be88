def ib (p : Prop) [Decidable p] : Int32 := if p then 1 else 0
theorem ib_0 {p : Prop} [Decidable p] : ib p = 0 ↔ ¬ p := by unfold ib; by_cases h : p <;> simp [h]
theorem ib_01 {p : Prop} [Decidable p] : ib p = 0 ∨ ib p = 1 := by unfold ib; by_cases h : p <;> simp [h]
theorem ib_t {p : Prop} [Decidable p] (h : p) : ib p = 1 := if_pos h
theorem ib_f {p : Prop} [Decidable p] (h : ¬ p) : ib p = 0 := if_neg h
theorem CF.of {Y : YM} {d : Nat} {av : List Value} {v : Int32} (n : Nat) (hy : plainName Y.1.cls = true) (hn : (lg_sl av).length ≤ Y.2.2.1) (ha : ∀ v ∈ av, v.category = 1)
    (k : ∀ (G : Nat → Nat) (h : AH) (post : Option Value → AH → Prop), (∀ x, x = v → post (some (.int x)) h) → J Y d G 0 0 0 (av.map some ++ List.replicate n none) [] h post) : CF Y d av v := fun G h => Ct.ofn n hy hn ha (k G h _ (fun x e => ⟨by rw [e], rfl⟩))
theorem CM.of {Y : YM} {d : Nat} {av : List Value} {S : MS} {p : Option Value → MS → Prop} (n : Nat) (hy : plainName Y.1.cls = true) (hn : ∀ m0 : Nat, (lg_sl (.ref m0 :: av)).length ≤ Y.2.2.1) (ha : ∀ v ∈ av, v.category = 1)
    (k : ∀ (G : Nat → Nat) (m0 : Nat) (ad : Nat → Nat) (h0 h : AH) (post : Option Value → AH → Prop), MR m0 ad S h → MF m0 ad h0 h → (∀ r S2 h, p r S2 → MR m0 ad S2 h → MF m0 ad h0 h → post r h) → J Y d G 0 0 0 (some (.ref m0) :: (av.map some ++ List.replicate n none)) [] h post) : CM Y d av S p :=
  fun G m0 ad h0 h hM hF => Ct.ofn n hy (hn m0) (List.forall_mem_cons.mpr ⟨rfl, ha⟩) (k G m0 ad h0 h _ hM hF (fun r S2 h2 q1 q2 q3 => ⟨S2, q1, q2, q3⟩))
theorem k_within {v : Int32} {a : Int32} {b : Int32} {d : Nat} : CF Y_X12_within d [.int v, .int a, .int b] (ib (a ≤ v ∧ v ≤ b)) := by
  refine CF.of 0 rfl (Nat.le_of_ble_eq_true rfl) (by simp [Value.category]) ?_
  intro G h post fin
  show J Y_X12_within d G 0 0 0 [some (.int v), some (.int a), some (.int b)] [] h post
  refine J.iload_n 1 dX12_within_0 rfl rfl ?_
  refine J.iload_n 2 dX12_within_1 rfl rfl ?_
  refine J.icmp_lt 14 5 dX12_within_2 (by decide) rfl (fun c1 => ?_) (fun c1 => ?_)
  · skip
    refine J.iconst 0 15 dX12_within_14 rfl (by decide) ?_
    exact J.zret dX12_within_15 rfl (Or.inl rfl) (fin _ (by simp [ib, c1, Int32.not_le.mpr c1]))
  · skip
    refine J.iload_n 6 dX12_within_5 rfl rfl ?_
    refine J.iload_n 7 dX12_within_6 rfl rfl ?_
    refine J.icmp_gt 14 10 dX12_within_7 (by decide) rfl (fun c2 => ?_) (fun c2 => ?_)
    · skip
      refine J.iconst 0 15 dX12_within_14 rfl (by decide) ?_
      exact J.zret dX12_within_15 rfl (Or.inl rfl) (fin _ (by simp [ib, c1, Int32.not_lt.mp c1, c2, Int32.not_le.mpr c2]))
    · skip
      refine J.iconst 1 11 dX12_within_10 rfl (by decide) ?_
      refine J.goto 15 dX12_within_11 (by decide) ?_
      exact J.zret dX12_within_15 rfl (Or.inr rfl) (fin _ (by simp [ib, c1, Int32.not_lt.mp c1, c2, Int32.not_lt.mp c2]))
theorem k_isDigit {c : Int32} {d : Nat} : CF Y_X12_isDigit d [.int c] (ib (48 ≤ c ∧ c ≤ 57)) := by
  refine CF.of 0 rfl (Nat.le_of_ble_eq_true rfl) (by simp [Value.category]) ?_
  intro G h post fin
  show J Y_X12_isDigit d G 0 0 0 [some (.int c)] [] h post
  refine J.iload_n 1 dX12_isDigit_0 rfl rfl ?_
  refine J.bipush 48 3 dX12_isDigit_1 rfl (by decide) ?_
  refine J.icmp_lt 16 6 dX12_isDigit_3 (by decide) rfl (fun c1 => ?_) (fun c1 => ?_)
  · skip
    refine J.iconst 0 17 dX12_isDigit_16 rfl (by decide) ?_
    exact J.zret dX12_isDigit_17 rfl (Or.inl rfl) (fin _ (by simp [ib, c1, Int32.not_le.mpr c1]))
  · skip
    refine J.iload_n 7 dX12_isDigit_6 rfl rfl ?_
    refine J.bipush 57 9 dX12_isDigit_7 rfl (by decide) ?_
    refine J.icmp_gt 16 12 dX12_isDigit_9 (by decide) rfl (fun c2 => ?_) (fun c2 => ?_)
    · skip
      refine J.iconst 0 17 dX12_isDigit_16 rfl (by decide) ?_
      exact J.zret dX12_isDigit_17 rfl (Or.inl rfl) (fin _ (by simp [ib, c1, Int32.not_lt.mp c1, c2, Int32.not_le.mpr c2]))
    · skip
      refine J.iconst 1 13 dX12_isDigit_12 rfl (by decide) ?_
      refine J.goto 17 dX12_isDigit_13 (by decide) ?_
      exact J.zret dX12_isDigit_17 rfl (Or.inr rfl) (fin _ (by simp [ib, c1, Int32.not_lt.mp c1, c2, Int32.not_lt.mp c2]))
theorem k_isTwo {c : Int32} {d : Nat} : CF Y_X12_isTwo d [.int c] (ib (c = 43 ∨ c = 45 ∨ c = 42 ∨ c = 60 ∨ c = 61 ∨ c = 62 ∨ c = 38 ∨ c = 124)) := by
  refine CF.of 0 rfl (Nat.le_of_ble_eq_true rfl) (by simp [Value.category]) ?_
  intro G h post fin
  show J Y_X12_isTwo d G 0 0 0 [some (.int c)] [] h post
  refine J.iload_n 1 dX12_isTwo_0 rfl rfl ?_
  refine J.bipush 43 3 dX12_isTwo_1 rfl (by decide) ?_
  refine J.icmp_eq 48 6 dX12_isTwo_3 (by decide) rfl (fun c1 => ?_) (fun c1 => ?_)
  · skip
    refine J.iconst 1 49 dX12_isTwo_48 rfl (by decide) ?_
    refine J.goto 53 dX12_isTwo_49 (by decide) ?_
    exact J.zret dX12_isTwo_53 rfl (Or.inr rfl) (fin _ (by simp [ib, c1]))
  · skip
    refine J.iload_n 7 dX12_isTwo_6 rfl rfl ?_
    refine J.bipush 45 9 dX12_isTwo_7 rfl (by decide) ?_
    refine J.icmp_eq 48 12 dX12_isTwo_9 (by decide) rfl (fun c2 => ?_) (fun c2 => ?_)
    · skip
      refine J.iconst 1 49 dX12_isTwo_48 rfl (by decide) ?_
      refine J.goto 53 dX12_isTwo_49 (by decide) ?_
      exact J.zret dX12_isTwo_53 rfl (Or.inr rfl) (fin _ (by simp [ib, c1, c2]))
    · skip
      refine J.iload_n 13 dX12_isTwo_12 rfl rfl ?_
      refine J.bipush 42 15 dX12_isTwo_13 rfl (by decide) ?_
      refine J.icmp_eq 48 18 dX12_isTwo_15 (by decide) rfl (fun c3 => ?_) (fun c3 => ?_)
      · skip
        refine J.iconst 1 49 dX12_isTwo_48 rfl (by decide) ?_
        refine J.goto 53 dX12_isTwo_49 (by decide) ?_
        exact J.zret dX12_isTwo_53 rfl (Or.inr rfl) (fin _ (by simp [ib, c1, c2, c3]))
      · skip
        refine J.iload_n 19 dX12_isTwo_18 rfl rfl ?_
        refine J.bipush 60 21 dX12_isTwo_19 rfl (by decide) ?_
        refine J.icmp_eq 48 24 dX12_isTwo_21 (by decide) rfl (fun c4 => ?_) (fun c4 => ?_)
        · skip
          refine J.iconst 1 49 dX12_isTwo_48 rfl (by decide) ?_
          refine J.goto 53 dX12_isTwo_49 (by decide) ?_
          exact J.zret dX12_isTwo_53 rfl (Or.inr rfl) (fin _ (by simp [ib, c1, c2, c3, c4]))
        · skip
          refine J.iload_n 25 dX12_isTwo_24 rfl rfl ?_
          refine J.bipush 61 27 dX12_isTwo_25 rfl (by decide) ?_
          refine J.icmp_eq 48 30 dX12_isTwo_27 (by decide) rfl (fun c5 => ?_) (fun c5 => ?_)
          · skip
            refine J.iconst 1 49 dX12_isTwo_48 rfl (by decide) ?_
            refine J.goto 53 dX12_isTwo_49 (by decide) ?_
            exact J.zret dX12_isTwo_53 rfl (Or.inr rfl) (fin _ (by simp [ib, c1, c2, c3, c4, c5]))
          · skip
            refine J.iload_n 31 dX12_isTwo_30 rfl rfl ?_
            refine J.bipush 62 33 dX12_isTwo_31 rfl (by decide) ?_
            refine J.icmp_eq 48 36 dX12_isTwo_33 (by decide) rfl (fun c6 => ?_) (fun c6 => ?_)
            · skip
              refine J.iconst 1 49 dX12_isTwo_48 rfl (by decide) ?_
              refine J.goto 53 dX12_isTwo_49 (by decide) ?_
              exact J.zret dX12_isTwo_53 rfl (Or.inr rfl) (fin _ (by simp [ib, c1, c2, c3, c4, c5, c6]))
            · skip
              refine J.iload_n 37 dX12_isTwo_36 rfl rfl ?_
              refine J.bipush 38 39 dX12_isTwo_37 rfl (by decide) ?_
              refine J.icmp_eq 48 42 dX12_isTwo_39 (by decide) rfl (fun c7 => ?_) (fun c7 => ?_)
              · skip
                refine J.iconst 1 49 dX12_isTwo_48 rfl (by decide) ?_
                refine J.goto 53 dX12_isTwo_49 (by decide) ?_
                exact J.zret dX12_isTwo_53 rfl (Or.inr rfl) (fin _ (by simp [ib, c1, c2, c3, c4, c5, c6, c7]))
              · skip
                refine J.iload_n 43 dX12_isTwo_42 rfl rfl ?_
                refine J.bipush 124 45 dX12_isTwo_43 rfl (by decide) ?_
                refine J.icmp_ne 52 48 dX12_isTwo_45 (by decide) rfl (fun c8 => ?_) (fun c8 => ?_)
                · skip
                  refine J.iconst 0 53 dX12_isTwo_52 rfl (by decide) ?_
                  exact J.zret dX12_isTwo_53 rfl (Or.inl rfl) (fin _ (by simp [ib, c1, c2, c3, c4, c5, c6, c7, c8]))
                · skip
                  refine J.iconst 1 49 dX12_isTwo_48 rfl (by decide) ?_
                  refine J.goto 53 dX12_isTwo_49 (by decide) ?_
                  exact J.zret dX12_isTwo_53 rfl (Or.inr rfl) (fin _ (by simp [ib, c1, c2, c3, c4, c5, c6, c7, c8]))
theorem k_isName {c : Int32} {d : Nat} : CF Y_X12_isName d [.int c] (ib (c = 119 ∨ c = 116 ∨ c = 115 ∨ c = 104 ∨ c = 109 ∨ c = 112 ∨ c = 101 ∨ c = 107 ∨ c = 108 ∨ c = 110 ∨ c = 102)) := by
  refine CF.of 0 rfl (Nat.le_of_ble_eq_true rfl) (by simp [Value.category]) ?_
  intro G h post fin
  show J Y_X12_isName d G 0 0 0 [some (.int c)] [] h post
  refine J.iload_n 1 dX12_isName_0 rfl rfl ?_
  refine J.bipush 119 3 dX12_isName_1 rfl (by decide) ?_
  refine J.icmp_eq 66 6 dX12_isName_3 (by decide) rfl (fun c1 => ?_) (fun c1 => ?_)
  · skip
    refine J.iconst 1 67 dX12_isName_66 rfl (by decide) ?_
    refine J.goto 71 dX12_isName_67 (by decide) ?_
    exact J.zret dX12_isName_71 rfl (Or.inr rfl) (fin _ (by simp [ib, c1]))
  · skip
    refine J.iload_n 7 dX12_isName_6 rfl rfl ?_
    refine J.bipush 116 9 dX12_isName_7 rfl (by decide) ?_
    refine J.icmp_eq 66 12 dX12_isName_9 (by decide) rfl (fun c2 => ?_) (fun c2 => ?_)
    · skip
      refine J.iconst 1 67 dX12_isName_66 rfl (by decide) ?_
      refine J.goto 71 dX12_isName_67 (by decide) ?_
      exact J.zret dX12_isName_71 rfl (Or.inr rfl) (fin _ (by simp [ib, c1, c2]))
    · skip
      refine J.iload_n 13 dX12_isName_12 rfl rfl ?_
      refine J.bipush 115 15 dX12_isName_13 rfl (by decide) ?_
      refine J.icmp_eq 66 18 dX12_isName_15 (by decide) rfl (fun c3 => ?_) (fun c3 => ?_)
      · skip
        refine J.iconst 1 67 dX12_isName_66 rfl (by decide) ?_
        refine J.goto 71 dX12_isName_67 (by decide) ?_
        exact J.zret dX12_isName_71 rfl (Or.inr rfl) (fin _ (by simp [ib, c1, c2, c3]))
      · skip
        refine J.iload_n 19 dX12_isName_18 rfl rfl ?_
        refine J.bipush 104 21 dX12_isName_19 rfl (by decide) ?_
        refine J.icmp_eq 66 24 dX12_isName_21 (by decide) rfl (fun c4 => ?_) (fun c4 => ?_)
        · skip
          refine J.iconst 1 67 dX12_isName_66 rfl (by decide) ?_
          refine J.goto 71 dX12_isName_67 (by decide) ?_
          exact J.zret dX12_isName_71 rfl (Or.inr rfl) (fin _ (by simp [ib, c1, c2, c3, c4]))
        · skip
          refine J.iload_n 25 dX12_isName_24 rfl rfl ?_
          refine J.bipush 109 27 dX12_isName_25 rfl (by decide) ?_
          refine J.icmp_eq 66 30 dX12_isName_27 (by decide) rfl (fun c5 => ?_) (fun c5 => ?_)
          · skip
            refine J.iconst 1 67 dX12_isName_66 rfl (by decide) ?_
            refine J.goto 71 dX12_isName_67 (by decide) ?_
            exact J.zret dX12_isName_71 rfl (Or.inr rfl) (fin _ (by simp [ib, c1, c2, c3, c4, c5]))
          · skip
            refine J.iload_n 31 dX12_isName_30 rfl rfl ?_
            refine J.bipush 112 33 dX12_isName_31 rfl (by decide) ?_
            refine J.icmp_eq 66 36 dX12_isName_33 (by decide) rfl (fun c6 => ?_) (fun c6 => ?_)
            · skip
              refine J.iconst 1 67 dX12_isName_66 rfl (by decide) ?_
              refine J.goto 71 dX12_isName_67 (by decide) ?_
              exact J.zret dX12_isName_71 rfl (Or.inr rfl) (fin _ (by simp [ib, c1, c2, c3, c4, c5, c6]))
            · skip
              refine J.iload_n 37 dX12_isName_36 rfl rfl ?_
              refine J.bipush 101 39 dX12_isName_37 rfl (by decide) ?_
              refine J.icmp_eq 66 42 dX12_isName_39 (by decide) rfl (fun c7 => ?_) (fun c7 => ?_)
              · skip
                refine J.iconst 1 67 dX12_isName_66 rfl (by decide) ?_
                refine J.goto 71 dX12_isName_67 (by decide) ?_
                exact J.zret dX12_isName_71 rfl (Or.inr rfl) (fin _ (by simp [ib, c1, c2, c3, c4, c5, c6, c7]))
              · skip
                refine J.iload_n 43 dX12_isName_42 rfl rfl ?_
                refine J.bipush 107 45 dX12_isName_43 rfl (by decide) ?_
                refine J.icmp_eq 66 48 dX12_isName_45 (by decide) rfl (fun c8 => ?_) (fun c8 => ?_)
                · skip
                  refine J.iconst 1 67 dX12_isName_66 rfl (by decide) ?_
                  refine J.goto 71 dX12_isName_67 (by decide) ?_
                  exact J.zret dX12_isName_71 rfl (Or.inr rfl) (fin _ (by simp [ib, c1, c2, c3, c4, c5, c6, c7, c8]))
                · skip
                  refine J.iload_n 49 dX12_isName_48 rfl rfl ?_
                  refine J.bipush 108 51 dX12_isName_49 rfl (by decide) ?_
                  refine J.icmp_eq 66 54 dX12_isName_51 (by decide) rfl (fun c9 => ?_) (fun c9 => ?_)
                  · skip
                    refine J.iconst 1 67 dX12_isName_66 rfl (by decide) ?_
                    refine J.goto 71 dX12_isName_67 (by decide) ?_
                    exact J.zret dX12_isName_71 rfl (Or.inr rfl) (fin _ (by simp [ib, c1, c2, c3, c4, c5, c6, c7, c8, c9]))
                  · skip
                    refine J.iload_n 55 dX12_isName_54 rfl rfl ?_
                    refine J.bipush 110 57 dX12_isName_55 rfl (by decide) ?_
                    refine J.icmp_eq 66 60 dX12_isName_57 (by decide) rfl (fun c10 => ?_) (fun c10 => ?_)
                    · skip
                      refine J.iconst 1 67 dX12_isName_66 rfl (by decide) ?_
                      refine J.goto 71 dX12_isName_67 (by decide) ?_
                      exact J.zret dX12_isName_71 rfl (Or.inr rfl) (fin _ (by simp [ib, c1, c2, c3, c4, c5, c6, c7, c8, c9, c10]))
                    · skip
                      refine J.iload_n 61 dX12_isName_60 rfl rfl ?_
                      refine J.bipush 102 63 dX12_isName_61 rfl (by decide) ?_
                      refine J.icmp_ne 70 66 dX12_isName_63 (by decide) rfl (fun c11 => ?_) (fun c11 => ?_)
                      · skip
                        refine J.iconst 0 71 dX12_isName_70 rfl (by decide) ?_
                        exact J.zret dX12_isName_71 rfl (Or.inl rfl) (fin _ (by simp [ib, c1, c2, c3, c4, c5, c6, c7, c8, c9, c10, c11]))
                      · skip
                        refine J.iconst 1 67 dX12_isName_66 rfl (by decide) ?_
                        refine J.goto 71 dX12_isName_67 (by decide) ?_
                        exact J.zret dX12_isName_71 rfl (Or.inr rfl) (fin _ (by simp [ib, c1, c2, c3, c4, c5, c6, c7, c8, c9, c10, c11]))
def m_hour (m : Int32) : Int32 := if 720 ≤ m then 11 else m / 60
theorem k_hourOf {m : Int32} {d : Nat} : CF Y_X12_hourOf d [.int m] (m_hour m) := by
  refine CF.of 0 rfl (Nat.le_of_ble_eq_true rfl) (by simp [Value.category]) ?_
  intro G h post fin
  show J Y_X12_hourOf d G 0 0 0 [some (.int m)] [] h post
  refine J.iload_n 1 dX12_hourOf_0 rfl rfl ?_
  refine J.sipush 720 4 dX12_hourOf_1 rfl (by decide) ?_
  refine J.icmp_lt 12 7 dX12_hourOf_4 (by decide) rfl (fun c1 => ?_) (fun c1 => ?_)
  · skip
    refine J.iload_n 13 dX12_hourOf_12 rfl rfl ?_
    refine J.bipush 60 15 dX12_hourOf_13 rfl (by decide) ?_
    refine J.idiv 16 dX12_hourOf_15 rfl (by decide) ?_
    exact J.iret dX12_hourOf_16 rfl (fin _ (by simp [m_hour, c1, Int32.not_le.mpr c1]))
  · skip
    refine J.bipush 11 9 dX12_hourOf_7 rfl (by decide) ?_
    refine J.goto 16 dX12_hourOf_9 (by decide) ?_
    exact J.iret dX12_hourOf_16 rfl (fin _ (by simp [m_hour, c1, Int32.not_lt.mp c1]))
