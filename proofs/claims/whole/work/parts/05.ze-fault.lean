def dgt (b x : Int32) : Int32 := if 48 ≤ b ∧ b ≤ 57 then x + 1 else 0
def cfF (S : MS) : Nat → Nat → Int32 → Int32 → Int32
  | 0, k, x1, _ => if x1 = 1 then -1 else nI k
  | j + 1, k, x1, x2 => if 3 < dgt (S.2 29 k) x2 then nI k else if 1 < dgt (S.2 29 k) x2 ∨ S.2 29 k = 32 then cfF S j (k + 1) x1 (dgt (S.2 29 k) x2) else if tbN (S.2 29 k) < 0 ∨ x1 < tbN (S.2 29 k) then nI k else if 20 < x1 + (1 - tbN (S.2 29 k)) then nI k else cfF S j (k + 1) (x1 + (1 - tbN (S.2 29 k))) (dgt (S.2 29 k) x2)
theorem c_fault {G : Nat → Nat} {O : Nat → Prop} {ad : Nat → Nat → Nat} {S X : MS} {L : Nat → List Nat} {wn : Nat → Option Nat} {sl : Nat → Nat} {fl : Nat} {h : AH} {d : Nat} {q : Nat} (hK : KR G O ad S X L wn sl fl h) (ht : S.1 30 = nI q) (hq : q ≤ 60) : Ct Y_X9_firstFault (d + 5) G 0 0 [.ref (ad 11 0)] h (fun r h2 => r = some (.int (cfF S q 0 0 0)) ∧ h2 = h) := by
  refine Ct.ofn 4 rfl (Nat.le_of_ble_eq_true rfl) (by simp [Value.category]) ?_
  generalize hpost : (fun (r : Option Value) (h2 : AH) => r = some (.int (cfF S q 0 0 0)) ∧ h2 = h) = post
  show J Y_X9_firstFault (d + 5) G 0 0 0 [some (.ref (ad 11 0)), none, none, none, none] [] h post
  refine J.iconst 0 1 dX9_firstFault_0 rfl (by decide) ?_
  refine J.ist_1 2 dX9_firstFault_1 rfl (by decide) ?_
  refine J.iconst 0 3 dX9_firstFault_2 rfl (by decide) ?_
  refine J.ist_2 4 dX9_firstFault_3 rfl (by decide) ?_
  refine J.iconst 0 5 dX9_firstFault_4 rfl (by decide) ?_
  refine J.ist_3 6 dX9_firstFault_5 rfl (by decide) ?_
  have loop6 : ∀ (j k : Nat) (x1 x2 x3 : Int32), k ≤ q → q + 1 ≤ k + j → x3 = nI k → (cfF S (q - k) k x1 x2 = cfF S q 0 0 0) → J Y_X9_firstFault (d + 5) G 0 0 6 [some (.ref (ad 11 0)), some (.int x1), some (.int x2), some (.int x3), none] [] h post := by
    intro j
    induction j with
    | zero => intro k _ _ _ g1 g2; exact absurd g2 (by omega)
    | succ j ih =>
      intro k x1 x2 x3 g1 g2 e3 hI 
      have q3 : x3.toNatClampNeg = k := by rw [e3]; exact nI_clamp (by omega)
      refine J.iload_n 7 dX9_firstFault_6 rfl rfl ?_
      refine J.aload_n 8 dX9_firstFault_7 rfl rfl ?_
      refine gf_X9_15 rfl 11 dX9_firstFault_8 rfl (hK.tape) (v := .int (S.1 30)) rfl ?_
      refine J.icmp_ge 105 14 dX9_firstFault_11 (by decide) rfl (fun c1 => ?_) (fun c1 => ?_)
      · skip
        have hk : k = q := Nat.le_antisymm g1 ((nI_leI (by omega) (by omega)).mp (by have z := c1; rw [e3, ht] at z; exact z))
        refine J.iload_n 106 dX9_firstFault_105 rfl rfl ?_
        refine J.iconst 1 107 dX9_firstFault_106 rfl (by decide) ?_
        refine J.icmp_ne 114 110 dX9_firstFault_107 (by decide) rfl (fun c2 => ?_) (fun c2 => ?_)
        · skip
          refine J.aload_n 115 dX9_firstFault_114 rfl rfl ?_
          refine gf_X9_15 rfl 118 dX9_firstFault_115 rfl (hK.tape) (v := .int (S.1 30)) rfl ?_
          exact J.iret dX9_firstFault_118 rfl (by rw [← hpost]; exact ⟨by rw [← hI, hk, Nat.sub_self, cfF, if_neg c2, ht], rfl⟩)
        · skip
          refine J.iconst (-1) 111 dX9_firstFault_110 rfl (by decide) ?_
          refine J.goto 118 dX9_firstFault_111 (by decide) ?_
          exact J.iret dX9_firstFault_118 rfl (by rw [← hpost]; exact ⟨by rw [← hI, hk, Nat.sub_self, cfF, if_pos c2], rfl⟩)
      · skip
        have hk : k < q := Nat.lt_of_not_le (fun y => c1 (by rw [e3, ht]; exact nI_le y (by omega)))
        have hin : vp_in x3 60 := by rw [e3]; exact vp_in_nI (by omega) (by decide)
        refine J.aload_n 15 dX9_firstFault_14 rfl rfl ?_
        refine gf_X9_9 rfl 18 dX9_firstFault_15 rfl (hK.tape) (v := .ref (ad 15 3)) rfl ?_
        refine J.iload_n 19 dX9_firstFault_18 rfl rfl ?_
        refine J.iald2 k q3 (x := S.2 29 k) rfl 20 dX9_firstFault_19 rfl hK.arr3 (by assumption) ?_
        refine cs_X9_19 rfl 23 (c_isDig (c := S.2 29 k) _ _) dX9_firstFault_20 rfl rfl rfl (Nat.le_of_ble_eq_true rfl) (Nat.zero_le _) (Nat.zero_le _) (fun r h2 hp => ?_)
        obtain ⟨rfl, rfl⟩ := hp
        refine J.if_eq 32 26 dX9_firstFault_23 (by decide) rfl (fun c3 => ?_) (fun c3 => ?_)
        · skip
          have hd : dgt (S.2 29 k) x2 = 0 := if_neg (ib_0.mp c3)
          refine J.iconst 0 33 dX9_firstFault_32 rfl (by decide) ?_
          refine J.ist_2 34 dX9_firstFault_33 rfl (by decide) ?_
          refine J.iload_n 35 dX9_firstFault_34 rfl rfl ?_
          refine J.iconst 3 36 dX9_firstFault_35 rfl (by decide) ?_
          refine J.icmp_le 41 39 dX9_firstFault_36 (by decide) rfl (fun c4 => ?_) (fun c4 => ?_)
          · skip
            have h36 := Int32.not_lt.mpr c4
            refine J.iload_n 42 dX9_firstFault_41 rfl rfl ?_
            refine J.iconst 1 43 dX9_firstFault_42 rfl (by decide) ?_
            refine J.icmp_gt 99 46 dX9_firstFault_43 (by decide) rfl (fun c5 => ?_) (fun c5 => ?_)
            · skip
              have h43 := Or.inl (b := S.2 29 k = 32) c5
              refine J.iinc_3 1 102 dX9_firstFault_99 rfl (by decide) (by decide) ?_
              refine J.goto 6 dX9_firstFault_102 (by decide) ?_
              exact ih (k + 1) _ _ _ (by omega) (by omega) (by rw [e3]; exact nI_1 k) (by rw [← hI, show q - k = (q - (k + 1)) + 1 from by omega, cfF, hd, if_neg h36, if_pos h43]) 
            · skip
              have h43a := c5
              refine J.aload_n 47 dX9_firstFault_46 rfl rfl ?_
              refine gf_X9_9 rfl 50 dX9_firstFault_47 rfl (hK.tape) (v := .ref (ad 15 3)) rfl ?_
              refine J.iload_n 51 dX9_firstFault_50 rfl rfl ?_
              refine J.iald2 k q3 (x := S.2 29 k) rfl 52 dX9_firstFault_51 rfl hK.arr3 (by assumption) ?_
              refine J.bipush 32 54 dX9_firstFault_52 rfl (by decide) ?_
              refine J.icmp_ne 60 57 dX9_firstFault_54 (by decide) rfl (fun c6 => ?_) (fun c6 => ?_)
              · skip
                have h43 := (fun (P : Prop) (n : ¬ P) (q : ¬ S.2 29 k = 32) (z : P ∨ S.2 29 k = 32) => z.elim n q) _ h43a c6
                refine J.aload_n 61 dX9_firstFault_60 rfl rfl ?_
                refine gf_X9_9 rfl 64 dX9_firstFault_61 rfl (hK.tape) (v := .ref (ad 15 3)) rfl ?_
                refine J.iload_n 65 dX9_firstFault_64 rfl rfl ?_
                refine J.iald2 k q3 (x := S.2 29 k) rfl 66 dX9_firstFault_65 rfl hK.arr3 (by assumption) ?_
                refine cs_X9_23 rfl 69 (c_takenBy (d := d) (b := S.2 29 k)) dX9_firstFault_66 rfl rfl rfl (Nat.le_of_ble_eq_true rfl) (Nat.zero_le _) (Nat.zero_le _) (fun r h2 hp => ?_)
                obtain ⟨rfl, rfl⟩ := hp
                refine J.ist_4 71 dX9_firstFault_69 rfl (by decide) ?_
                refine J.iload 73 dX9_firstFault_71 rfl rfl ?_
                refine J.if_lt 82 76 dX9_firstFault_73 (by decide) rfl (fun c7 => ?_) (fun c7 => ?_)
                · skip
                  have h79 : tbN (S.2 29 k) < 0 ∨ x1 < tbN (S.2 29 k) := Or.inl c7
                  refine J.iload_n 83 dX9_firstFault_82 rfl rfl ?_
                  exact J.iret dX9_firstFault_83 rfl (by rw [← hpost]; exact ⟨by rw [← hI, show q - k = (q - (k + 1)) + 1 from by omega, cfF, hd, if_neg h36, if_neg h43, if_pos h79, e3], rfl⟩)
                · skip
                  have h73 := c7
                  refine J.iload_n 77 dX9_firstFault_76 rfl rfl ?_
                  refine J.iload 79 dX9_firstFault_77 rfl rfl ?_
                  refine J.icmp_ge 84 82 dX9_firstFault_79 (by decide) rfl (fun c8 => ?_) (fun c8 => ?_)
                  · skip
                    have h79 : ¬ (tbN (S.2 29 k) < 0 ∨ x1 < tbN (S.2 29 k)) := fun z => z.elim h73 (Int32.not_lt.mpr c8)
                    refine J.iload_n 85 dX9_firstFault_84 rfl rfl ?_
                    refine J.iconst 1 86 dX9_firstFault_85 rfl (by decide) ?_
                    refine J.iload 88 dX9_firstFault_86 rfl rfl ?_
                    refine J.isub 89 dX9_firstFault_88 rfl ?_
                    refine J.iadd 90 dX9_firstFault_89 rfl ?_
                    refine J.ist_1 91 dX9_firstFault_90 rfl (by decide) ?_
                    refine J.iload_n 92 dX9_firstFault_91 rfl rfl ?_
                    refine J.bipush 20 94 dX9_firstFault_92 rfl (by decide) ?_
                    refine J.icmp_le 99 97 dX9_firstFault_94 (by decide) rfl (fun c9 => ?_) (fun c9 => ?_)
                    · skip
                      have h94 := Int32.not_lt.mpr c9
                      refine J.iinc_3 1 102 dX9_firstFault_99 rfl (by decide) (by decide) ?_
                      refine J.goto 6 dX9_firstFault_102 (by decide) ?_
                      refine J.fg_4 ?_
                      exact ih (k + 1) _ _ _ (by omega) (by omega) (by rw [e3]; exact nI_1 k) (by rw [← hI, show q - k = (q - (k + 1)) + 1 from by omega, cfF, hd, if_neg h36, if_neg h43, if_neg h79, if_neg h94]) 
                    · skip
                      have h94 := Int32.not_le.mp c9
                      refine J.iload_n 98 dX9_firstFault_97 rfl rfl ?_
                      exact J.iret dX9_firstFault_98 rfl (by rw [← hpost]; exact ⟨by rw [← hI, show q - k = (q - (k + 1)) + 1 from by omega, cfF, hd, if_neg h36, if_neg h43, if_neg h79, if_pos h94, e3], rfl⟩)
                  · skip
                    have h79 : tbN (S.2 29 k) < 0 ∨ x1 < tbN (S.2 29 k) := Or.inr (Int32.not_le.mp c8)
                    refine J.iload_n 83 dX9_firstFault_82 rfl rfl ?_
                    exact J.iret dX9_firstFault_83 rfl (by rw [← hpost]; exact ⟨by rw [← hI, show q - k = (q - (k + 1)) + 1 from by omega, cfF, hd, if_neg h36, if_neg h43, if_pos h79, e3], rfl⟩)
              · skip
                have h43 := (fun (P : Prop) (_ : ¬ P) (q : S.2 29 k = 32) => (Or.inr q : P ∨ S.2 29 k = 32)) _ h43a c6
                refine J.goto 99 dX9_firstFault_57 (by decide) ?_
                refine J.iinc_3 1 102 dX9_firstFault_99 rfl (by decide) (by decide) ?_
                refine J.goto 6 dX9_firstFault_102 (by decide) ?_
                exact ih (k + 1) _ _ _ (by omega) (by omega) (by rw [e3]; exact nI_1 k) (by rw [← hI, show q - k = (q - (k + 1)) + 1 from by omega, cfF, hd, if_neg h36, if_pos h43]) 
          · skip
            have h36 := Int32.not_le.mp c4
            refine J.iload_n 40 dX9_firstFault_39 rfl rfl ?_
            exact J.iret dX9_firstFault_40 rfl (by rw [← hpost]; exact ⟨by rw [← hI, show q - k = (q - (k + 1)) + 1 from by omega, cfF, hd, if_pos h36, e3], rfl⟩)
        · skip
          have hd : dgt (S.2 29 k) x2 = x2 + 1 := if_pos (ib_n.mp c3)
          refine J.iload_n 27 dX9_firstFault_26 rfl rfl ?_
          refine J.iconst 1 28 dX9_firstFault_27 rfl (by decide) ?_
          refine J.iadd 29 dX9_firstFault_28 rfl ?_
          refine J.goto 33 dX9_firstFault_29 (by decide) ?_
          refine J.ist_2 34 dX9_firstFault_33 rfl (by decide) ?_
          refine J.iload_n 35 dX9_firstFault_34 rfl rfl ?_
          refine J.iconst 3 36 dX9_firstFault_35 rfl (by decide) ?_
          refine J.icmp_le 41 39 dX9_firstFault_36 (by decide) rfl (fun c10 => ?_) (fun c10 => ?_)
          · skip
            have h36 := Int32.not_lt.mpr c10
            refine J.iload_n 42 dX9_firstFault_41 rfl rfl ?_
            refine J.iconst 1 43 dX9_firstFault_42 rfl (by decide) ?_
            refine J.icmp_gt 99 46 dX9_firstFault_43 (by decide) rfl (fun c11 => ?_) (fun c11 => ?_)
            · skip
              have h43 := Or.inl (b := S.2 29 k = 32) c11
              refine J.iinc_3 1 102 dX9_firstFault_99 rfl (by decide) (by decide) ?_
              refine J.goto 6 dX9_firstFault_102 (by decide) ?_
              exact ih (k + 1) _ _ _ (by omega) (by omega) (by rw [e3]; exact nI_1 k) (by rw [← hI, show q - k = (q - (k + 1)) + 1 from by omega, cfF, hd, if_neg h36, if_pos h43]) 
            · skip
              have h43a := c11
              refine J.aload_n 47 dX9_firstFault_46 rfl rfl ?_
              refine gf_X9_9 rfl 50 dX9_firstFault_47 rfl (hK.tape) (v := .ref (ad 15 3)) rfl ?_
              refine J.iload_n 51 dX9_firstFault_50 rfl rfl ?_
              refine J.iald2 k q3 (x := S.2 29 k) rfl 52 dX9_firstFault_51 rfl hK.arr3 (by assumption) ?_
              refine J.bipush 32 54 dX9_firstFault_52 rfl (by decide) ?_
              refine J.icmp_ne 60 57 dX9_firstFault_54 (by decide) rfl (fun c12 => ?_) (fun c12 => ?_)
              · skip
                have h43 := (fun (P : Prop) (n : ¬ P) (q : ¬ S.2 29 k = 32) (z : P ∨ S.2 29 k = 32) => z.elim n q) _ h43a c12
                refine J.aload_n 61 dX9_firstFault_60 rfl rfl ?_
                refine gf_X9_9 rfl 64 dX9_firstFault_61 rfl (hK.tape) (v := .ref (ad 15 3)) rfl ?_
                refine J.iload_n 65 dX9_firstFault_64 rfl rfl ?_
                refine J.iald2 k q3 (x := S.2 29 k) rfl 66 dX9_firstFault_65 rfl hK.arr3 (by assumption) ?_
                refine cs_X9_23 rfl 69 (c_takenBy (d := d) (b := S.2 29 k)) dX9_firstFault_66 rfl rfl rfl (Nat.le_of_ble_eq_true rfl) (Nat.zero_le _) (Nat.zero_le _) (fun r h2 hp => ?_)
                obtain ⟨rfl, rfl⟩ := hp
                refine J.ist_4 71 dX9_firstFault_69 rfl (by decide) ?_
                refine J.iload 73 dX9_firstFault_71 rfl rfl ?_
                refine J.if_lt 82 76 dX9_firstFault_73 (by decide) rfl (fun c13 => ?_) (fun c13 => ?_)
                · skip
                  have h79 : tbN (S.2 29 k) < 0 ∨ x1 < tbN (S.2 29 k) := Or.inl c13
                  refine J.iload_n 83 dX9_firstFault_82 rfl rfl ?_
                  exact J.iret dX9_firstFault_83 rfl (by rw [← hpost]; exact ⟨by rw [← hI, show q - k = (q - (k + 1)) + 1 from by omega, cfF, hd, if_neg h36, if_neg h43, if_pos h79, e3], rfl⟩)
                · skip
                  have h73 := c13
                  refine J.iload_n 77 dX9_firstFault_76 rfl rfl ?_
                  refine J.iload 79 dX9_firstFault_77 rfl rfl ?_
                  refine J.icmp_ge 84 82 dX9_firstFault_79 (by decide) rfl (fun c14 => ?_) (fun c14 => ?_)
                  · skip
                    have h79 : ¬ (tbN (S.2 29 k) < 0 ∨ x1 < tbN (S.2 29 k)) := fun z => z.elim h73 (Int32.not_lt.mpr c14)
                    refine J.iload_n 85 dX9_firstFault_84 rfl rfl ?_
                    refine J.iconst 1 86 dX9_firstFault_85 rfl (by decide) ?_
                    refine J.iload 88 dX9_firstFault_86 rfl rfl ?_
                    refine J.isub 89 dX9_firstFault_88 rfl ?_
                    refine J.iadd 90 dX9_firstFault_89 rfl ?_
                    refine J.ist_1 91 dX9_firstFault_90 rfl (by decide) ?_
                    refine J.iload_n 92 dX9_firstFault_91 rfl rfl ?_
                    refine J.bipush 20 94 dX9_firstFault_92 rfl (by decide) ?_
                    refine J.icmp_le 99 97 dX9_firstFault_94 (by decide) rfl (fun c15 => ?_) (fun c15 => ?_)
                    · skip
                      have h94 := Int32.not_lt.mpr c15
                      refine J.iinc_3 1 102 dX9_firstFault_99 rfl (by decide) (by decide) ?_
                      refine J.goto 6 dX9_firstFault_102 (by decide) ?_
                      refine J.fg_4 ?_
                      exact ih (k + 1) _ _ _ (by omega) (by omega) (by rw [e3]; exact nI_1 k) (by rw [← hI, show q - k = (q - (k + 1)) + 1 from by omega, cfF, hd, if_neg h36, if_neg h43, if_neg h79, if_neg h94]) 
                    · skip
                      have h94 := Int32.not_le.mp c15
                      refine J.iload_n 98 dX9_firstFault_97 rfl rfl ?_
                      exact J.iret dX9_firstFault_98 rfl (by rw [← hpost]; exact ⟨by rw [← hI, show q - k = (q - (k + 1)) + 1 from by omega, cfF, hd, if_neg h36, if_neg h43, if_neg h79, if_pos h94, e3], rfl⟩)
                  · skip
                    have h79 : tbN (S.2 29 k) < 0 ∨ x1 < tbN (S.2 29 k) := Or.inr (Int32.not_le.mp c14)
                    refine J.iload_n 83 dX9_firstFault_82 rfl rfl ?_
                    exact J.iret dX9_firstFault_83 rfl (by rw [← hpost]; exact ⟨by rw [← hI, show q - k = (q - (k + 1)) + 1 from by omega, cfF, hd, if_neg h36, if_neg h43, if_pos h79, e3], rfl⟩)
              · skip
                have h43 := (fun (P : Prop) (_ : ¬ P) (q : S.2 29 k = 32) => (Or.inr q : P ∨ S.2 29 k = 32)) _ h43a c12
                refine J.goto 99 dX9_firstFault_57 (by decide) ?_
                refine J.iinc_3 1 102 dX9_firstFault_99 rfl (by decide) (by decide) ?_
                refine J.goto 6 dX9_firstFault_102 (by decide) ?_
                exact ih (k + 1) _ _ _ (by omega) (by omega) (by rw [e3]; exact nI_1 k) (by rw [← hI, show q - k = (q - (k + 1)) + 1 from by omega, cfF, hd, if_neg h36, if_pos h43]) 
          · skip
            have h36 := Int32.not_le.mp c10
            refine J.iload_n 40 dX9_firstFault_39 rfl rfl ?_
            exact J.iret dX9_firstFault_40 rfl (by rw [← hpost]; exact ⟨by rw [← hI, show q - k = (q - (k + 1)) + 1 from by omega, cfF, hd, if_pos h36, e3], rfl⟩)
  exact loop6 (q + 1) 0 _ _ _ (Nat.zero_le _) (by omega) rfl rfl 
