theorem nI_sub {a b : Nat} (h : b ≤ a) : nI a - nI b = nI (a - b) := by
  have e : nI a = nI (a - b) + nI b := by rw [nI_add, Nat.sub_add_cancel h]
  rw [e]
  exact Int32.add_sub_cancel _ _
theorem rm_f {L : List Nat} {f : Nat → Option Nat} {i k : Nat} (hk : L.length = k + 1) (hi : i ≤ k) (hf : ∀ j, j < k + 1 → f j = L[j]?) : ∀ j, j < (L.eraseIdx i).length → va_up (va_cpy f f (i + 1) i (k - i)) k none j = (L.eraseIdx i)[j]? := by
  intro j hj
  rw [List.length_eraseIdx_of_lt (by omega), hk] at hj
  rw [va_up_ne _ _ (by omega), va_cpy, List.getElem?_eraseIdx]
  by_cases e : j < i
  · rw [if_neg (by omega), if_pos e]
    exact hf j (by omega)
  · rw [if_pos ⟨by omega, by omega⟩, if_neg e, show i + 1 + (j - i) = j + 1 from by omega]
    exact hf (j + 1) (by omega)
theorem rm_g {L : List Nat} {f : Nat → Option Nat} {i k : Nat} (hk : L.length = k + 1) (hi : i = k) (hf : ∀ j, j < k + 1 → f j = L[j]?) : ∀ j, j < (L.eraseIdx i).length → va_up f k none j = (L.eraseIdx i)[j]? := by
  intro j hj
  rw [List.length_eraseIdx_of_lt (by omega), hk] at hj
  rw [va_up_ne _ _ (by omega), List.getElem?_eraseIdx, if_pos (by omega)]
  exact hf j (by omega)
theorem jl_fastRemove {d : Nat} {G : Nat → Nat} {h : AH} {a ed k i cap : Nat} {mc : Int32} {f : Nat → Option Nat} {L : List Nat} (ha : h a = some (Ob 0 [.int mc, .ref ed, .int (nI (k + 1))])) (he : h ed = some (Aq "java/lang/Object" cap f)) (hL : L.length = k + 1) (hk : k + 1 ≤ cap) (hc : cap ≤ 400) (hi : i ≤ k) (hf : ∀ j, j < k + 1 → f j = L[j]?) (hel : ∀ y ∈ L, isOb h y) (hna : ∀ y ∈ L, y ≠ a) : Ct Y_Jx4a65c_fastRemove_b59b0 (d + 1) G 0 0 [.ref a, .ref ed, .int (nI i)] h (fun r h2 => r = none ∧ LL G h2 a (L.eraseIdx i) ed cap ∧ ∀ b, b ≠ a → b ≠ ed → h2 b = h b) := by
  refine Ct.ofn 1 rfl (Nat.le_of_ble_eq_true rfl) (by simp [Value.category]) ?_
  generalize hpost : (fun (r : Option Value) (h2 : AH) => r = none ∧ LL G h2 a (L.eraseIdx i) ed cap ∧ ∀ b, b ≠ a → b ≠ ed → h2 b = h b) = post
  show J Y_Jx4a65c_fastRemove_b59b0 (d + 1) G 0 0 0 [some (.ref a), some (.ref ed), some (.int (nI i)), none] [] h post
  refine J.aload_n 1 dJx4a65c_fastRemove_b59b0_0 rfl rfl ?_
  refine J.dup 2 dJx4a65c_fastRemove_b59b0_1 rfl rfl ?_
  refine gf_Jx4a65c_63 rfl 5 dJx4a65c_fastRemove_b59b0_2 rfl ha rfl ?_
  refine J.iconst 1 6 dJx4a65c_fastRemove_b59b0_5 rfl (by decide) ?_
  refine J.iadd 7 dJx4a65c_fastRemove_b59b0_6 rfl ?_
  refine pf_Jx4a65c_63 rfl 10 dJx4a65c_fastRemove_b59b0_7 rfl ha (Nat.le_of_ble_eq_true rfl) ?_
  refine J.nmH (fun h1 eh1 => ?_)
  have f1 : h1 a = some (Ob 0 [.int (mc + 1), .ref ed, .int (nI (k + 1))]) := by rw [eh1]; exact hu_s
  have f2 : h1 ed = some (Aq "java/lang/Object" cap f) := by rw [eh1, hu_n (fun z => by rw [z, ha] at he; cases he)]; exact he
  refine J.aload_n 11 dJx4a65c_fastRemove_b59b0_10 rfl rfl ?_
  refine gf_Jx4a65c_48 rfl 14 dJx4a65c_fastRemove_b59b0_11 rfl f1 rfl ?_
  refine J.iconst 1 15 dJx4a65c_fastRemove_b59b0_14 rfl (by decide) ?_
  refine J.isub 16 dJx4a65c_fastRemove_b59b0_15 rfl ?_
  rw [nI_pred]
  refine J.dup 17 dJx4a65c_fastRemove_b59b0_16 rfl rfl ?_
  refine J.ist_3 18 dJx4a65c_fastRemove_b59b0_17 rfl (by decide) ?_
  refine J.iload_n 19 dJx4a65c_fastRemove_b59b0_18 rfl rfl ?_
  refine J.icmp_le 34 22 dJx4a65c_fastRemove_b59b0_19 (by decide) rfl (fun c1 => ?_) (fun c1 => ?_)
  · skip
    have hik : i = k := Nat.le_antisymm hi ((nI_leI (by omega) (by omega)).mp c1)
    refine J.aload_n 35 dJx4a65c_fastRemove_b59b0_34 rfl rfl ?_
    refine J.aload_n 36 dJx4a65c_fastRemove_b59b0_35 rfl rfl ?_
    refine J.iload_n 37 dJx4a65c_fastRemove_b59b0_36 rfl rfl ?_
    refine J.dup_x1 38 dJx4a65c_fastRemove_b59b0_37 rfl rfl rfl ?_
    refine pf_Jx4a65c_48 rfl 41 dJx4a65c_fastRemove_b59b0_38 rfl f1 (Nat.le_of_ble_eq_true rfl) ?_
    refine J.nmH (fun h3 eh3 => ?_)
    have f3 : h3 a = some (Ob 0 [.int (mc + 1), .ref ed, .int (nI k)]) := by rw [eh3]; exact hu_s
    have f4 : h3 ed = some (Aq "java/lang/Object" cap f) := by rw [eh3, hu_n (fun z => by rw [z, ha] at he; cases he)]; exact f2
    refine J.anull 42 dJx4a65c_fastRemove_b59b0_41 rfl ?_
    refine J.aastN 43 dJx4a65c_fastRemove_b59b0_42 rfl f4 (vp_in_nI (by omega) (by omega)) ?_
    rw [(show (nI k).toNatClampNeg = k from nI_clamp (by omega))]
    refine J.nmH (fun h5 eh5 => ?_)
    have f5 : h5 ed = some (Aq "java/lang/Object" cap (va_up f k none)) := by rw [eh5]; exact hu_s
    have f6 : h5 a = some (Ob 0 [.int (mc + 1), .ref ed, .int (nI k)]) := by rw [eh5, hu_n (Ne.symm (fun z => by rw [z, ha] at he; cases he))]; exact f3
    refine J.vret dJx4a65c_fastRemove_b59b0_43 rfl ?_
    rw [← hpost]
    refine ⟨rfl, ⟨mc + 1, _, ?_, Or.inr ⟨by omega, ?_, f5, rm_g hL hik hf⟩⟩, fun b b1 b2 => by rw [eh5, hu_n b2, eh3, hu_n b1, eh1, hu_n b1]⟩
    · rw [List.length_eraseIdx_of_lt (by omega), hL]
      exact f6
    · rw [List.length_eraseIdx_of_lt (by omega)]
      omega
  · skip
    refine J.aload_n 23 dJx4a65c_fastRemove_b59b0_22 rfl rfl ?_
    refine J.iload_n 24 dJx4a65c_fastRemove_b59b0_23 rfl rfl ?_
    refine J.iconst 1 25 dJx4a65c_fastRemove_b59b0_24 rfl (by decide) ?_
    refine J.iadd 26 dJx4a65c_fastRemove_b59b0_25 rfl ?_
    refine J.aload_n 27 dJx4a65c_fastRemove_b59b0_26 rfl rfl ?_
    refine J.iload_n 28 dJx4a65c_fastRemove_b59b0_27 rfl rfl ?_
    refine J.iload_n 29 dJx4a65c_fastRemove_b59b0_28 rfl rfl ?_
    refine J.iload_n 30 dJx4a65c_fastRemove_b59b0_29 rfl rfl ?_
    refine J.isub 31 dJx4a65c_fastRemove_b59b0_30 rfl ?_
    rw [nI_1, nI_sub hi]
    refine J.copyq 34 dJx4a65c_fastRemove_b59b0_31 rfl wm_608 f2 f2 (nI_pos (by omega)) (nI_pos (by omega)) (nI_pos (by omega)) (by rw [nI_clamp (by omega), nI_clamp (by omega)]; omega) (by rw [nI_clamp (by omega), nI_clamp (by omega)]; omega) (fun j hj y hy => ?_) (Nat.le_of_ble_eq_true rfl) ?_
    · rw [nI_clamp (by omega)] at hj hy
      have hm : y ∈ L := List.mem_of_getElem? ((hf _ (by omega)).symm.trans hy)
      rw [eh1]
      exact (hel y hm).hu (hna y hm)
    rw [nI_clamp (by omega), nI_clamp (by omega), nI_clamp (by omega)]
    refine J.nmH (fun h7 eh7 => ?_)
    have f7 : h7 ed = some (Aq "java/lang/Object" cap (va_cpy f f (i + 1) i (k - i))) := by rw [eh7]; exact hu_s
    have f8 : h7 a = some (Ob 0 [.int (mc + 1), .ref ed, .int (nI (k + 1))]) := by rw [eh7, hu_n (Ne.symm (fun z => by rw [z, ha] at he; cases he))]; exact f1
    refine J.aload_n 35 dJx4a65c_fastRemove_b59b0_34 rfl rfl ?_
    refine J.aload_n 36 dJx4a65c_fastRemove_b59b0_35 rfl rfl ?_
    refine J.iload_n 37 dJx4a65c_fastRemove_b59b0_36 rfl rfl ?_
    refine J.dup_x1 38 dJx4a65c_fastRemove_b59b0_37 rfl rfl rfl ?_
    refine pf_Jx4a65c_48 rfl 41 dJx4a65c_fastRemove_b59b0_38 rfl f8 (Nat.le_of_ble_eq_true rfl) ?_
    refine J.nmH (fun h9 eh9 => ?_)
    have f9 : h9 a = some (Ob 0 [.int (mc + 1), .ref ed, .int (nI k)]) := by rw [eh9]; exact hu_s
    have f10 : h9 ed = some (Aq "java/lang/Object" cap (va_cpy f f (i + 1) i (k - i))) := by rw [eh9, hu_n (fun z => by rw [z, ha] at he; cases he)]; exact f7
    refine J.anull 42 dJx4a65c_fastRemove_b59b0_41 rfl ?_
    refine J.aastN 43 dJx4a65c_fastRemove_b59b0_42 rfl f10 (vp_in_nI (by omega) (by omega)) ?_
    rw [(show (nI k).toNatClampNeg = k from nI_clamp (by omega))]
    refine J.nmH (fun h11 eh11 => ?_)
    have f11 : h11 ed = some (Aq "java/lang/Object" cap (va_up (va_cpy f f (i + 1) i (k - i)) k none)) := by rw [eh11]; exact hu_s
    have f12 : h11 a = some (Ob 0 [.int (mc + 1), .ref ed, .int (nI k)]) := by rw [eh11, hu_n (Ne.symm (fun z => by rw [z, ha] at he; cases he))]; exact f9
    refine J.vret dJx4a65c_fastRemove_b59b0_43 rfl ?_
    rw [← hpost]
    refine ⟨rfl, ⟨mc + 1, _, ?_, Or.inr ⟨by omega, ?_, f11, rm_f hL hi hf⟩⟩, fun b b1 b2 => by rw [eh11, hu_n b2, eh9, hu_n b1, eh7, hu_n b2, eh1, hu_n b1]⟩
    · rw [List.length_eraseIdx_of_lt (by omega), hL]
      exact f12
    · rw [List.length_eraseIdx_of_lt (by omega)]
      omega
theorem jl_remove0 {d : Nat} {G : Nat → Nat} {h : AH} {a ed k i cap q : Nat} {mc : Int32} {f : Nat → Option Nat} {L : List Nat} (ha : h a = some (Ob 0 [.int mc, .ref ed, .int (nI (k + 1))])) (he : h ed = some (Aq "java/lang/Object" cap f)) (hL : L.length = k + 1) (hk : k + 1 ≤ cap) (hc : cap ≤ 400) (hi : i ≤ k) (hf : ∀ j, j < k + 1 → f j = L[j]?) (hel : ∀ y ∈ L, isOb h y) (hna : ∀ y ∈ L, y ≠ a) (hq : L[i]? = some q) : Ct Y_Jx4a65c_remove_915e3 (d + 2) G 0 0 [.ref a, .int (nI i)] h (fun r h2 => r = some (.ref q) ∧ LL G h2 a (L.eraseIdx i) ed cap ∧ ∀ b, b ≠ a → b ≠ ed → h2 b = h b) := by
  refine Ct.ofn 2 rfl (Nat.le_of_ble_eq_true rfl) (by simp [Value.category]) ?_
  generalize hpost : (fun (r : Option Value) (h2 : AH) => r = some (.ref q) ∧ LL G h2 a (L.eraseIdx i) ed cap ∧ ∀ b, b ≠ a → b ≠ ed → h2 b = h b) = post
  show J Y_Jx4a65c_remove_915e3 (d + 2) G 0 0 0 [some (.ref a), some (.int (nI i)), none, none] [] h post
  refine J.iload_n 1 dJx4a65c_remove_915e3_0 rfl rfl ?_
  refine J.aload_n 2 dJx4a65c_remove_915e3_1 rfl rfl ?_
  refine gf_Jx4a65c_48 rfl 5 dJx4a65c_remove_915e3_2 rfl ha rfl ?_
  refine cs_Jx4a65c_118 rfl 8 (jl_chk (i := nI i) (x := nI (k + 1)) (nI_pos (by omega)) (nI_lt (by omega) (by omega))) dJx4a65c_remove_915e3_5 rfl rfl rfl (Nat.le_of_ble_eq_true rfl) (Nat.le_refl _) (Nat.le_refl _) (fun r h2 hp => ?_)
  obtain ⟨rfl, rfl⟩ := hp
  refine J.pop 9 dJx4a65c_remove_915e3_8 rfl rfl ?_
  refine J.aload_n 10 dJx4a65c_remove_915e3_9 rfl rfl ?_
  refine gf_Jx4a65c_9 rfl 13 dJx4a65c_remove_915e3_10 rfl ha rfl ?_
  refine J.ast_2 14 dJx4a65c_remove_915e3_13 rfl (by decide) ?_
  refine J.aload_n 15 dJx4a65c_remove_915e3_14 rfl rfl ?_
  refine J.iload_n 16 dJx4a65c_remove_915e3_15 rfl rfl ?_
  refine J.aald 17 dJx4a65c_remove_915e3_16 rfl he (vp_in_nI (by omega) (by omega)) ?_
  rw [show (nI i).toNatClampNeg = i from nI_clamp (by omega), (hf i (by omega)).trans hq]
  show J _ _ _ _ _ _ _ (.ref q :: _) _ _
  refine J.ast_3 18 dJx4a65c_remove_915e3_17 rfl (by decide) ?_
  refine J.aload_n 19 dJx4a65c_remove_915e3_18 rfl rfl ?_
  refine J.aload_n 20 dJx4a65c_remove_915e3_19 rfl rfl ?_
  refine J.iload_n 21 dJx4a65c_remove_915e3_20 rfl rfl ?_
  refine cv_Jx4a65c_144 rfl 24 (jl_fastRemove ha he hL hk hc hi hf hel hna) dJx4a65c_remove_915e3_21 rfl ha rfl rfl (Nat.le_of_ble_eq_true rfl) (Nat.le_refl _) (Nat.le_refl _) (fun r h2 hp => ?_)
  obtain ⟨rfl, hl2, hb2⟩ := hp
  refine J.aload_n 25 dJx4a65c_remove_915e3_24 rfl rfl ?_
  exact J.aret dJx4a65c_remove_915e3_25 rfl (Or.inl ⟨_, rfl⟩) (Or.inr ⟨_, rfl⟩) (by rw [← hpost]; exact ⟨rfl, hl2, hb2⟩)
theorem jl_removeL {d : Nat} {G : Nat → Nat} {h : AH} {a ed cap i q : Nat} {L : List Nat} (hL : LL G h a L ed cap) (hcap : cap ≤ 400) (hi : L[i]? = some q) (hel : ∀ y ∈ L, isOb h y) (hna : ∀ y ∈ L, y ≠ a) : Ct Y_Jx4a65c_remove_915e3 (d + 2) G 0 0 [.ref a, .int (nI i)] h (fun r h2 => r = some (.ref q) ∧ LL G h2 a (L.eraseIdx i) ed cap ∧ ∀ b, b ≠ a → b ≠ ed → h2 b = h b) := by
  obtain ⟨mc, f, ha, hc⟩ := hL
  have hl := (List.getElem?_eq_some_iff.mp hi).1
  rcases hc with ⟨rfl, rfl, rfl⟩ | ⟨h1, h2, h3, h4⟩
  · simp at hi
  · obtain ⟨k, hk⟩ : ∃ k, L.length = k + 1 := ⟨L.length - 1, by omega⟩
    rw [hk] at ha h4 h2
    exact jl_remove0 ha h3 hk (by omega) hcap (by omega) h4 hel hna hi
theorem jl_clear0 {d : Nat} {G : Nat → Nat} {h : AH} {a ed n : Nat} {mc : Int32} {cap : Nat} {f : Nat → Option Nat} {P : AH → Prop} (ha : h a = some (Ob 0 [.int mc, .ref ed, .int (nI n)])) (he : 0 < n → h ed = some (Aq "java/lang/Object" cap f)) (hn : n ≤ cap) (hc : cap ≤ 400) (hed : ed ≠ a) (fin : ∀ hh : AH, hh a = some (Ob 0 [.int (mc + 1), .ref ed, .int 0]) → (0 < n → ∃ g, hh ed = some (Aq "java/lang/Object" cap g)) → (n = 0 → hh ed = h ed) → (∀ b, b ≠ a → b ≠ ed → hh b = h b) → P hh) : Ct Y_Jx4a65c_clear_da8c8 d G 0 0 [.ref a] h (fun r h2 => r = none ∧ P h2) := by
  refine Ct.ofn 3 rfl (Nat.le_of_ble_eq_true rfl) (by simp [Value.category]) ?_
  generalize hpost : (fun (r : Option Value) (h2 : AH) => r = none ∧ P h2) = post
  show J Y_Jx4a65c_clear_da8c8 d G 0 0 0 [some (.ref a), none, none, none] [] h post
  refine J.aload_n 1 dJx4a65c_clear_da8c8_0 rfl rfl ?_
  refine J.dup 2 dJx4a65c_clear_da8c8_1 rfl rfl ?_
  refine gf_Jx4a65c_63 rfl 5 dJx4a65c_clear_da8c8_2 rfl ha rfl ?_
  refine J.iconst 1 6 dJx4a65c_clear_da8c8_5 rfl (by decide) ?_
  refine J.iadd 7 dJx4a65c_clear_da8c8_6 rfl ?_
  refine pf_Jx4a65c_63 rfl 10 dJx4a65c_clear_da8c8_7 rfl ha (Nat.le_of_ble_eq_true rfl) ?_
  refine J.nmH (fun h13 eh13 => ?_)
  have f13 : h13 a = some (Ob 0 [.int (mc + 1), .ref ed, .int (nI n)]) := by rw [eh13]; exact hu_s
  refine J.aload_n 11 dJx4a65c_clear_da8c8_10 rfl rfl ?_
  refine gf_Jx4a65c_9 rfl 14 dJx4a65c_clear_da8c8_11 rfl f13 rfl ?_
  refine J.ast_1 15 dJx4a65c_clear_da8c8_14 rfl (by decide) ?_
  refine J.aload_n 16 dJx4a65c_clear_da8c8_15 rfl rfl ?_
  refine gf_Jx4a65c_48 rfl 19 dJx4a65c_clear_da8c8_16 rfl f13 rfl ?_
  refine J.ist_2 20 dJx4a65c_clear_da8c8_19 rfl (by decide) ?_
  refine J.aload_n 21 dJx4a65c_clear_da8c8_20 rfl rfl ?_
  refine J.iconst 0 22 dJx4a65c_clear_da8c8_21 rfl (by decide) ?_
  refine J.dup_x1 23 dJx4a65c_clear_da8c8_22 rfl rfl rfl ?_
  refine pf_Jx4a65c_48 rfl 26 dJx4a65c_clear_da8c8_23 rfl f13 (Nat.le_of_ble_eq_true rfl) ?_
  refine J.nmH (fun h14 eh14 => ?_)
  have f14 : h14 a = some (Ob 0 [.int (mc + 1), .ref ed, .int 0]) := by rw [eh14]; exact hu_s
  refine J.ist_3 27 dJx4a65c_clear_da8c8_26 rfl (by decide) ?_
  have loop27 : ∀ (j k : Nat), k ≤ n → n + 1 ≤ k + j → ∀ hh : AH, (hh a = some (Ob 0 [.int (mc + 1), .ref ed, .int 0]) ∧ (0 < n → ∃ g, hh ed = some (Aq "java/lang/Object" cap g)) ∧ (n = 0 → hh ed = h ed) ∧ ∀ b, b ≠ a → b ≠ ed → hh b = h b) → J Y_Jx4a65c_clear_da8c8 d G 0 0 27 [some (.ref a), some (.ref ed), some (.int (nI n)), some (.int (nI k))] [] hh post := by
    intro j
    induction j with
    | zero => intro k g1 g2; exact absurd g2 (by omega)
    | succ j ih =>
      intro k g1 g2 hh ⟨i1, i2, i3, i4⟩
      refine J.iload_n 28 dJx4a65c_clear_da8c8_27 rfl rfl ?_
      refine J.iload_n 29 dJx4a65c_clear_da8c8_28 rfl rfl ?_
      refine J.icmp_ge 42 32 dJx4a65c_clear_da8c8_29 (by decide) rfl (fun c => ?_) (fun c => ?_)
      · exact J.vret dJx4a65c_clear_da8c8_42 rfl (by rw [← hpost]; exact ⟨rfl, fin hh i1 i2 i3 i4⟩)
      · have hk : k < n := Nat.lt_of_not_le (fun y => c (nI_le y (by omega)))
        obtain ⟨g, hg⟩ := i2 (by omega)
        have hne : ed ≠ a := fun z => by rw [z, i1] at hg; cases hg
        refine J.aload_n 33 dJx4a65c_clear_da8c8_32 rfl rfl ?_
        refine J.iload_n 34 dJx4a65c_clear_da8c8_33 rfl rfl ?_
        refine J.anull 35 dJx4a65c_clear_da8c8_34 rfl ?_
        refine J.aastN 36 dJx4a65c_clear_da8c8_35 rfl hg (vp_in_nI (by omega) (by omega)) ?_
        refine J.iinc_3 1 39 dJx4a65c_clear_da8c8_36 rfl (by decide) (by decide) ?_
        refine J.goto 27 dJx4a65c_clear_da8c8_39 (by decide) ?_
        rw [nI_1]
        exact ih (k + 1) (by omega) (by omega) _ ⟨by rw [hu_n (Ne.symm hne)]; exact i1, fun _ => ⟨_, hu_s⟩, fun z => absurd z (by omega), fun b b1 b2 => by rw [hu_n b2]; exact i4 b b1 b2⟩
  exact loop27 (n + 1) 0 (Nat.zero_le _) (by omega) _ ⟨f14, fun z => ⟨f, by rw [eh14, hu_n hed, eh13, hu_n hed]; exact he z⟩, fun z => by rw [eh14, hu_n hed, eh13, hu_n hed], fun b b1 b2 => by rw [eh14, hu_n b1, eh13, hu_n b1]⟩
theorem jl_clearL {d : Nat} {G : Nat → Nat} {h : AH} {a ed cap : Nat} {L : List Nat} (hL : LL G h a L ed cap) (hcap : cap ≤ 400) (hG : G 0 ≠ a) : Ct Y_Jx4a65c_clear_da8c8 d G 0 0 [.ref a] h (fun r h2 => r = none ∧ (LL G h2 a [] ed cap ∧ ∀ b, b ≠ a → (0 < cap → b ≠ ed) → h2 b = h b)) := by
  obtain ⟨mc, f, ha, hc⟩ := hL
  have key : (cap = 0 → L.length = 0) → ∀ hh : AH, (L.length = 0 → hh ed = h ed) → (∀ b, b ≠ a → b ≠ ed → hh b = h b) → ∀ b, b ≠ a → (0 < cap → b ≠ ed) → hh b = h b := by
    intro hz hh i3 i4 b b1 b2
    by_cases e : b = ed
    · rw [e]
      rcases Nat.eq_zero_or_pos cap with q | q
      · exact i3 (hz q)
      · exact absurd e (b2 q)
    · exact i4 b b1 e
  rcases hc with ⟨rfl, rfl, rfl⟩ | ⟨h1, h2, h3, h4⟩
  · exact jl_clear0 (cap := 0) (f := f) (P := fun h2 => LL G h2 a [] (G 0) 0 ∧ ∀ b, b ≠ a → (0 < 0 → b ≠ G 0) → h2 b = h b) ha (fun z => absurd z (Nat.lt_irrefl _)) (Nat.le_refl _) (by omega) hG (fun hh i1 i2 i3 i4 => ⟨⟨mc + 1, f, i1, Or.inl ⟨rfl, rfl, rfl⟩⟩, key (fun _ => rfl) hh i3 i4⟩)
  · refine jl_clear0 (f := f) (P := fun h2 => LL G h2 a [] ed cap ∧ ∀ b, b ≠ a → (0 < cap → b ≠ ed) → h2 b = h b) ha (fun _ => h3) h2 (by omega) (fun z => by rw [z, ha] at h3; cases h3) (fun hh i1 i2 i3 i4 => ⟨?_, key (fun z => by omega) hh i3 i4⟩)
    rcases Nat.eq_zero_or_pos L.length with e | e
    · exact ⟨mc + 1, f, i1, Or.inr ⟨h1, Nat.zero_le _, (i3 e).trans h3, fun i hi => absurd hi (Nat.not_lt_zero _)⟩⟩
    · obtain ⟨g, hg⟩ := i2 e
      exact ⟨mc + 1, g, i1, Or.inr ⟨h1, Nat.zero_le _, hg, fun i hi => absurd hi (Nat.not_lt_zero _)⟩⟩
