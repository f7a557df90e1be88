/-! a list: its cell, its row, its elements -/
def LL (G : Nat → Nat) (h : AH) (a : Nat) (L : List Nat) (ed cap : Nat) : Prop := ∃ (mc : Int32) (f : Nat → Option Nat), h a = some (Ob 0 [.int mc, .ref ed, .int (nI L.length)]) ∧ ((cap = 0 ∧ ed = G 0 ∧ L = []) ∨ (0 < cap ∧ L.length ≤ cap ∧ h ed = some (Aq "java/lang/Object" cap f) ∧ ∀ i, i < L.length → f i = L[i]?))
theorem LL.add {G : Nat → Nat} {h h1 h2 : AH} {a ed2 cap2 n q0 : Nat} {L : List Nat} {f2 : Nat → Option Nat} {e0 : AE} {mc : Int32} (eh1 : h1 = hu h a e0) (eh2 : h2 = hu (hu h1 ed2 (Aq "java/lang/Object" cap2 (va_up f2 n (some q0)))) a (Ob 0 [.int mc, .ref ed2, .int (nI (n + 1))])) (hne : ed2 ≠ a) (hn : n = L.length) (hc : n + 1 ≤ cap2) (hf : ∀ i, i < n → f2 i = L[i]?) : LL G h2 a (L ++ [q0]) ed2 cap2 ∧ ∀ b, b ≠ a → b ≠ ed2 → h2 b = h b := by
  subst hn
  refine ⟨⟨mc, va_up f2 L.length (some q0), ?_, Or.inr ⟨by omega, ?_, ?_, fun i hi => ?_⟩⟩, fun b b1 b2 => ?_⟩
  · rw [eh2, hu_s, List.length_append]
    rfl
  · rw [List.length_append]
    exact hc
  · rw [eh2, hu_n hne, hu_s]
  · rw [List.length_append, List.length_singleton] at hi
    by_cases e : i = L.length
    · rw [e, va_up_self, List.getElem?_append_right (Nat.le_refl _), Nat.sub_self]
      rfl
    · rw [va_up_ne _ _ e, List.getElem?_append_left (by omega)]
      exact hf i (by omega)
  · rw [eh2, hu_n b1, hu_n b2, eh1, hu_n b1]
theorem jl_addR {d : Nat} {G : Nat → Nat} {h : AH} {a ed n : Nat} {mc : Int32} {cap M : Nat} {L : List Nat} {f : Nat → Option Nat} {q0 ci : Nat} {fs : List Value} {rr : vw_C} (ha : h a = some (Ob 0 [.int mc, .ref ed, .int (nI n)])) (he : h ed = some (Aq "java/lang/Object" cap f)) (hn : n < cap) (hc : cap ≤ 400) (hnL : n = L.length) (hf : ∀ i, i < n → f i = L[i]?) (hM : 10 + 2 * n ≤ M) (hq0 : h q0 = some (Ob ci fs)) (hr : vwCl[ci]? = some rr) (hqa : q0 ≠ a) : Ct Y_Jx4a65c_add_9ea2d (d + 6) G 1 M [.ref a, .ref q0] h (fun r h2 => r = some (.int 1) ∧ ∃ ed2 cap2, LL G h2 a (L ++ [q0]) ed2 cap2 ∧ cap2 ≤ 400 ∧ (∀ b, b ≠ a → b ≠ ed2 → h2 b = h b) ∧ ((ed2 = ed ∧ cap2 = cap ∧ 0 < cap) ∨ h ed2 = none)) := by
  refine Ct.ofn 0 rfl (Nat.le_of_ble_eq_true rfl) (by simp [Value.category]) ?_
  generalize hpost : (fun (r : Option Value) (h2 : AH) => r = some (.int 1) ∧ ∃ ed2 cap2, LL G h2 a (L ++ [q0]) ed2 cap2 ∧ cap2 ≤ 400 ∧ (∀ b, b ≠ a → b ≠ ed2 → h2 b = h b) ∧ ((ed2 = ed ∧ cap2 = cap ∧ 0 < cap) ∨ h ed2 = none)) = post
  show J Y_Jx4a65c_add_9ea2d (d + 6) G 1 M 0 [some (.ref a), some (.ref q0)] [] h post
  refine J.aload_n 1 dJx4a65c_add_9ea2d_0 rfl rfl ?_
  refine J.dup 2 dJx4a65c_add_9ea2d_1 rfl rfl ?_
  refine gf_Jx4a65c_63 rfl 5 dJx4a65c_add_9ea2d_2 rfl ha rfl ?_
  refine J.iconst 1 6 dJx4a65c_add_9ea2d_5 rfl (by decide) ?_
  refine J.iadd 7 dJx4a65c_add_9ea2d_6 rfl ?_
  refine pf_Jx4a65c_63 rfl 10 dJx4a65c_add_9ea2d_7 rfl ha (Nat.le_of_ble_eq_true rfl) ?_
  refine J.nmH (fun h1 eh1 => ?_)
  have f1 : h1 a = some (Ob 0 [.int (mc + 1), .ref ed, .int (nI n)]) := by rw [eh1]; exact hu_s
  have f2 : h1 ed = some (Aq "java/lang/Object" cap f) := by rw [eh1, hu_n (fun z => by rw [z, ha] at he; cases he)]; exact he
  have f3 : h1 q0 = some (Ob ci fs) := by rw [eh1, hu_n hqa]; exact hq0
  refine J.aload_n 11 dJx4a65c_add_9ea2d_10 rfl rfl ?_
  refine J.aload_n 12 dJx4a65c_add_9ea2d_11 rfl rfl ?_
  refine J.aload_n 13 dJx4a65c_add_9ea2d_12 rfl rfl ?_
  refine gf_Jx4a65c_9 rfl 16 dJx4a65c_add_9ea2d_13 rfl f1 rfl ?_
  refine J.aload_n 17 dJx4a65c_add_9ea2d_16 rfl rfl ?_
  refine gf_Jx4a65c_48 rfl 20 dJx4a65c_add_9ea2d_17 rfl f1 rfl ?_
  refine cv_Jx4a65c_131 rfl 23 (jl_add3R f1 f2 hn (by omega) f3 hr hqa) dJx4a65c_add_9ea2d_20 rfl f1 rfl rfl (Nat.le_of_ble_eq_true rfl) (by omega) (by omega) (fun r h2 hp => ?_)
  obtain ⟨rfl, eh2⟩ := hp
  refine J.iconst 1 24 dJx4a65c_add_9ea2d_23 rfl (by decide) ?_
  refine J.zret dJx4a65c_add_9ea2d_24 rfl (Or.inr rfl) ?_
  rw [← hpost]
  obtain ⟨l1, l2⟩ := LL.add (G := G) (L := L) eh1 eh2 (fun z => by rw [z, ha] at he; cases he) hnL (by omega) hf
  exact ⟨rfl, ed, cap, l1, hc, l2, Or.inl ⟨rfl, rfl, by omega⟩⟩
theorem jl_addF {d : Nat} {G : Nat → Nat} {h : AH} {a ed n : Nat} {mc : Int32} {cap M : Nat} {L : List Nat} {f : Nat → Option Nat} {q0 ci : Nat} {fs : List Value} {rr : vw_C} (ha : h a = some (Ob 0 [.int mc, .ref ed, .int (nI n)])) (he : h ed = some (Aq "java/lang/Object" n f)) (hn1 : 1 ≤ n) (hn2 : n ≤ 250) (hnL : n = L.length) (hf : ∀ i, i < n → f i = L[i]?) (hM : 10 + 2 * n ≤ M) (hq0 : h q0 = some (Ob ci fs)) (hr : vwCl[ci]? = some rr) (hqa : q0 ≠ a) (hel : ∀ y ∈ L, isOb h y) (hna : ∀ y ∈ L, y ≠ a) : Ct Y_Jx4a65c_add_9ea2d (d + 6) G 1 M [.ref a, .ref q0] h (fun r h2 => r = some (.int 1) ∧ ∃ ed2 cap2, LL G h2 a (L ++ [q0]) ed2 cap2 ∧ cap2 ≤ 400 ∧ (∀ b, b ≠ a → b ≠ ed2 → h2 b = h b) ∧ ((ed2 = ed ∧ cap2 = cap ∧ 0 < cap) ∨ h ed2 = none)) := by
  refine Ct.ofn 0 rfl (Nat.le_of_ble_eq_true rfl) (by simp [Value.category]) ?_
  generalize hpost : (fun (r : Option Value) (h2 : AH) => r = some (.int 1) ∧ ∃ ed2 cap2, LL G h2 a (L ++ [q0]) ed2 cap2 ∧ cap2 ≤ 400 ∧ (∀ b, b ≠ a → b ≠ ed2 → h2 b = h b) ∧ ((ed2 = ed ∧ cap2 = cap ∧ 0 < cap) ∨ h ed2 = none)) = post
  show J Y_Jx4a65c_add_9ea2d (d + 6) G 1 M 0 [some (.ref a), some (.ref q0)] [] h post
  refine J.aload_n 1 dJx4a65c_add_9ea2d_0 rfl rfl ?_
  refine J.dup 2 dJx4a65c_add_9ea2d_1 rfl rfl ?_
  refine gf_Jx4a65c_63 rfl 5 dJx4a65c_add_9ea2d_2 rfl ha rfl ?_
  refine J.iconst 1 6 dJx4a65c_add_9ea2d_5 rfl (by decide) ?_
  refine J.iadd 7 dJx4a65c_add_9ea2d_6 rfl ?_
  refine pf_Jx4a65c_63 rfl 10 dJx4a65c_add_9ea2d_7 rfl ha (Nat.le_of_ble_eq_true rfl) ?_
  refine J.nmH (fun h4 eh4 => ?_)
  have f4 : h4 a = some (Ob 0 [.int (mc + 1), .ref ed, .int (nI n)]) := by rw [eh4]; exact hu_s
  have f5 : h4 ed = some (Aq "java/lang/Object" n f) := by rw [eh4, hu_n (fun z => by rw [z, ha] at he; cases he)]; exact he
  have f6 : h4 q0 = some (Ob ci fs) := by rw [eh4, hu_n hqa]; exact hq0
  refine J.aload_n 11 dJx4a65c_add_9ea2d_10 rfl rfl ?_
  refine J.aload_n 12 dJx4a65c_add_9ea2d_11 rfl rfl ?_
  refine J.aload_n 13 dJx4a65c_add_9ea2d_12 rfl rfl ?_
  refine gf_Jx4a65c_9 rfl 16 dJx4a65c_add_9ea2d_13 rfl f4 rfl ?_
  refine J.aload_n 17 dJx4a65c_add_9ea2d_16 rfl rfl ?_
  refine gf_Jx4a65c_48 rfl 20 dJx4a65c_add_9ea2d_17 rfl f4 rfl ?_
  have hel2 : ∀ i, i < n → ∀ y, f i = some y → isOb h4 y := fun i hi y hy => by
    have hm : y ∈ L := List.mem_of_getElem? ((hf i hi).symm.trans hy)
    rw [eh4]
    exact (hel y hm).hu (hna y hm)
  refine cv_Jx4a65c_131 rfl 23 (jl_add3F f4 f5 (by omega) (by omega) hel2 f6 hr hqa) dJx4a65c_add_9ea2d_20 rfl f4 rfl rfl (Nat.le_of_ble_eq_true rfl) (by omega) (by omega) (fun r h2 hp => ?_)
  obtain ⟨q, rfl, hq, eh2⟩ := hp
  refine J.iconst 1 24 dJx4a65c_add_9ea2d_23 rfl (by decide) ?_
  refine J.zret dJx4a65c_add_9ea2d_24 rfl (Or.inr rfl) ?_
  rw [← hpost]
  have nqa : q ≠ a := fun z => by rw [z, eh4, hu_s] at hq; cases hq
  have hq2 : h q = none := by rw [eh4, hu_n nqa] at hq; exact hq
  obtain ⟨l1, l2⟩ := LL.add (G := G) (L := L) eh4 eh2 nqa hnL (by omega) (fun i hi => by rw [← hf i hi]; unfold va_cpy; rw [if_pos ⟨Nat.zero_le _, by omega⟩]; congr 1; omega)
  exact ⟨rfl, q, (n + max 1 (n / 2)), l1, by omega, l2, Or.inr hq2⟩
theorem jl_addE {d : Nat} {G : Nat → Nat} {h : AH} {a ed : Nat} {mc : Int32} {cap M : Nat} {L : List Nat} {q0 ci : Nat} {fs : List Value} {rr : vw_C} (ha : h a = some (Ob 0 [.int mc, .ref (G 0), .int (nI 0)])) (hnL : 0 = L.length) (hM : 10 ≤ M) (hq0 : h q0 = some (Ob ci fs)) (hr : vwCl[ci]? = some rr) (hqa : q0 ≠ a) : Ct Y_Jx4a65c_add_9ea2d (d + 6) G 1 M [.ref a, .ref q0] h (fun r h2 => r = some (.int 1) ∧ ∃ ed2 cap2, LL G h2 a (L ++ [q0]) ed2 cap2 ∧ cap2 ≤ 400 ∧ (∀ b, b ≠ a → b ≠ ed2 → h2 b = h b) ∧ ((ed2 = ed ∧ cap2 = cap ∧ 0 < cap) ∨ h ed2 = none)) := by
  refine Ct.ofn 0 rfl (Nat.le_of_ble_eq_true rfl) (by simp [Value.category]) ?_
  generalize hpost : (fun (r : Option Value) (h2 : AH) => r = some (.int 1) ∧ ∃ ed2 cap2, LL G h2 a (L ++ [q0]) ed2 cap2 ∧ cap2 ≤ 400 ∧ (∀ b, b ≠ a → b ≠ ed2 → h2 b = h b) ∧ ((ed2 = ed ∧ cap2 = cap ∧ 0 < cap) ∨ h ed2 = none)) = post
  show J Y_Jx4a65c_add_9ea2d (d + 6) G 1 M 0 [some (.ref a), some (.ref q0)] [] h post
  refine J.aload_n 1 dJx4a65c_add_9ea2d_0 rfl rfl ?_
  refine J.dup 2 dJx4a65c_add_9ea2d_1 rfl rfl ?_
  refine gf_Jx4a65c_63 rfl 5 dJx4a65c_add_9ea2d_2 rfl ha rfl ?_
  refine J.iconst 1 6 dJx4a65c_add_9ea2d_5 rfl (by decide) ?_
  refine J.iadd 7 dJx4a65c_add_9ea2d_6 rfl ?_
  refine pf_Jx4a65c_63 rfl 10 dJx4a65c_add_9ea2d_7 rfl ha (Nat.le_of_ble_eq_true rfl) ?_
  refine J.nmH (fun h7 eh7 => ?_)
  have f7 : h7 a = some (Ob 0 [.int (mc + 1), .ref (G 0), .int (nI 0)]) := by rw [eh7]; exact hu_s
  have f8 : h7 q0 = some (Ob ci fs) := by rw [eh7, hu_n hqa]; exact hq0
  refine J.aload_n 11 dJx4a65c_add_9ea2d_10 rfl rfl ?_
  refine J.aload_n 12 dJx4a65c_add_9ea2d_11 rfl rfl ?_
  refine J.aload_n 13 dJx4a65c_add_9ea2d_12 rfl rfl ?_
  refine gf_Jx4a65c_9 rfl 16 dJx4a65c_add_9ea2d_13 rfl f7 rfl ?_
  refine J.aload_n 17 dJx4a65c_add_9ea2d_16 rfl rfl ?_
  refine gf_Jx4a65c_48 rfl 20 dJx4a65c_add_9ea2d_17 rfl f7 rfl ?_
  refine cv_Jx4a65c_131 rfl 23 (jl_add3E f7 f8 hr hqa) dJx4a65c_add_9ea2d_20 rfl f7 rfl rfl (Nat.le_of_ble_eq_true rfl) (by omega) (by omega) (fun r h2 hp => ?_)
  obtain ⟨q, rfl, hq, eh2⟩ := hp
  refine J.iconst 1 24 dJx4a65c_add_9ea2d_23 rfl (by decide) ?_
  refine J.zret dJx4a65c_add_9ea2d_24 rfl (Or.inr rfl) ?_
  rw [← hpost]
  have nqa : q ≠ a := fun z => by rw [z, eh7, hu_s] at hq; cases hq
  have hq2 : h q = none := by rw [eh7, hu_n nqa] at hq; exact hq
  obtain ⟨l1, l2⟩ := LL.add (G := G) (L := L) eh7 eh2 nqa hnL (by omega) (fun i hi => absurd hi (Nat.not_lt_zero _))
  exact ⟨rfl, q, 10, l1, by omega, l2, Or.inr hq2⟩
theorem jl_add {d : Nat} {G : Nat → Nat} {h : AH} {a ed cap q0 M : Nat} {L : List Nat} (hL : LL G h a L ed cap) (hcap : cap ≤ 400) (hlen : L.length ≤ 250) (hM : 10 + 2 * L.length ≤ M) (hq : isOb h q0) (hqa : q0 ≠ a) (hel : ∀ y ∈ L, isOb h y) (hna : ∀ y ∈ L, y ≠ a) : Ct Y_Jx4a65c_add_9ea2d (d + 6) G 1 M [.ref a, .ref q0] h (fun r h2 => r = some (.int 1) ∧ ∃ ed2 cap2, LL G h2 a (L ++ [q0]) ed2 cap2 ∧ cap2 ≤ 400 ∧ (∀ b, b ≠ a → b ≠ ed2 → h2 b = h b) ∧ ((ed2 = ed ∧ cap2 = cap ∧ 0 < cap) ∨ h ed2 = none)) := by
  obtain ⟨mc, f, ha, hc⟩ := hL
  obtain ⟨ci, fs, hq0, hci⟩ := hq
  obtain ⟨rr, hr⟩ : ∃ r, vwCl[ci]? = some r := ⟨_, List.getElem?_eq_getElem (show ci < vwCl.length from hci)⟩
  rcases hc with ⟨rfl, rfl, rfl⟩ | ⟨h1, h2, h3, h4⟩
  · exact jl_addE ha rfl (by omega) hq0 hr hqa
  · rcases Nat.lt_or_ge L.length cap with z | z
    · exact jl_addR ha h3 z hcap rfl h4 hM hq0 hr hqa
    · have e : cap = L.length := by omega
      subst e
      exact jl_addF ha h3 (by omega) (by omega) rfl h4 hM hq0 hr hqa hel hna
theorem jl_getL {d : Nat} {G : Nat → Nat} {h : AH} {a ed cap i q : Nat} {L : List Nat} (hL : LL G h a L ed cap) (hcap : cap ≤ 400) (hi : L[i]? = some q) : Ct Y_Jx4a65c_get_915e3 (d + 2) G 0 0 [.ref a, .int (nI i)] h (fun r h2 => r = some (.ref q) ∧ h2 = h) := by
  obtain ⟨mc, f, ha, hc⟩ := hL
  have hl := (List.getElem?_eq_some_iff.mp hi).1
  rcases hc with ⟨rfl, rfl, rfl⟩ | ⟨h1, h2, h3, h4⟩
  · simp at hi
  · exact jl_get ha hl h2 (by omega) h3 ((h4 i hl).trans hi)
theorem jl_sizeL {d : Nat} {G : Nat → Nat} {h : AH} {a ed cap : Nat} {L : List Nat} (hL : LL G h a L ed cap) : Ct Y_Jx4a65c_size_8abf5 d G 0 0 [.ref a] h (fun r h2 => r = some (.int (nI L.length)) ∧ h2 = h) := by
  obtain ⟨mc, f, ha, hc⟩ := hL
  exact jl_size ha
theorem jl_isEmptyL {d : Nat} {G : Nat → Nat} {h : AH} {a ed cap : Nat} {L : List Nat} (hL : LL G h a L ed cap) : Ct Y_Jx4a65c_isEmpty_aae02 d G 0 0 [.ref a] h (fun r h2 => r = some (.int (ib (nI L.length = 0))) ∧ h2 = h) := by
  obtain ⟨mc, f, ha, hc⟩ := hL
  exact jl_isEmpty ha
