theorem J.nmH {Y : YM} {d kc ks pc : Nat} {G : Nat → Nat} {lv : List (Option Value)} {st : List Value} {h : AH} {post : Option Value → AH → Prop} (k : ∀ h1, h1 = h → J Y d G kc ks pc lv st h1 post) : J Y d G kc ks pc lv st h post := k h rfl
theorem hu_hu {h : AH} {a : Nat} {e f : AE} : hu (hu h a e) a f = hu h a f := by
  funext b
  unfold hu
  split <;> rfl
theorem hu_sw {h : AH} {a b : Nat} {e f : AE} (n : a ≠ b) : hu (hu h a e) b f = hu (hu h b f) a e := by
  funext c
  unfold hu
  by_cases h1 : c = a
  · subst h1
    simp [n]
  · by_cases h2 : c = b
    · subst h2
      simp [h1]
    · simp [h1, h2]
theorem jl_size {d : Nat} {G : Nat → Nat} {h : AH} {a ed n : Nat} {mc : Int32} (ha : h a = some (Ob 0 [.int mc, .ref ed, .int (nI n)])) : Ct Y_Jx4a65c_size_8abf5 d G 0 0 [.ref a] h (fun r h2 => r = some (.int (nI n)) ∧ h2 = h) := by
  refine Ct.ofn 0 rfl (Nat.le_of_ble_eq_true rfl) (by simp [Value.category]) ?_
  generalize hpost : (fun (r : Option Value) (h2 : AH) => r = some (.int (nI n)) ∧ h2 = h) = post
  show J Y_Jx4a65c_size_8abf5 d G 0 0 0 [some (.ref a)] [] h post
  refine J.aload_n 1 dJx4a65c_size_8abf5_0 rfl rfl ?_
  refine gf_Jx4a65c_48 rfl 4 dJx4a65c_size_8abf5_1 rfl ha rfl ?_
  exact J.iret dJx4a65c_size_8abf5_4 rfl (by rw [← hpost]; exact ⟨rfl, rfl⟩)
theorem jl_isEmpty {d : Nat} {G : Nat → Nat} {h : AH} {a ed n : Nat} {mc : Int32} (ha : h a = some (Ob 0 [.int mc, .ref ed, .int (nI n)])) : Ct Y_Jx4a65c_isEmpty_aae02 d G 0 0 [.ref a] h (fun r h2 => r = some (.int (ib (nI n = 0))) ∧ h2 = h) := by
  refine Ct.ofn 0 rfl (Nat.le_of_ble_eq_true rfl) (by simp [Value.category]) ?_
  generalize hpost : (fun (r : Option Value) (h2 : AH) => r = some (.int (ib (nI n = 0))) ∧ h2 = h) = post
  show J Y_Jx4a65c_isEmpty_aae02 d G 0 0 0 [some (.ref a)] [] h post
  refine J.aload_n 1 dJx4a65c_isEmpty_aae02_0 rfl rfl ?_
  refine gf_Jx4a65c_48 rfl 4 dJx4a65c_isEmpty_aae02_1 rfl ha rfl ?_
  refine J.if_ne 11 7 dJx4a65c_isEmpty_aae02_4 (by decide) rfl (fun c1 => ?_) (fun c1 => ?_)
  · skip
    refine J.iconst 0 12 dJx4a65c_isEmpty_aae02_11 rfl (by decide) ?_
    exact J.zret dJx4a65c_isEmpty_aae02_12 rfl (Or.inl rfl) (by rw [← hpost]; exact ⟨by simp [ib, c1], rfl⟩)
  · skip
    refine J.iconst 1 8 dJx4a65c_isEmpty_aae02_7 rfl (by decide) ?_
    refine J.goto 12 dJx4a65c_isEmpty_aae02_8 (by decide) ?_
    exact J.zret dJx4a65c_isEmpty_aae02_12 rfl (Or.inr rfl) (by rw [← hpost]; exact ⟨by simp [ib, c1], rfl⟩)
theorem J.mmax {Y : YM} {d kc ks pc idx : Nat} {G : Nat → Nat} {lv : List (Option Value)} {st : List Value} {h : AH} {post : Option Value → AH → Prop} {x y : Int32} (pn : Nat) (hd : decode Y.2.1 pc = .ok (.invokestatic idx, 3)) (hn : pc + 3 = pn) (hw : Cond.methodLink Y.1.cls idx ⟨"java/lang/Math", "max", "(II)I"⟩ ∈ lw_gd) (hrm : (st.map fun v => v.category).sum ≤ 8) (kk : J Y (d + 1) G kc ks pn lv (.int (if x < y then y else x) :: st) h post) : J Y (d + 1) G kc ks pc lv (.int y :: .int x :: st) h post := by
  subst hn
  intro A D p l e s m args below meth c mc ms H locs cells slots ls C hR hS g1 g2 hl
  have hts := C.2.2.2.2.2.1
  exact va_mmax C.1 C.2.1 (C.2.2.1.trans (lvk_size hl).symm) C.2.2.2.2.1 (hts _ hw) (hts _ wm_221) (hts _ wm_12) (hts _ wm_222) (show 1 ≤ d + 1 by omega) (show _ + 13 ≤ 40 * (d + 1) by omega) (show cells ≤ mc by omega) (show slots ≤ ms by omega) hd (kk A D p l e s m args below meth c mc ms H locs cells slots ls C hR hS g1 g2 hl)
theorem J.mmin {Y : YM} {d kc ks pc idx : Nat} {G : Nat → Nat} {lv : List (Option Value)} {st : List Value} {h : AH} {post : Option Value → AH → Prop} {x y : Int32} (pn : Nat) (hd : decode Y.2.1 pc = .ok (.invokestatic idx, 3)) (hn : pc + 3 = pn) (hw : Cond.methodLink Y.1.cls idx ⟨"java/lang/Math", "min", "(II)I"⟩ ∈ lw_gd) (hrm : (st.map fun v => v.category).sum ≤ 8) (kk : J Y (d + 1) G kc ks pn lv (.int (if y < x then y else x) :: st) h post) : J Y (d + 1) G kc ks pc lv (.int y :: .int x :: st) h post := by
  subst hn
  intro A D p l e s m args below meth c mc ms H locs cells slots ls C hR hS g1 g2 hl
  have hts := C.2.2.2.2.2.1
  exact va_mmin C.1 C.2.1 (C.2.2.1.trans (lvk_size hl).symm) C.2.2.2.2.1 (hts _ hw) (hts _ wm_255) (hts _ wm_12) (hts _ wm_256) (show 1 ≤ d + 1 by omega) (show _ + 13 ≤ 40 * (d + 1) by omega) (show cells ≤ mc by omega) (show slots ≤ ms by omega) hd (kk A D p l e s m args below meth c mc ms H locs cells slots ls C hR hS g1 g2 hl)
theorem jl_chk3 {d : Nat} {G : Nat → Nat} {h : AH} {i x : Int32} (h0 : ¬ i < 0) (h1 : i < x) : Ct Y_J3_checkIndex_8e157 d G 0 0 [.int i, .int x, .null] h (fun r h2 => r = some (.int i) ∧ h2 = h) := by
  refine Ct.ofn 0 rfl (Nat.le_of_ble_eq_true rfl) (by simp [Value.category]) ?_
  generalize hpost : (fun (r : Option Value) (h2 : AH) => r = some (.int i) ∧ h2 = h) = post
  show J Y_J3_checkIndex_8e157 d G 0 0 0 [some (.int i), some (.int x), some .null] [] h post
  refine J.iload_n 1 dJ3_checkIndex_8e157_0 rfl rfl ?_
  refine J.if_lt 9 4 dJ3_checkIndex_8e157_1 (by decide) rfl (fun c1 => ?_) (fun c1 => ?_)
  · skip
    exact absurd c1 h0
  · skip
    refine J.iload_n 5 dJ3_checkIndex_8e157_4 rfl rfl ?_
    refine J.iload_n 6 dJ3_checkIndex_8e157_5 rfl rfl ?_
    refine J.icmp_lt 16 9 dJ3_checkIndex_8e157_6 (by decide) rfl (fun c2 => ?_) (fun c2 => ?_)
    · skip
      refine J.iload_n 17 dJ3_checkIndex_8e157_16 rfl rfl ?_
      exact J.iret dJ3_checkIndex_8e157_17 rfl (by rw [← hpost]; exact ⟨rfl, rfl⟩)
    · skip
      exact absurd h1 c2
theorem jl_chk {d : Nat} {G : Nat → Nat} {h : AH} {i x : Int32} (h0 : ¬ i < 0) (h1 : i < x) : Ct Y_J15_checkIndex_7cf53 (d + 1) G 0 0 [.int i, .int x] h (fun r h2 => r = some (.int i) ∧ h2 = h) := by
  refine Ct.ofn 0 rfl (Nat.le_of_ble_eq_true rfl) (by simp [Value.category]) ?_
  generalize hpost : (fun (r : Option Value) (h2 : AH) => r = some (.int i) ∧ h2 = h) = post
  show J Y_J15_checkIndex_7cf53 (d + 1) G 0 0 0 [some (.int i), some (.int x)] [] h post
  refine J.iload_n 1 dJ15_checkIndex_7cf53_0 rfl rfl ?_
  refine J.iload_n 2 dJ15_checkIndex_7cf53_1 rfl rfl ?_
  refine J.anull 3 dJ15_checkIndex_7cf53_2 rfl ?_
  refine cs_J15_105 rfl 6 (jl_chk3 h0 h1) dJ15_checkIndex_7cf53_3 rfl rfl rfl (Nat.le_of_ble_eq_true rfl) (Nat.le_refl _) (Nat.le_refl _) (fun r h2 hp => ?_)
  obtain ⟨rfl, rfl⟩ := hp
  exact J.iret dJ15_checkIndex_7cf53_6 rfl (by rw [← hpost]; exact ⟨rfl, rfl⟩)
theorem jl_elem {d : Nat} {G : Nat → Nat} {h : AH} {a ed n : Nat} {mc : Int32} {i cap q : Nat} {f : Nat → Option Nat} (ha : h a = some (Ob 0 [.int mc, .ref ed, .int (nI n)])) (hi : i < n) (hn : n ≤ cap) (hc : cap ≤ 100000) (he : h ed = some (Aq "java/lang/Object" cap f)) (hf : f i = some q) : Ct Y_Jx4a65c_elementData_915e3 d G 0 0 [.ref a, .int (nI i)] h (fun r h2 => r = some (.ref q) ∧ h2 = h) := by
  refine Ct.ofn 0 rfl (Nat.le_of_ble_eq_true rfl) (by simp [Value.category]) ?_
  generalize hpost : (fun (r : Option Value) (h2 : AH) => r = some (.ref q) ∧ h2 = h) = post
  show J Y_Jx4a65c_elementData_915e3 d G 0 0 0 [some (.ref a), some (.int (nI i))] [] h post
  refine J.aload_n 1 dJx4a65c_elementData_915e3_0 rfl rfl ?_
  refine gf_Jx4a65c_9 rfl 4 dJx4a65c_elementData_915e3_1 rfl ha rfl ?_
  refine J.iload_n 5 dJx4a65c_elementData_915e3_4 rfl rfl ?_
  refine J.aald 6 dJx4a65c_elementData_915e3_5 rfl he (vp_in_nI (by omega) (by omega)) ?_
  rw [show (nI i).toNatClampNeg = i from nI_clamp (by omega), hf]
  show J _ _ _ _ _ _ _ (.ref q :: _) _ _
  exact J.aret dJx4a65c_elementData_915e3_6 rfl (by first | exact Or.inl ⟨_, rfl⟩ | exact Or.inr ⟨_, rfl⟩) (Or.inr ⟨_, rfl⟩) (by rw [← hpost]; exact ⟨rfl, rfl⟩)
theorem jl_get {d : Nat} {G : Nat → Nat} {h : AH} {a ed n : Nat} {mc : Int32} {i cap q : Nat} {f : Nat → Option Nat} (ha : h a = some (Ob 0 [.int mc, .ref ed, .int (nI n)])) (hi : i < n) (hn : n ≤ cap) (hc : cap ≤ 100000) (he : h ed = some (Aq "java/lang/Object" cap f)) (hf : f i = some q) : Ct Y_Jx4a65c_get_915e3 (d + 2) G 0 0 [.ref a, .int (nI i)] h (fun r h2 => r = some (.ref q) ∧ h2 = h) := by
  refine Ct.ofn 0 rfl (Nat.le_of_ble_eq_true rfl) (by simp [Value.category]) ?_
  generalize hpost : (fun (r : Option Value) (h2 : AH) => r = some (.ref q) ∧ h2 = h) = post
  show J Y_Jx4a65c_get_915e3 (d + 2) G 0 0 0 [some (.ref a), some (.int (nI i))] [] h post
  refine J.iload_n 1 dJx4a65c_get_915e3_0 rfl rfl ?_
  refine J.aload_n 2 dJx4a65c_get_915e3_1 rfl rfl ?_
  refine gf_Jx4a65c_48 rfl 5 dJx4a65c_get_915e3_2 rfl ha rfl ?_
  refine cs_Jx4a65c_118 rfl 8 (jl_chk (i := nI i) (x := nI n) (nI_pos (by omega)) (nI_lt hi (by omega))) dJx4a65c_get_915e3_5 rfl rfl rfl (Nat.le_of_ble_eq_true rfl) (Nat.le_refl _) (Nat.le_refl _) (fun r h2 hp => ?_)
  obtain ⟨rfl, rfl⟩ := hp
  refine J.pop 9 dJx4a65c_get_915e3_8 rfl rfl ?_
  refine J.aload_n 10 dJx4a65c_get_915e3_9 rfl rfl ?_
  refine J.iload_n 11 dJx4a65c_get_915e3_10 rfl rfl ?_
  refine cv_Jx4a65c_123 rfl 14 (jl_elem ha hi hn hc he hf) dJx4a65c_get_915e3_11 rfl ha rfl rfl (Nat.le_of_ble_eq_true rfl) (Nat.le_refl _) (Nat.le_refl _) (fun r h2 hp => ?_)
  obtain ⟨rfl, rfl⟩ := hp
  exact J.aret dJx4a65c_get_915e3_14 rfl (by first | exact Or.inl ⟨_, rfl⟩ | exact Or.inr ⟨_, rfl⟩) (Or.inr ⟨_, rfl⟩) (by rw [← hpost]; exact ⟨rfl, rfl⟩)
theorem jl_i3 {d : Nat} {G : Nat → Nat} {h : AH} {a : Nat} : Ct Y_Jxa1e45_init_da8c8 (d + 1) G 0 0 [.ref a] h (fun r h2 => r = none ∧ h2 = h) := by
  refine Ct.ofn 0 rfl (Nat.le_of_ble_eq_true rfl) (by simp [Value.category]) ?_
  generalize hpost : (fun (r : Option Value) (h2 : AH) => r = none ∧ h2 = h) = post
  show J Y_Jxa1e45_init_da8c8 (d + 1) G 0 0 0 [some (.ref a)] [] h post
  refine J.aload_n 1 dJxa1e45_init_da8c8_0 rfl rfl ?_
  refine co_Jxa1e45_1 rfl 4 dJxa1e45_init_da8c8_1 rfl (Nat.le_of_ble_eq_true rfl) ?_
  exact J.vret dJxa1e45_init_da8c8_4 rfl (by rw [← hpost]; exact ⟨rfl, rfl⟩)
theorem jl_i2 {d : Nat} {G : Nat → Nat} {h : AH} {a : Nat} {mc : Int32} {x y : Value} (ha : h a = some (Ob 0 [.int mc, x, y])) : Ct Y_Jxc12de_init_da8c8 (d + 2) G 0 0 [.ref a] h (fun r h2 => r = none ∧ h2 = hu h a (Ob 0 [.int 0, x, y])) := by
  refine Ct.ofn 0 rfl (Nat.le_of_ble_eq_true rfl) (by simp [Value.category]) ?_
  generalize hpost : (fun (r : Option Value) (h2 : AH) => r = none ∧ h2 = hu h a (Ob 0 [.int 0, x, y])) = post
  show J Y_Jxc12de_init_da8c8 (d + 2) G 0 0 0 [some (.ref a)] [] h post
  refine J.aload_n 1 dJxc12de_init_da8c8_0 rfl rfl ?_
  refine cn_Jxc12de_1 rfl 4 jl_i3 dJxc12de_init_da8c8_1 rfl rfl rfl (Nat.le_of_ble_eq_true rfl) (Nat.le_refl _) (Nat.le_refl _) (fun r h2 hp => ?_)
  obtain ⟨rfl, rfl⟩ := hp
  refine J.aload_n 5 dJxc12de_init_da8c8_4 rfl rfl ?_
  refine J.iconst 0 6 dJxc12de_init_da8c8_5 rfl (by decide) ?_
  refine pf_Jxc12de_7 rfl 9 dJxc12de_init_da8c8_6 rfl ha (Nat.le_of_ble_eq_true rfl) ?_
  refine J.nmH (fun h1 eh1 => ?_)
  have f1 : h1 a = some (Ob 0 [.int 0, x, y]) := by rw [eh1]; exact hu_s
  exact J.vret dJxc12de_init_da8c8_9 rfl (by rw [← hpost]; exact ⟨rfl, eh1⟩)
theorem jl_init {d : Nat} {G : Nat → Nat} {h : AH} {a : Nat} {mc : Int32} {x y : Value} (ha : h a = some (Ob 0 [.int mc, x, y])) : Ct Y_Jx4a65c_init_da8c8 (d + 3) G 0 0 [.ref a] h (fun r h2 => r = none ∧ h2 = hu h a (Ob 0 [.int 0, .ref (G 0), y])) := by
  refine Ct.ofn 0 rfl (Nat.le_of_ble_eq_true rfl) (by simp [Value.category]) ?_
  generalize hpost : (fun (r : Option Value) (h2 : AH) => r = none ∧ h2 = hu h a (Ob 0 [.int 0, .ref (G 0), y])) = post
  show J Y_Jx4a65c_init_da8c8 (d + 3) G 0 0 0 [some (.ref a)] [] h post
  refine J.aload_n 1 dJx4a65c_init_da8c8_0 rfl rfl ?_
  refine cn_Jx4a65c_1 rfl 4 (jl_i2 ha) dJx4a65c_init_da8c8_1 rfl rfl rfl (Nat.le_of_ble_eq_true rfl) (Nat.le_refl _) (Nat.le_refl _) (fun r h2 hp => ?_)
  obtain ⟨rfl, eh2⟩ := hp
  have f2 : h2 a = some (Ob 0 [.int 0, x, y]) := by rw [eh2]; exact hu_s
  refine J.aload_n 5 dJx4a65c_init_da8c8_4 rfl rfl ?_
  refine J.getsE rfl 8 dJx4a65c_init_da8c8_5 rfl ?_
  refine pf_Jx4a65c_9 rfl 11 dJx4a65c_init_da8c8_8 rfl f2 (Nat.le_of_ble_eq_true rfl) ?_
  refine J.nmH (fun h3 eh3 => ?_)
  have f3 : h3 a = some (Ob 0 [.int 0, .ref (G 0), y]) := by rw [eh3]; exact hu_s
  exact J.vret dJx4a65c_init_da8c8_11 rfl (by rw [← hpost]; exact ⟨rfl, by rw [eh3, eh2, hu_hu]; rfl⟩)
