/-! ===== the abstract heap: what each address holds; HR: the machine's heap holds it ===== -/
abbrev AE : Type := (FieldType × vp_A) ⊕ (Nat × List Value)
abbrev AH : Type := Nat → Option AE
abbrev YM : Type := MethodName × ByteArray × Nat × Option FieldType
def hu (h : AH) (a : Nat) (e : AE) : AH := fun b => if b = a then some e else h b
theorem hu_s {h : AH} {a : Nat} {e : AE} : hu h a e a = some e := if_pos rfl
theorem hu_n {h : AH} {a b : Nat} {e : AE} (n : b ≠ a) : hu h a e b = h b := if_neg n
def jh_in (a : Nat) (e : AE) (ws : va_W) (tys : List (ClassId × FieldType)) : Prop := match e with
  | .inl x => ∃ cA : ClassId, (a, (Sum.inl (cA, x.2) : va_E)) ∈ ws ∧ (cA, x.1) ∈ tys
  | .inr o => (a, (Sum.inr o : va_E)) ∈ ws
def HR (D : va_G) (A : Nat → Prop) (s : State) (h : AH) (H : Heap) : Prop :=
  ∃ (ws : va_W) (tys : List (ClassId × FieldType)), va_K D vwCl tys s ∧ va_P D vwCl ws H ∧ va_D A ws ∧ ∀ a e, h a = some e → jh_in a e ws tys
theorem jh_lt {a : Nat} {e : AE} {ws : va_W} {tys : List (ClassId × FieldType)} {D : va_G} {H : Heap} (hi : jh_in a e ws tys) (hP : va_P D vwCl ws H) : a < H.size := by
  cases e with
  | inl x =>
    obtain ⟨cA, h1, -⟩ := hi
    obtain ⟨k, hk⟩ := List.getElem?_of_mem h1
    exact (hP k _ hk).lt
  | inr o =>
    obtain ⟨k, hk⟩ := List.getElem?_of_mem (show (a, (Sum.inr o : va_E)) ∈ ws from hi)
    exact (hP k _ hk).lt
theorem HR.fresh {D : va_G} {A : Nat → Prop} {s : State} {h : AH} {H : Heap} (hR : HR D A s h H) {q : Nat} (hq : H.size ≤ q) : h q = none := by
  obtain ⟨ws, tys, -, hP, -, hh⟩ := hR
  cases e : h q with
  | none => rfl
  | some x => exact absurd (jh_lt (hh q x e) hP) (by omega)
theorem HR.moved {D : va_G} {A : Nat → Prop} {s U : State} {h : AH} {H : Heap} (hvm : s.vm.Alike U.vm) (hR : HR D A s h H) : HR D A U h H := by
  obtain ⟨ws, tys, hK, h2⟩ := hR
  exact ⟨ws, tys, va_K.moved hvm hK, h2⟩
theorem HR.less {D : va_G} {A : Nat → Prop} {s : State} {h h2 : AH} {H : Heap} (hR : HR D A s h H) (hl : ∀ a e, h2 a = some e → h a = some e) : HR D A s h2 H := by
  obtain ⟨ws, tys, hK, hP, hD, hh⟩ := hR
  exact ⟨ws, tys, hK, hP, hD, fun a e q => hh a e (hl a e q)⟩
/-- behind a write to the cell at place k of the list -/
theorem jh_set {ws : va_W} {tys : List (ClassId × FieldType)} {A : Nat → Prop} {h : AH} (hD : va_D A ws) (hh : ∀ a e, h a = some e → jh_in a e ws tys) {k a : Nat} {e0 e1 : va_E} (hk : ws[k]? = some (a, e0)) {e : AE} (he : ∀ ws' : va_W, (a, e1) ∈ ws' → jh_in a e ws' tys) : ∀ b x, hu h a e b = some x → jh_in b x (ws.set k (a, e1)) tys := by
  have hl := (List.getElem?_eq_some_iff.mp hk).1
  have keep : ∀ (b : Nat) (y : va_E), b ≠ a → (b, y) ∈ ws → (b, y) ∈ ws.set k (a, e1) := by
    intro b y hb hm
    obtain ⟨j, hj⟩ := List.getElem?_of_mem hm
    have hjk : j ≠ k := fun z => hb (by rw [z] at hj; exact congrArg Prod.fst (Option.some.inj (hj.symm.trans hk)))
    exact List.mem_of_getElem? (i := j) (by rw [List.getElem?_set_ne (Ne.symm hjk)]; exact hj)
  intro b x hb
  by_cases hba : b = a
  · subst hba
    rw [hu_s] at hb
    cases hb
    exact he _ (List.mem_of_getElem? (i := k) (by rw [List.getElem?_set_self hl]))
  · rw [hu_n hba] at hb
    have := hh b x hb
    cases x with
    | inl y =>
      obtain ⟨cA, h1, h2⟩ := this
      exact ⟨cA, keep b _ hba h1, h2⟩
    | inr o => exact keep b _ hba this
theorem jh_push {ws : va_W} {tys tys2 : List (ClassId × FieldType)} {h : AH} {D : va_G} {H : Heap} (hP : va_P D vwCl ws H) (hh : ∀ a e, h a = some e → jh_in a e ws tys) {q : Nat} {e1 : va_E} {e : AE} (he : ∀ ws' : va_W, (q, e1) ∈ ws' → jh_in q e ws' (tys ++ tys2)) : ∀ b x, hu h q e b = some x → jh_in b x (ws ++ [(q, e1)]) (tys ++ tys2) := by
  intro b x hb
  by_cases hba : b = q
  · subst hba
    rw [hu_s] at hb
    cases hb
    exact he _ (List.mem_append_right _ (List.mem_singleton.mpr rfl))
  · rw [hu_n hba] at hb
    have := hh b x hb
    cases x with
    | inl y =>
      obtain ⟨cA, h1, h2⟩ := this
      exact ⟨cA, List.mem_append_left _ h1, List.mem_append_left _ h2⟩
    | inr o => exact List.mem_append_left _ this
/-! ===== the fixed surroundings: G 0: ArrayList's empty row ===== -/
def Gl (G : Nat → Nat) (A : Nat → Prop) (s : State) : Prop :=
  va_Z "java/util/ArrayList" "DEFAULTCAPACITY_EMPTY_ELEMENTDATA" "[Ljava/lang/Object;" (.ref (G 0)) A s s.heap ∧ va_T (.object "java/lang/Object") (G 0) 0 (fun _ => .null) A s s.heap ∧
  (∀ (a : String) (i : Nat) (x : MethodName) (b : String), Cond.methodLinkNest a i x b ∈ lw_tbl → va_Nw (.methodLinkNest a i x b) s) ∧ (∀ C T : String, Cond.castable C T ∈ lw_tbl → va_Nw (.castable C T) s) ∧
  va_AO "java/lang/Object" s ∧ va_AO "HutLift$Place" s ∧ va_Mi "[Ljava/lang/Object;" (G 1) s ∧ va_Dc s ∧ vk_R "HutLift$Tape" 35 "wtshmpeklnf" (G 2) s ∧ vk_S 1 [11] [[119, 116, 115, 104, 109, 112, 101, 107, 108, 110, 102]] (fun _ => G 2) (fun _ => G 3) A s s.heap ∧ (va_Z "java/lang/String" "COMPACT_STRINGS" "Z" (.int 1) A s s.heap ∧ va_T .int (G 4) (G 5) (fun j => .int (Int32.ofNat (G (6 + j)))) A s s.heap)
theorem Gl.step {G : Nat → Nat} {A : Nat → Prop} {s U : State} (h : Gl G A s) (hW : s.WarmedH U.vm) (hq : ∀ q : Nat, q < s.heap.size → ¬ A q → U.heap[q]? = s.heap[q]?) : Gl G A U := by
  obtain ⟨h1, h2, h3, h4, h5, h6, h7, h8, h9, h10, h11⟩ := h
  exact ⟨(h1.moved hW.alike).kept hq, (h2.moved hW.alike).kept hq, fun a i x b hm => va_Nw.warmM hW (h3 a i x b hm), fun C T hm => va_Nw.warmC hW (h4 C T hm), h5.moved hW.alike, h6.moved hW.alike, h7.moved hW.alike, h8.moved hW.alike, h9.warm hW, (h10.moved hW.alike).kept hq, (h11.1.moved hW.alike).kept hq, (h11.2.moved hW.alike).kept hq⟩
theorem Gl.same {G : Nat → Nat} {A : Nat → Prop} {s U : State} (h : Gl G A s) (hv : s.vm = U.vm) (hq : U.heap = s.heap) : Gl G A U := by
  obtain ⟨h1, h2, h3, h4, h5, h6, h7, h8, h9, h10, h11⟩ := h
  have hal : s.vm.Alike U.vm := by rw [hv]; exact Vm.Alike.refl _
  exact ⟨(h1.moved hal).kept (fun q _ _ => by rw [hq]), (h2.moved hal).kept (fun q _ _ => by rw [hq]), fun a i x b hm => va_Nw.same rfl hv (h3 a i x b hm), fun C T hm => va_Nw.same rfl hv (h4 C T hm), h5.moved hal, h6.moved hal, h7.moved hal, h8.moved hal, h9.same hv.symm, (h10.moved hal).kept (fun q _ _ => by rw [hq]), (h11.1.moved hal).kept (fun q _ _ => by rw [hq]), (h11.2.moved hal).kept (fun q _ _ => by rw [hq])⟩
/-! ===== the judgement ===== -/
def rmd (d mc ms : Nat) : Room := { frames := d, cells := mc, slots := ms, locals := 40 * d }
def QJ (D : va_G) (A : Nat → Prop) (post : Option Value → AH → Prop) : Array Value → State → Outcome → State → Prop := fun _ s o t =>
  (∃ (r : Option Value) (h : AH), o = .returned r ∧ post r h ∧ HR D A t h t.heap) ∧ va_F A s t
def Cx (Y : YM) (G : Nat → Nat) (A : Nat → Prop) (p : Program) (s : State) (m : MethodId) (args : Array Value) (meth : Method) (c : Code) : Prop :=
  p.tables.exec = Jvm.exec ∧ c.code = Y.2.1 ∧ c.maxLocals = Y.2.2.1 ∧ meth.sig.returnType = Y.2.2.2 ∧ s.vm.findClass Y.1.cls = some m.cls ∧ (∀ w ∈ lw_gd, w.before args s = true) ∧ meth.locks = false ∧ meth.name = Y.1.name ∧ Gl G A s ∧ ∀ q, s.heap.size ≤ q → A q
def lvk (ls : Array Slot) (n : Nat) (lv : List (Option Value)) : Prop := ∃ l : List (Nat × Value), lv_has ls n l ∧ ∀ (i : Nat) (v : Value), lv[i]? = some (some v) → (i, v) ∈ l ∧ v.category = 1
def J (Y : YM) (d : Nat) (G : Nat → Nat) (kc ks pc : Nat) (lv : List (Option Value)) (st : List Value) (h : AH) (post : Option Value → AH → Prop) : Prop :=
  ∀ (A : Nat → Prop) (D : va_G) (p : Program) (l : Launch) (e : Env) (s : State) (m : MethodId) (args : Array Value) (below : List Frame) (meth : Method) (c : Code) (mc ms : Nat) (H : Heap) (locs : List Loc) (cells slots : Nat) (ls : Array Slot),
    Cx Y G A p s m args meth c → HR D A s h H → va_S A s.heap H locs → cells + kc ≤ mc → slots + ks ≤ ms → lvk ls Y.2.2.1 lv →
    W p l e (rmd d mc ms) s m args below meth c H locs cells slots (MQ below (QJ D A post) args s mc ms A) (F0 m pc ls st)
/-- a method's contract -/
def Ct (Y : YM) (d : Nat) (G : Nat → Nat) (mc ms : Nat) (av : List Value) (h : AH) (post : Option Value → AH → Prop) : Prop :=
  ∀ (A : Nat → Prop) (D : va_G) (l : Launch), Met l Y.1 (Cond.code Y.1 Y.2.1 Y.2.2.1 Y.2.2.2 :: lw_gd) (rmd d mc ms) (fun a U => a = av.toArray ∧ Gl G A U ∧ (∀ q, U.heap.size ≤ q → A q) ∧ HR D A U h U.heap) (QJ D A post) mc ms A
theorem lvk_get {ls : Array Slot} {n : Nat} {lv : List (Option Value)} (hl : lvk ls n lv) {i : Nat} {v : Value} (hi : lv[i]? = some (some v)) : ls[i]? = some (.val v) := by
  obtain ⟨l, h1, h2⟩ := hl
  exact h1.2.2 (i, v) (h2 i v hi).1
theorem lvk_size {ls : Array Slot} {n : Nat} {lv : List (Option Value)} (hl : lvk ls n lv) : ls.size = n := by
  obtain ⟨l, h1, -⟩ := hl
  exact h1.1
theorem lvk_set {lv : List (Option Value)} {l : List (Nat × Value)} {i : Nat} {v : Value} (hc : v.category = 1) (h2 : ∀ (i : Nat) (v : Value), lv[i]? = some (some v) → (i, v) ∈ l ∧ v.category = 1) : ∀ (j : Nat) (w : Value), (lv.set i (some v))[j]? = some (some w) → (j, w) ∈ ((i, v) :: l.filter (fun q => !(q.1 == i) && !(q.1 + 1 == i && q.2.category == 2))) ∧ w.category = 1 := by
  intro j w hj
  by_cases hji : j = i
  · subst hji
    by_cases hl : j < lv.length
    · rw [List.getElem?_set_self hl] at hj
      cases hj
      exact ⟨List.mem_cons_self, hc⟩
    · rw [List.getElem?_eq_none (by rw [List.length_set]; omega)] at hj
      cases hj
  · rw [List.getElem?_set_ne (Ne.symm hji)] at hj
    obtain ⟨h3, h4⟩ := h2 j w hj
    exact ⟨List.mem_cons_of_mem _ (List.mem_filter.mpr ⟨h3, by simp [hji, h4]⟩), h4⟩
theorem lvk_less {ls : Array Slot} {n : Nat} {lv lv2 : List (Option Value)} (hl : lvk ls n lv) (hh : ∀ (i : Nat) (v : Value), lv2[i]? = some (some v) → lv[i]? = some (some v)) : lvk ls n lv2 := by
  obtain ⟨l, h1, h2⟩ := hl
  exact ⟨l, h1, fun i v q => h2 i v (hh i v q)⟩
section JJ
variable {Y : YM} {d kc ks pc : Nat} {G : Nat → Nat} {lv : List (Option Value)} {st : List Value} {h : AH} {post : Option Value → AH → Prop}
/-- a row of the kit that leaves the heap and the locals -/
theorem J.lift {pc2 : Nat} {st2 : List Value}
    (row : ∀ (p : Program) (l : Launch) (e : Env) (R : Room) (s : State) (m : MethodId) (args : Array Value) (below : List Frame) (meth : Method) (c : Code) (H : Heap) (locs : List Loc) (cells slots : Nat) (Q : State → Prop) (ls : Array Slot),
      p.tables.exec = Jvm.exec → c.code = Y.2.1 → lvk ls Y.2.2.1 lv → s.vm.findClass Y.1.cls = some m.cls → (∀ w ∈ lw_gd, w.before args s = true) → W p l e R s m args below meth c H locs cells slots Q (F0 m pc2 ls st2) → W p l e R s m args below meth c H locs cells slots Q (F0 m pc ls st))
    (k : J Y d G kc ks pc2 lv st2 h post) : J Y d G kc ks pc lv st h post := by
  intro A D p l e s m args below meth c mc ms H locs cells slots ls C hR hS h1 h2 hl
  exact row p l e _ s m args below meth c H locs cells slots _ ls C.1 C.2.1 hl C.2.2.2.2.1 C.2.2.2.2.2.1 (k A D p l e s m args below meth c mc ms H locs cells slots ls C hR hS h1 h2 hl)
theorem J.weaken {post2 : Option Value → AH → Prop} (hp : ∀ r h, post r h → post2 r h) (k : J Y d G kc ks pc lv st h post) : J Y d G kc ks pc lv st h post2 := by
  intro A D p l e s m args below meth c mc ms H locs cells slots ls C hR hS h1 h2 hl T hT X
  obtain ⟨t, a, o, b1, b2, ⟨⟨r, h', e1, e2, e3⟩, b4⟩, b5⟩ := k A D p l e s m args below meth c mc ms H locs cells slots ls C hR hS h1 h2 hl T hT X
  exact ⟨t, a, o, b1, b2, ⟨⟨r, h', e1, hp r h' e2, e3⟩, b4⟩, b5⟩
theorem J.lvs {lv2 : List (Option Value)} (hh : ∀ (i : Nat) (v : Value), lv2[i]? = some (some v) → lv[i]? = some (some v)) (k : J Y d G kc ks pc lv2 st h post) : J Y d G kc ks pc lv st h post := by
  intro A D p l e s m args below meth c mc ms H locs cells slots ls C hR hS h1 h2 hl
  exact k A D p l e s m args below meth c mc ms H locs cells slots ls C hR hS h1 h2 (lvk_less hl hh)
theorem J.room {kc2 ks2 : Nat} (h3 : kc2 ≤ kc) (h4 : ks2 ≤ ks) (k : J Y d G kc2 ks2 pc lv st h post) : J Y d G kc ks pc lv st h post := by
  intro A D p l e s m args below meth c mc ms H locs cells slots ls C hR hS h1 h2 hl
  exact k A D p l e s m args below meth c mc ms H locs cells slots ls C hR hS (by omega) (by omega) hl
/-- returns -/
theorem J.iret {v : Int32} (hd : decode Y.2.1 pc = .ok (.ireturn, 1)) (hr : Y.2.2.2 = some .int) (hp : post (some (.int v)) h) : J Y d G kc ks pc lv [.int v] h post := by
  intro A D p l e s m args below meth c mc ms H locs cells slots ls C hR hS h1 h2 hl
  obtain ⟨c1, c2, c3, c4, c5, c6, c7, c8, c9, c10⟩ := C
  refine W.widen (k := mc) (n := ms) (by omega) (by omega) ?_
  exact W.iret (v := v) c1 c2 (c4.trans hr) (fun t ht hW => ⟨⟨_, h, rfl, hp, by rw [ht]; exact hR.moved hW.alike⟩, hS.F ht⟩) hS.2.2 hd
theorem J.zret {v : Int32} (hd : decode Y.2.1 pc = .ok (.ireturn, 1)) (hr : Y.2.2.2 = some .boolean) (hv : v = 0 ∨ v = 1) (hp : post (some (.int v)) h) : J Y d G kc ks pc lv [.int v] h post := by
  intro A D p l e s m args below meth c mc ms H locs cells slots ls C hR hS h1 h2 hl
  obtain ⟨c1, c2, c3, c4, c5, c6, c7, c8, c9, c10⟩ := C
  refine W.widen (k := mc) (n := ms) (by omega) (by omega) ?_
  exact W.zret (v := v) (ty := .boolean) c1 c2 (c4.trans hr) (by rcases hv with rfl | rfl <;> rfl) (fun t ht hW => ⟨⟨_, h, rfl, hp, by rw [ht]; exact hR.moved hW.alike⟩, hS.F ht⟩) hS.2.2 hd
theorem J.vret (hd : decode Y.2.1 pc = .ok (.return_, 1)) (hr : Y.2.2.2 = none) (hp : post none h) : J Y d G kc ks pc lv [] h post := by
  intro A D p l e s m args below meth c mc ms H locs cells slots ls C hR hS h1 h2 hl
  obtain ⟨c1, c2, c3, c4, c5, c6, c7, c8, c9, c10⟩ := C
  refine W.widen (k := mc) (n := ms) (by omega) (by omega) ?_
  exact W.vret c1 c2 (c4.trans hr) (fun t ht hW => ⟨⟨_, h, rfl, hp, by rw [ht]; exact hR.moved hW.alike⟩, hS.F ht⟩) hS.2.2 hd
theorem J.aret {v : Value} {rt : FieldType} (hd : decode Y.2.1 pc = .ok (.areturn, 1)) (hr : Y.2.2.2 = some rt) (hrt : (∃ n, rt = .object n) ∨ ∃ t, rt = .array t) (hv : v = .null ∨ ∃ a, v = .ref a) (hp : post (some v) h) : J Y d G kc ks pc lv [v] h post := by
  intro A D p l e s m args below meth c mc ms H locs cells slots ls C hR hS h1 h2 hl
  obtain ⟨c1, c2, c3, c4, c5, c6, c7, c8, c9, c10⟩ := C
  refine W.widen (k := mc) (n := ms) (by omega) (by omega) ?_
  exact W.aret (v := v) c1 c2 (c4.trans hr) hrt hv (fun t ht hW => ⟨⟨_, h, rfl, hp, by rw [ht]; exact hR.moved hW.alike⟩, hS.F ht⟩) hS.2.2 hd
/-- a contract out of a walk -/
theorem Ct.of {mc ms : Nat} {av : List Value} (hy : plainName Y.1.cls = true) (hn : (lg_sl av).length ≤ Y.2.2.1) (ha : ∀ v ∈ av, v.category = 1) {lv0 : List (Option Value)} (hlv : av.map some = lv0)
    (k : J Y d G mc ms 0 lv0 [] h post) : Ct Y d G mc ms av h post := by
  intro A D l
  refine Met.ofW (cc := Y.2.1) (maxL := Y.2.2.1) (ret := Y.2.2.2) hy rfl ?_
  intro p e s m args below meth c s₁ B hml hv
  obtain ⟨rfl, hG, hA, hR⟩ := hv
  have hts := atoms_spec (ws := Cond.code Y.1 Y.2.1 Y.2.2.1 Y.2.2.2 :: lw_gd) B.pre
  have hl := lv_entry av (n := Y.2.2.1) hn
  rw [lg_entry_eq]
  refine k A D p l e s m _ below meth c mc ms s.heap [] 0 0 _ ⟨B.exec, B.bytes, hml, B.returns, findClass_of_methodNamed B.named, fun w hw => hts w (List.mem_cons_of_mem _ hw), B.notSynchronized, (name_of_methodNamed B.named B.method).1, hG, hA⟩ hR va_S.rf (by omega) (by omega) ⟨_, hl, ?_⟩
  have key : ∀ (av : List Value) (i0 : Nat), (∀ v ∈ av, v.category = 1) → ∀ (i : Nat) (v : Value), (av.map some)[i]? = some (some v) → (i0 + i, v) ∈ lv_args i0 av ∧ v.category = 1 := by
    intro av
    induction av with
    | nil => intro i0 _ i v hi; simp at hi
    | cons b bs ih =>
      intro i0 hb i v hi
      have hc := hb b List.mem_cons_self
      cases i with
      | zero =>
        simp at hi
        subst hi
        exact ⟨by simp [lv_args], hc⟩
      | succ j =>
        have := ih (i0 + 1) (fun v hv => hb v (List.mem_cons_of_mem _ hv)) j v (by simpa using hi)
        refine ⟨?_, this.2⟩
        have h3 := this.1
        rw [show i0 + 1 + j = i0 + (j + 1) by omega] at h3
        simp only [lv_args, hc]
        exact List.mem_cons_of_mem _ h3
  intro i v hi
  rw [← hlv] at hi
  have := key av 0 ha i v hi
  rw [Nat.zero_add] at this
  exact this
end JJ
