theorem jgood {y : MethodName} {cc : ByteArray} {n : Nat} {rt : Option FieldType} (hc : Cond.code y cc n rt ∈ lw_gd) : GoodIn lw_gd (Cond.code y cc n rt :: lw_gd) := by
  intro w hw
  have hm : w ∈ lw_gd := by
    rcases List.mem_cons.mp hw with e | e
    · rw [e]; exact hc
    · exact e
  exact ⟨hm, good_of_word (List.mem_filter.mp hm).2⟩
def jdesc (y : MethodName) (n : Nat) : Prop := y.cls ≠ "java/lang/invoke/MethodHandle" ∧ y.cls ≠ "java/lang/invoke/VarHandle" ∧ (parseMethodDescriptor y.desc).map (fun d => d.parameters.length) = some n
section JC
variable {Y Y2 : YM} {d kc ks pc mc2 ms2 idx n : Nat} {G : Nat → Nat} {lv : List (Option Value)} {st rest av : List Value} {h : AH} {post post2 : Option Value → AH → Prop}
theorem jcall {A : Nat → Prop} {D : va_G} {p : Program} {l : Launch} {e : Env} {s : State} {m : MethodId} {args : Array Value} {below : List Frame} {meth : Method} {c : Code} {mc ms : Nat} {H : Heap} {locs : List Loc} {cells slots : Nat} {ls : Array Slot} {a : Array Value}
    (C : Cx Y G A p s m args meth c) (hS : va_S A s.heap H locs) (h1 : cells + kc ≤ mc) (h2 : slots + ks ≤ ms) (hl : lvk ls Y.2.2.1 lv) (hk : mc2 ≤ kc) (hs : ms2 ≤ ks)
    (hr : va_Run p l e (rmd d mc ms) s m args below meth c H locs cells slots mc2 ms2 (F0 m pc ls st) rest (QJ D A post2 a) A)
    (kk : ∀ r h2, post2 r h2 → J Y d G (kc - mc2) (ks - ms2) (pc + 3) lv (r.toList ++ rest) h2 post) : W p l e (rmd d mc ms) s m args below meth c H locs cells slots (MQ below (QJ D A post) args s mc ms A) (F0 m pc ls st) := by
  intro T hT X
  obtain ⟨v, st₀, t, T', L, h0, X', hL, e1, e2, ⟨⟨r, h', er, hp, hR'⟩, hz, hkq⟩, st⟩ := hr T hT X
  cases er
  rw [h0] at hz hkq
  have hS' : va_S A s.heap T'.heap (locs ++ L) := ⟨Nat.le_trans hS.1 (by rw [e1]; exact hz), fun q g1 g2 => by rw [e1, hkq q (Nat.lt_of_lt_of_le g1 hS.1) g2]; exact hS.2.1 q g1 g2, fun q hq => by
      rcases List.mem_append.mp hq with g | g
      · exact hS.2.2 q g
      · exact hL q g⟩
  have hal : s.vm.Alike t.vm := by rw [← e2]; exact X'.warmed.alike
  obtain ⟨t2, a1, b1⟩ := kk v h' hp A D p l e s m args below meth c mc ms T'.heap (locs ++ L) (cells + mc2) (slots + ms2) ls C (by rw [e1]; exact hR'.moved hal.symm) hS' (by omega) (by omega) hl T' rfl X'
  exact ⟨t2, st t2 a1, b1⟩
theorem jpre {A : Nat → Prop} {D : va_G} {p : Program} {s : State} {m : MethodId} {args : Array Value} {meth : Method} {c : Code} {H : Heap} {locs : List Loc} (C : Cx Y G A p s m args meth c) (hR : HR D A s h H) (hS : va_S A s.heap H locs) :
    PreS s H (fun a U => a = av.toArray ∧ Gl G A U ∧ (∀ q, U.heap.size ≤ q → A q) ∧ HR D A U h U.heap) av := by
  obtain ⟨-, -, -, -, -, -, -, -, hG, hA⟩ := C
  refine ⟨fun a U g mk hq => ?_, fun U hU hW => ⟨rfl, ?_, ?_, ?_⟩⟩
  · obtain ⟨q1, q2, q3, q4⟩ := hq
    exact ⟨q1, q2.same rfl rfl, q3, q4.moved (s := U) (U := U.calling g mk a) (Vm.Alike.refl U.vm)⟩
  · exact hG.step hW (fun q g1 g2 => by rw [hU]; exact hS.2.1 q g1 g2)
  · intro q hq
    rw [hU] at hq
    exact hA q (Nat.le_trans hS.1 hq)
  · rw [hU]
    exact hR.moved hW.alike
theorem jroom {a b x y : Nat} (hm : Y2.2.2.1 ≤ 21) : (rmd d a b).frames + 1 ≤ (rmd (d + 1) x y).frames ∧ 8 + (Y2.2.2.1 + 11) + (rmd d a b).locals ≤ (rmd (d + 1) x y).locals := by
  refine ⟨Nat.le_refl _, ?_⟩
  show 8 + (Y2.2.2.1 + 11) + 40 * d ≤ 40 * (d + 1)
  omega
theorem J.callS (pn : Nat) (ct : Ct Y2 d G mc2 ms2 av h post2) (hd : decode Y.2.1 pc = .ok (.invokestatic idx, 3)) (hn : pc + 3 = pn) (hw1 : Cond.methodLink Y.1.cls idx Y2.1 ∈ lw_gd) (hw2 : Cond.static Y2.1 ∈ lw_gd) (hw3 : Cond.initialized Y2.1.cls ∈ lw_gd) (hw4 : Cond.code Y2.1 Y2.2.1 Y2.2.2.1 Y2.2.2.2 ∈ lw_gd) (hj : jdesc Y2.1 n) (hm : Y2.2.2.1 ≤ 21) (hln : av.length = n)
    (hst : st = av.reverse ++ rest) (hrm : (rest.map fun v => v.category).sum ≤ 8) (hk : mc2 ≤ kc) (hs : ms2 ≤ ks) (kk : ∀ r h2, post2 r h2 → J Y (d + 1) G (kc - mc2) (ks - ms2) pn lv (r.toList ++ rest) h2 post) : J Y (d + 1) G kc ks pc lv st h post := by
  subst hn
  intro A D p l e s m args below meth c mc ms H locs cells slots ls C hR hS h1 h2 hl
  have hts := C.2.2.2.2.2.1
  refine jcall C hS h1 h2 hl hk hs (va_runS (As := av) (rest := rest) ⟨C.1, C.2.1, C.2.2.1, C.2.2.2.2.1, hts⟩ (ct A D l) ⟨callB_of n hts (jgood hw4) rfl rfl rfl (hts _ hw3) (hts _ hw1) hj (jroom hm), hts _ hw2⟩ (jpre C hR hS) rfl hln (lvk_size hl) hst (lv_room hrm) hd ⟨?_, ?_⟩) kk
  · show cells + mc2 ≤ mc
    omega
  · show slots + ms2 ≤ ms
    omega
theorem J.callSN {host : String} (pn : Nat) (ct : Ct Y2 d G mc2 ms2 av h post2) (hd : decode Y.2.1 pc = .ok (.invokestatic idx, 3)) (hn : pc + 3 = pn) (hw1 : Cond.methodLinkNest Y.1.cls idx Y2.1 host ∈ lw_tbl) (hw2 : Cond.static Y2.1 ∈ lw_gd) (hw3 : Cond.initialized Y2.1.cls ∈ lw_gd) (hw4 : Cond.code Y2.1 Y2.2.1 Y2.2.2.1 Y2.2.2.2 ∈ lw_gd) (hj : jdesc Y2.1 n) (hm : Y2.2.2.1 ≤ 21) (hln : av.length = n)
    (hst : st = av.reverse ++ rest) (hrm : (rest.map fun v => v.category).sum ≤ 8) (hk : mc2 ≤ kc) (hs : ms2 ≤ ks) (kk : ∀ r h2, post2 r h2 → J Y (d + 1) G (kc - mc2) (ks - ms2) pn lv (r.toList ++ rest) h2 post) : J Y (d + 1) G kc ks pc lv st h post := by
  subst hn
  intro A D p l e s m args below meth c mc ms H locs cells slots ls C hR hS h1 h2 hl
  have hts := C.2.2.2.2.2.1
  refine jcall C hS h1 h2 hl hk hs (va_runSN (As := av) (rest := rest) ⟨C.1, C.2.1, C.2.2.1, C.2.2.2.2.1, hts⟩ (ct A D l) ⟨va_cnB n hts (jgood hw4) rfl rfl rfl (C.2.2.2.2.2.2.2.2.1.2.2.1 _ _ _ _ hw1) (hts _ hw3) hj (jroom hm), hts _ hw2, trivial⟩ (jpre C hR hS) rfl hln (lvk_size hl) hst (lv_room hrm) hd ⟨?_, ?_⟩) kk
  · show cells + mc2 ≤ mc
    omega
  · show slots + ms2 ≤ ms
    omega
theorem J.callV {b ci : Nat} {fs : List Value} {r0 : vw_C} (pn : Nat) (ct : Ct Y2 d G mc2 ms2 (.ref b :: av) h post2) (hd : decode Y.2.1 pc = .ok (.invokevirtual idx, 3)) (hn : pc + 3 = pn) (hb : h b = some (.inr (ci, fs))) (hc : vwCl[ci]? = some r0) (hw1 : Cond.methodLink Y.1.cls idx Y2.1 ∈ lw_gd) (hw2 : Cond.instanceMethod Y2.1 ∈ lw_gd) (hw5 : Cond.selects r0.1 Y2.1 Y2.1 ∈ lw_gd) (hw3 : Cond.initialized Y2.1.cls ∈ lw_gd) (hw4 : Cond.code Y2.1 Y2.2.1 Y2.2.2.1 Y2.2.2.2 ∈ lw_gd) (hj : jdesc Y2.1 n) (hm : Y2.2.2.1 ≤ 21) (hln : av.length = n)
    (hst : st = av.reverse ++ .ref b :: rest) (hrm : (rest.map fun v => v.category).sum ≤ 8) (hk : mc2 ≤ kc) (hs : ms2 ≤ ks) (kk : ∀ r h2, post2 r h2 → J Y (d + 1) G (kc - mc2) (ks - ms2) pn lv (r.toList ++ rest) h2 post) : J Y (d + 1) G kc ks pc lv st h post := by
  subst hn
  intro A D p l e s m args below meth c mc ms H locs cells slots ls C hR hS h1 h2 hl
  have hts := C.2.2.2.2.2.1
  have hp := jpre (av := .ref b :: av) C hR hS
  obtain ⟨ws, tys, hK, hP, hD, hh⟩ := id hR
  obtain ⟨q0, hq0⟩ := List.getElem?_of_mem (show (b, (Sum.inr (ci, fs) : va_E)) ∈ ws from hh b _ hb)
  refine jcall C hS h1 h2 hl hk hs (va_runV (C := r0.1) (As := av) (rest := rest) ⟨C.1, C.2.1, C.2.2.1, C.2.2.2.2.1, hts⟩ (ct A D l) ⟨callB_of n hts (jgood hw4) rfl rfl rfl (hts _ hw3) (hts _ hw1) hj (jroom hm), hts _ hw2, hts _ hw5⟩ ⟨hp.1, va_recv hK hP hc hq0, hp.2⟩ rfl hln (lvk_size hl) hst (lv_room hrm) hd ⟨?_, ?_⟩) kk
  · show cells + mc2 ≤ mc
    omega
  · show slots + ms2 ≤ ms
    omega
theorem J.callI {b : Nat} (pn : Nat) (ct : Ct Y2 d G mc2 ms2 (.ref b :: av) h post2) (hd : decode Y.2.1 pc = .ok (.invokespecial idx, 3)) (hn : pc + 3 = pn) (hw1 : Cond.methodLink Y.1.cls idx Y2.1 ∈ lw_gd) (hw2 : Cond.instanceMethod Y2.1 ∈ lw_gd) (hw3 : Cond.initialized Y2.1.cls ∈ lw_gd) (hw4 : Cond.code Y2.1 Y2.2.1 Y2.2.2.1 none ∈ lw_gd) (hrt : Y2.2.2.2 = none) (hnm : Y2.1.name = "<init>") (hj : jdesc Y2.1 n) (hm : Y2.2.2.1 ≤ 21) (hln : av.length = n)
    (hst : st = av.reverse ++ .ref b :: rest) (hrm : (rest.map fun v => v.category).sum ≤ 8) (hk : mc2 ≤ kc) (hs : ms2 ≤ ks) (kk : ∀ r h2, post2 r h2 → J Y (d + 1) G (kc - mc2) (ks - ms2) pn lv (r.toList ++ rest) h2 post) : J Y (d + 1) G kc ks pc lv st h post := by
  subst hn
  intro A D p l e s m args below meth c mc ms H locs cells slots ls C hR hS h1 h2 hl
  have hts := C.2.2.2.2.2.1
  have hct := ct A D l
  rw [hrt] at hct
  refine jcall C hS h1 h2 hl hk hs (va_runI (As := av) (rest := rest) ⟨C.1, C.2.1, C.2.2.1, C.2.2.2.2.1, hts⟩ hct ⟨callB_of n hts (jgood hw4) rfl rfl rfl (hts _ hw3) (hts _ hw1) hj (jroom hm), hnm, hts _ hw2⟩ (jpre (av := .ref b :: av) C hR hS) rfl hln (lvk_size hl) hst (lv_room hrm) hd ⟨?_, ?_⟩) kk
  · show cells + mc2 ≤ mc
    omega
  · show slots + ms2 ≤ ms
    omega
theorem J.callIN {b : Nat} {host : String} (pn : Nat) (ct : Ct Y2 d G mc2 ms2 (.ref b :: av) h post2) (hd : decode Y.2.1 pc = .ok (.invokespecial idx, 3)) (hn : pc + 3 = pn) (hw1 : Cond.methodLinkNest Y.1.cls idx Y2.1 host ∈ lw_tbl) (hw2 : Cond.instanceMethod Y2.1 ∈ lw_gd) (hw3 : Cond.initialized Y2.1.cls ∈ lw_gd) (hw4 : Cond.code Y2.1 Y2.2.1 Y2.2.2.1 none ∈ lw_gd) (hrt : Y2.2.2.2 = none) (hnm : Y2.1.name = "<init>") (hj : jdesc Y2.1 n) (hm : Y2.2.2.1 ≤ 21) (hln : av.length = n)
    (hst : st = av.reverse ++ .ref b :: rest) (hrm : (rest.map fun v => v.category).sum ≤ 8) (hk : mc2 ≤ kc) (hs : ms2 ≤ ks) (kk : ∀ r h2, post2 r h2 → J Y (d + 1) G (kc - mc2) (ks - ms2) pn lv (r.toList ++ rest) h2 post) : J Y (d + 1) G kc ks pc lv st h post := by
  subst hn
  intro A D p l e s m args below meth c mc ms H locs cells slots ls C hR hS h1 h2 hl
  have hts := C.2.2.2.2.2.1
  have hct := ct A D l
  rw [hrt] at hct
  refine jcall C hS h1 h2 hl hk hs (va_runIN (As := av) (rest := rest) ⟨C.1, C.2.1, C.2.2.1, C.2.2.2.2.1, hts⟩ hct ⟨va_cnB n hts (jgood hw4) rfl rfl rfl (C.2.2.2.2.2.2.2.2.1.2.2.1 _ _ _ _ hw1) (hts _ hw3) hj (jroom hm), hnm, hts _ hw2⟩ (jpre (av := .ref b :: av) C hR hS) rfl hln (lvk_size hl) hst (lv_room hrm) hd ⟨?_, ?_⟩) kk
  · show cells + mc2 ≤ mc
    omega
  · show slots + ms2 ≤ ms
    omega
/-- Object's constructor -/
theorem J.objI {b : Nat} (pn : Nat) (hd : decode Y.2.1 pc = .ok (.invokespecial idx, 3)) (hn : pc + 3 = pn) (hw1 : Cond.methodLink Y.1.cls idx objectInit ∈ lw_gd) (hw2 : Cond.instanceMethod objectInit ∈ lw_gd) (hw4 : Cond.code objectInit ⟨#[0xb1]⟩ 1 none ∈ lw_gd) (hrm : (st.map fun v => v.category).sum ≤ 8) (kk : J Y (d + 1) G kc ks pn lv st h post) : J Y (d + 1) G kc ks pc lv (.ref b :: st) h post := by
  subst hn
  intro A D p l e s m args below meth c mc ms H locs cells slots ls C hR hS h1 h2 hl
  have hts := C.2.2.2.2.2.1
  refine W.objInit C.1 C.2.1 C.2.2.2.2.1 (hts _ hw1) (hts _ hw2) (hts _ hw4) rfl (by rw [C.2.2.1]; exact lvk_size hl) rfl hd (show 1 ≤ d + 1 by omega) ?_ (kk A D p l e s m args below meth c mc ms H locs cells slots ls C hR hS h1 h2 hl)
  have := lv_room (m := m) (pc := pc) (ls := ls) (rest := .ref b :: st) hrm
  show _ ≤ 40 * (d + 1)
  omega
end JC
