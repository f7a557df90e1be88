abbrev Ai (n : Nat) (f : Nat → Int32) : AE := .inl (.int, n, .inl f)
abbrev Az (n : Nat) (f : Nat → Int32) : AE := .inl (.boolean, n, .inl f)
abbrev Aq (C : String) (n : Nat) (f : Nat → Option Nat) : AE := .inl (.object C, n, .inr (.inr (.inr (.inr f))))
abbrev Ob (ci : Nat) (fs : List Value) : AE := .inr (ci, fs)
section JH
variable {Y : YM} {d kc ks pc : Nat} {G : Nat → Nat} {lv : List (Option Value)} {st : List Value} {h : AH} {post : Option Value → AH → Prop}
theorem J.getf {a ci k N idx : Nat} {ref C : String} {T : u_T} {fs : List Value} {v : Value} (pn : Nat) (hd : decode Y.2.1 pc = .ok (.getfield idx, 3)) (hn : pc + 3 = pn) (hc : vwCl[ci]? = some (C, T, N)) (hin : ∀ w ∈ u_ws C T N, w ∈ lw_gd) (hk : k < N) (hw : Cond.fieldLink Y.1.cls idx ref (T k).2.1 (T k).2.2.1 ∈ lw_gd)
    (hsame : ∀ (s : State) (args : Array Value), (∀ w ∈ lw_gd, w.before args s = true) → ∀ x, s.fieldFound? (T k).1 (T k).2.1 (T k).2.2.1 = some x → s.fieldFound? ref (T k).2.1 (T k).2.2.1 = some x)
    (ha : h a = some (.inr (ci, fs))) (hv : fs[k]? = some v) (kk : J Y d G kc ks pn lv (v :: st) h post) : J Y d G kc ks pc lv (.ref a :: st) h post := by
  subst hn
  intro A D p l e s m args below meth c mc ms H locs cells slots ls C0 hR hS h1 h2 hl
  obtain ⟨ws, tys, hK, hP, hD, hh⟩ := id hR
  obtain ⟨q0, hq0⟩ := List.getElem?_of_mem (show (a, (Sum.inr (ci, fs) : va_E)) ∈ ws from hh a _ ha)
  exact va_get C0.1 C0.2.1 C0.2.2.2.2.2.1 hin C0.2.2.2.2.1 hK hP q0 hq0 hc k hk (C0.2.2.2.2.2.1 _ hw) (hsame s args C0.2.2.2.2.2.1) hv hd (kk A D p l e s m args below meth c mc ms H locs cells slots ls C0 hR hS h1 h2 hl)
theorem J.putf {a ci k N idx : Nat} {ref C : String} {T : u_T} {fs : List Value} {v : Value} {ty : FieldType} (ty0 : Nat → FieldType) (pn : Nat) (hd : decode Y.2.1 pc = .ok (.putfield idx, 3)) (hn : pc + 3 = pn) (hc : vwCl[ci]? = some (C, T, N)) (hin : ∀ w ∈ u_ws C T N, w ∈ lw_gd) (hty : ∀ k, k < N → parseFieldDescriptor (T k).2.2.1 = some (ty0 k)) (hnm : ∀ a, a < N → ∀ b, b < N → a ≠ b → (T a).2.1 ≠ (T b).2.1) (hk : k < N) (hw : Cond.fieldLink Y.1.cls idx ref (T k).2.1 (T k).2.2.1 ∈ lw_gd)
    (hsame : ∀ (s : State) (args : Array Value), (∀ w ∈ lw_gd, w.before args s = true) → ∀ x, s.fieldFound? (T k).1 (T k).2.1 (T k).2.2.1 = some x → s.fieldFound? ref (T k).2.1 (T k).2.2.1 = some x)
    (hfin : (T k).2.2.2 = false ∨ ((T k).2.2.2 = true ∧ Y.1.name = "<init>" ∧ (T k).1 = Y.1.cls)) (hpd : parseFieldDescriptor (T k).2.2.1 = some ty) (hna : narrow ty v = v) (hfit : fits ty v = true)
    (ha : h a = some (.inr (ci, fs))) (hl0 : k < fs.length) (kk : J Y d G kc ks pn lv st (hu h a (.inr (ci, fs.set k v))) post) : J Y d G kc ks pc lv (v :: .ref a :: st) h post := by
  subst hn
  intro A D p l e s m args below meth c mc ms H locs cells slots ls C0 hR hS h1 h2 hl
  obtain ⟨ws, tys, hK, hP, hD, hh⟩ := id hR
  obtain ⟨q0, hq0⟩ := List.getElem?_of_mem (show (a, (Sum.inr (ci, fs) : va_E)) ∈ ws from hh a _ ha)
  have fin : ∀ (H1 : Heap) (locs1 : List Loc), va_P D vwCl (ws.set q0 (a, .inr (ci, fs.set k v))) H1 → va_D A (ws.set q0 (a, .inr (ci, fs.set k v))) → va_S A s.heap H1 locs1 → W p l e (rmd d mc ms) s m args below meth c H1 locs1 cells slots (MQ below (QJ D A post) args s mc ms A) (F0 m (pc + 3) ls st) := by
    intro H1 locs1 hP1 hD1 hS1
    exact kk A D p l e s m args below meth c mc ms H1 locs1 cells slots ls C0 ⟨_, tys, hK, hP1, hD1, jh_set hD hh hq0 (fun ws' hm => hm)⟩ hS1 h1 h2 hl
  rcases hfin with hf | ⟨hf, hi, ho⟩
  · exact va_put C0.1 C0.2.1 C0.2.2.2.2.2.1 hin ty0 hty hnm C0.2.2.2.2.1 hK hP hD hS q0 hq0 hc k hk (C0.2.2.2.2.2.1 _ hw) (hsame s args C0.2.2.2.2.2.1) hf hpd hna hfit hl0 hd fin
  · exact va_putF C0.1 C0.2.1 C0.2.2.2.2.2.1 hin ty0 hty hnm C0.2.2.2.2.1 hK hP hD hS q0 hq0 hc k hk (C0.2.2.2.2.2.1 _ hw) (hsame s args C0.2.2.2.2.2.1) hf (C0.2.2.2.2.2.2.2.1.trans hi) ho hpd hna hfit hl0 hd fin
theorem J.new {ci N idx kc2 ks2 : Nat} {C : String} {T : u_T} (ty0 : Nat → FieldType) (fs : List Value) (pn : Nat) (hd : decode Y.2.1 pc = .ok (.new idx, 3)) (hn : pc + 3 = pn) (hc : vwCl[ci]? = some (C, T, N)) (hin : ∀ w ∈ u_ws C T N, w ∈ lw_gd) (hty : ∀ k, k < N → parseFieldDescriptor (T k).2.2.1 = some (ty0 k)) (hw1 : Cond.classLink Y.1.cls idx C ∈ lw_gd) (hw2 : Cond.instantiable C N ∈ lw_gd) (hw3 : Cond.initialized C ∈ lw_gd) (hfs : ∀ j, j < N → defaultValue (ty0 j) = vp_V fs j) (hk : kc2 + 1 = kc) (hs : ks2 + N = ks)
    (kk : ∀ q : Nat, h q = none → J Y d G kc2 ks2 pn lv (.ref q :: st) (hu h q (.inr (ci, fs))) post) : J Y d G kc ks pc lv st h post := by
  subst hn
  subst hk
  subst hs
  intro A D p l e s m args below meth c mc ms H locs cells slots ls C0 hR hS h1 h2 hl
  obtain ⟨ws, tys, hK, hP, hD, hh⟩ := id hR
  have hts := C0.2.2.2.2.2.1
  refine va_new C0.1 C0.2.1 hts hin ty0 hty C0.2.2.2.2.1 (hts _ hw1) (hts _ hw2) (hts _ hw3) hK hP hD hS C0.2.2.2.2.2.2.2.2.2 hc hfs (show cells + 1 ≤ mc by omega) (show slots + N ≤ ms by omega) hd (fun q H1 hP1 hD1 hS1 => ?_)
  have hq : h q = none := by
    cases e0 : h q with
    | none => rfl
    | some x =>
      exfalso
      have hx := hh q x e0
      have hlast : (ws ++ [(q, (Sum.inr (ci, fs) : va_E))])[ws.length]? = some (q, .inr (ci, fs)) := by simp
      have key : ∃ (j : Nat) (y : va_E), ws[j]? = some (q, y) := by
        cases x with
        | inl z => obtain ⟨cA, g1, -⟩ := hx; obtain ⟨j, hj⟩ := List.getElem?_of_mem g1; exact ⟨j, _, hj⟩
        | inr o => obtain ⟨j, hj⟩ := List.getElem?_of_mem (show (q, (Sum.inr o : va_E)) ∈ ws from hx); exact ⟨j, _, hj⟩
      obtain ⟨j, y, hj⟩ := key
      have hlt := (List.getElem?_eq_some_iff.mp hj).1
      have := hD1.1 j ws.length (q, y) (q, .inr (ci, fs)) (by rw [List.getElem?_append_left hlt]; exact hj) hlast rfl
      omega
  exact kk q hq A D p l e s m args below meth c mc ms H1 locs (cells + 1) (slots + N) ls C0 ⟨_, tys ++ [], by rw [List.append_nil]; exact hK, hP1, hD1, jh_push hP hh (fun ws' hm => hm)⟩ hS1 (by omega) (by omega) hl
theorem jfresh {ws : va_W} {tys : List (ClassId × FieldType)} {A : Nat → Prop} (hh : ∀ a e, h a = some e → jh_in a e ws tys) {q : Nat} {e1 : va_E} (hD1 : va_D A (ws ++ [(q, e1)])) : h q = none := by
  cases e0 : h q with
  | none => rfl
  | some x =>
    exfalso
    have hx := hh q x e0
    have hlast : (ws ++ [(q, e1)])[ws.length]? = some (q, e1) := by simp
    have key : ∃ (j : Nat) (y : va_E), ws[j]? = some (q, y) := by
      cases x with
      | inl z => obtain ⟨cA, g1, -⟩ := hx; obtain ⟨j, hj⟩ := List.getElem?_of_mem g1; exact ⟨j, _, hj⟩
      | inr o => obtain ⟨j, hj⟩ := List.getElem?_of_mem (show (q, (Sum.inr o : va_E)) ∈ ws from hx); exact ⟨j, _, hj⟩
    obtain ⟨j, y, hj⟩ := key
    have hlt := (List.getElem?_eq_some_iff.mp hj).1
    have := hD1.1 j ws.length (q, y) (q, e1) (by rw [List.getElem?_append_left hlt]; exact hj) hlast rfl
    omega
theorem J.newi {n : Int32} {N kc2 ks2 : Nat} (pn : Nat) (hd : decode Y.2.1 pc = .ok (.newarray .int, 2)) (hn : pc + 2 = pn) (hw : Cond.arrayClass .int ∈ lw_gd) (h0 : ¬ n < 0) (hN : n.toNatClampNeg = N) (hb : N ≤ 100000) (hk : kc2 + 1 = kc) (hs : ks2 + N = ks)
    (kk : ∀ q : Nat, h q = none → J Y d G kc2 ks2 pn lv (.ref q :: st) (hu h q (Ai N (fun _ => 0))) post) : J Y d G kc ks pc lv (.int n :: st) h post := by
  subst hn
  subst hk
  subst hs
  intro A D p l e s m args below meth c mc ms H locs cells slots ls C0 hR hS h1 h2 hl
  obtain ⟨ws, tys, hK, hP, hD, hh⟩ := id hR
  have hts := C0.2.2.2.2.2.1
  refine va_newa (atype := .int) (ty := .int) (a0 := (N, .inl (fun _ => 0))) C0.1 C0.2.1 (hts _ hw) rfl hK hP hD hS C0.2.2.2.2.2.2.2.2.2 (fun cA => rfl) h0 hN (by show N * 4 ≤ _; omega) (show cells + 1 ≤ mc by omega) (show slots + N ≤ ms by omega) hd (fun q cA H1 hK1 hP1 hD1 hS1 => ?_)
  exact kk q (jfresh hh hD1) A D p l e s m args below meth c mc ms H1 locs (cells + 1) (slots + N) ls C0 ⟨_, _, hK1, hP1, hD1, jh_push hP hh (fun ws' hm => ⟨cA, hm, List.mem_append_right _ (List.mem_singleton.mpr rfl)⟩)⟩ hS1 (by omega) (by omega) hl
theorem J.newz {n : Int32} {N kc2 ks2 : Nat} (pn : Nat) (hd : decode Y.2.1 pc = .ok (.newarray .boolean, 2)) (hn : pc + 2 = pn) (hw : Cond.arrayClass .boolean ∈ lw_gd) (h0 : ¬ n < 0) (hN : n.toNatClampNeg = N) (hb : N ≤ 100000) (hk : kc2 + 1 = kc) (hs : ks2 + N = ks)
    (kk : ∀ q : Nat, h q = none → J Y d G kc2 ks2 pn lv (.ref q :: st) (hu h q (Az N (fun _ => 0))) post) : J Y d G kc ks pc lv (.int n :: st) h post := by
  subst hn
  subst hk
  subst hs
  intro A D p l e s m args below meth c mc ms H locs cells slots ls C0 hR hS h1 h2 hl
  obtain ⟨ws, tys, hK, hP, hD, hh⟩ := id hR
  have hts := C0.2.2.2.2.2.1
  refine va_newa (atype := .boolean) (ty := .boolean) (a0 := (N, .inl (fun _ => 0))) C0.1 C0.2.1 (hts _ hw) rfl hK hP hD hS C0.2.2.2.2.2.2.2.2.2 (fun cA => rfl) h0 hN (by show N * 1 ≤ _; omega) (show cells + 1 ≤ mc by omega) (show slots + N ≤ ms by omega) hd (fun q cA H1 hK1 hP1 hD1 hS1 => ?_)
  exact kk q (jfresh hh hD1) A D p l e s m args below meth c mc ms H1 locs (cells + 1) (slots + N) ls C0 ⟨_, _, hK1, hP1, hD1, jh_push hP hh (fun ws' hm => ⟨cA, hm, List.mem_append_right _ (List.mem_singleton.mpr rfl)⟩)⟩ hS1 (by omega) (by omega) hl
theorem J.newq {n : Int32} {N kc2 ks2 idx : Nat} {C : String} (pn : Nat) (hd : decode Y.2.1 pc = .ok (.anewarray idx, 3)) (hn : pc + 3 = pn) (hw1 : Cond.classLink Y.1.cls idx C ∈ lw_gd) (hw : ∀ (A : Nat → Prop) (s : State), Gl G A s → va_AO C s) (h0 : ¬ n < 0) (hN : n.toNatClampNeg = N) (hb : N ≤ 100000) (hk : kc2 + 1 = kc) (hs : ks2 + N = ks)
    (kk : ∀ q : Nat, h q = none → J Y d G kc2 ks2 pn lv (.ref q :: st) (hu h q (Aq C N (fun _ => none))) post) : J Y d G kc ks pc lv (.int n :: st) h post := by
  subst hn
  subst hk
  subst hs
  intro A D p l e s m args below meth c mc ms H locs cells slots ls C0 hR hS h1 h2 hl
  obtain ⟨ws, tys, hK, hP, hD, hh⟩ := id hR
  have hts := C0.2.2.2.2.2.1
  refine va_newq C0.1 C0.2.1 C0.2.2.2.2.1 (hts _ hw1) (hw A s C0.2.2.2.2.2.2.2.2.1) hK hP hD hS C0.2.2.2.2.2.2.2.2.2 h0 hN (by omega) (show cells + 1 ≤ mc by omega) (show slots + N ≤ ms by omega) hd (fun q cA H1 hK1 hP1 hD1 hS1 => ?_)
  exact kk q (jfresh hh hD1) A D p l e s m args below meth c mc ms H1 locs (cells + 1) (slots + N) ls C0 ⟨_, _, hK1, hP1, hD1, jh_push hP hh (fun ws' hm => ⟨cA, hm, List.mem_append_right _ (List.mem_singleton.mpr rfl)⟩)⟩ hS1 (by omega) (by omega) hl
theorem J.iald {a n : Nat} {f : Nat → Int32} {i : Int32} (pn : Nat) (hd : decode Y.2.1 pc = .ok (.iaload, 1)) (hn : pc + 1 = pn) (ha : h a = some (Ai n f)) (hin : vp_in i n) (kk : J Y d G kc ks pn lv (.int (f i.toNatClampNeg) :: st) h post) : J Y d G kc ks pc lv (.int i :: .ref a :: st) h post := by
  subst hn
  intro A D p l e s m args below meth c mc ms H locs cells slots ls C0 hR hS h1 h2 hl
  obtain ⟨ws, tys, hK, hP, hD, hh⟩ := id hR
  obtain ⟨cA, g1, g2⟩ := hh a _ ha
  obtain ⟨q0, hq0⟩ := List.getElem?_of_mem g1
  obtain ⟨t0, ht0⟩ := List.getElem?_of_mem g2
  exact va_iald C0.1 C0.2.1 hK hP q0 t0 hq0 ht0 hin hd (kk A D p l e s m args below meth c mc ms H locs cells slots ls C0 hR hS h1 h2 hl)
theorem J.zald {a n : Nat} {f : Nat → Int32} {i : Int32} (pn : Nat) (hd : decode Y.2.1 pc = .ok (.baload, 1)) (hn : pc + 1 = pn) (ha : h a = some (Az n f)) (hin : vp_in i n) (kk : J Y d G kc ks pn lv (.int (f i.toNatClampNeg) :: st) h post) : J Y d G kc ks pc lv (.int i :: .ref a :: st) h post := by
  subst hn
  intro A D p l e s m args below meth c mc ms H locs cells slots ls C0 hR hS h1 h2 hl
  obtain ⟨ws, tys, hK, hP, hD, hh⟩ := id hR
  obtain ⟨cA, g1, g2⟩ := hh a _ ha
  obtain ⟨q0, hq0⟩ := List.getElem?_of_mem g1
  obtain ⟨t0, ht0⟩ := List.getElem?_of_mem g2
  exact va_zald C0.1 C0.2.1 hK hP q0 t0 hq0 ht0 hin hd (kk A D p l e s m args below meth c mc ms H locs cells slots ls C0 hR hS h1 h2 hl)
theorem J.aald {a n : Nat} {C : String} {f : Nat → Option Nat} {i : Int32} (pn : Nat) (hd : decode Y.2.1 pc = .ok (.aaload, 1)) (hn : pc + 1 = pn) (ha : h a = some (Aq C n f)) (hin : vp_in i n) (kk : J Y d G kc ks pn lv (va_rf (f i.toNatClampNeg) :: st) h post) : J Y d G kc ks pc lv (.int i :: .ref a :: st) h post := by
  subst hn
  intro A D p l e s m args below meth c mc ms H locs cells slots ls C0 hR hS h1 h2 hl
  obtain ⟨ws, tys, hK, hP, hD, hh⟩ := id hR
  obtain ⟨cA, g1, g2⟩ := hh a _ ha
  obtain ⟨q0, hq0⟩ := List.getElem?_of_mem g1
  obtain ⟨t0, ht0⟩ := List.getElem?_of_mem g2
  exact va_aldq C0.1 C0.2.1 hK hP q0 t0 hq0 ht0 hin hd (kk A D p l e s m args below meth c mc ms H locs cells slots ls C0 hR hS h1 h2 hl)
theorem J.iast {a n : Nat} {f : Nat → Int32} {i x : Int32} (pn : Nat) (hd : decode Y.2.1 pc = .ok (.iastore, 1)) (hn : pc + 1 = pn) (ha : h a = some (Ai n f)) (hin : vp_in i n) (kk : J Y d G kc ks pn lv st (hu h a (Ai n (upd f i.toNatClampNeg x))) post) : J Y d G kc ks pc lv (.int x :: .int i :: .ref a :: st) h post := by
  subst hn
  intro A D p l e s m args below meth c mc ms H locs cells slots ls C0 hR hS h1 h2 hl
  obtain ⟨ws, tys, hK, hP, hD, hh⟩ := id hR
  obtain ⟨cA, g1, g2⟩ := hh a _ ha
  obtain ⟨q0, hq0⟩ := List.getElem?_of_mem g1
  obtain ⟨t0, ht0⟩ := List.getElem?_of_mem g2
  exact va_iast C0.1 C0.2.1 hK hP hD hS q0 t0 hq0 ht0 hin hd (fun H1 locs1 hP1 hD1 hS1 => kk A D p l e s m args below meth c mc ms H1 locs1 cells slots ls C0 ⟨_, tys, hK, hP1, hD1, jh_set hD hh hq0 (fun ws' hm => ⟨cA, hm, g2⟩)⟩ hS1 h1 h2 hl)
theorem J.zast {a n : Nat} {f : Nat → Int32} {i x : Int32} (pn : Nat) (hd : decode Y.2.1 pc = .ok (.bastore, 1)) (hn : pc + 1 = pn) (ha : h a = some (Az n f)) (hin : vp_in i n) (kk : J Y d G kc ks pn lv st (hu h a (Az n (upd f i.toNatClampNeg (vp_nar .boolean x)))) post) : J Y d G kc ks pc lv (.int x :: .int i :: .ref a :: st) h post := by
  subst hn
  intro A D p l e s m args below meth c mc ms H locs cells slots ls C0 hR hS h1 h2 hl
  obtain ⟨ws, tys, hK, hP, hD, hh⟩ := id hR
  obtain ⟨cA, g1, g2⟩ := hh a _ ha
  obtain ⟨q0, hq0⟩ := List.getElem?_of_mem g1
  obtain ⟨t0, ht0⟩ := List.getElem?_of_mem g2
  exact va_zast C0.1 C0.2.1 hK hP hD hS q0 t0 hq0 ht0 hin hd (fun H1 locs1 hP1 hD1 hS1 => kk A D p l e s m args below meth c mc ms H1 locs1 cells slots ls C0 ⟨_, tys, hK, hP1, hD1, jh_set hD hh hq0 (fun ws' hm => ⟨cA, hm, g2⟩)⟩ hS1 h1 h2 hl)
theorem jany {D : va_G} {A : Nat → Prop} {s : State} {H : Heap} {args : Array Value} {a ci : Nat} {fs : List Value} {r : vw_C} {E : String} (hR : HR D A s h H) (hc : vwCl[ci]? = some r) (hw : va_Nw (.castable r.1 E) s) (ha : h a = some (.inr (ci, fs))) : va_Any E s H a := by
  obtain ⟨ws, tys, hK, hP, hD, hh⟩ := hR
  obtain ⟨q0, hq0⟩ := List.getElem?_of_mem (show (a, (Sum.inr (ci, fs) : va_E)) ∈ ws from hh a _ ha)
  refine va_rAny hK hP hq0 hc (fun comp c0 g1 g2 => ?_)
  obtain ⟨c1, t1, f1, f2, f3⟩ := Cond.castable_spec (va_Nw.use (A := args) rfl hw)
  cases g1.symm.trans f2
  cases g2.symm.trans f1
  exact f3
theorem J.aast {a n v ci : Nat} {C : String} {f : Nat → Option Nat} {i : Int32} {fs : List Value} {r : vw_C} (pn : Nat) (hd : decode Y.2.1 pc = .ok (.aastore, 1)) (hn : pc + 1 = pn) (ha : h a = some (Aq C n f)) (hin : vp_in i n) (hv : h v = some (.inr (ci, fs))) (hc : vwCl[ci]? = some r) (hw : Cond.castable r.1 C ∈ lw_tbl) (kk : J Y d G kc ks pn lv st (hu h a (Aq C n (va_up f i.toNatClampNeg (some v)))) post) : J Y d G kc ks pc lv (.ref v :: .int i :: .ref a :: st) h post := by
  subst hn
  intro A D p l e s m args below meth c mc ms H locs cells slots ls C0 hR hS h1 h2 hl
  obtain ⟨ws, tys, hK, hP, hD, hh⟩ := id hR
  obtain ⟨cA, g1, g2⟩ := hh a _ ha
  obtain ⟨q0, hq0⟩ := List.getElem?_of_mem g1
  obtain ⟨t0, ht0⟩ := List.getElem?_of_mem g2
  exact va_astqM C0.1 C0.2.1 hK hP hD hS q0 t0 hq0 ht0 (jany (args := args) hR hc (C0.2.2.2.2.2.2.2.2.1.2.2.2.1 _ _ hw) hv) hin hd (fun H1 locs1 hP1 hD1 hS1 => kk A D p l e s m args below meth c mc ms H1 locs1 cells slots ls C0 ⟨_, tys, hK, hP1, hD1, jh_set hD hh hq0 (fun ws' hm => ⟨cA, hm, g2⟩)⟩ hS1 h1 h2 hl)
theorem J.aastN {a n : Nat} {C : String} {f : Nat → Option Nat} {i : Int32} (pn : Nat) (hd : decode Y.2.1 pc = .ok (.aastore, 1)) (hn : pc + 1 = pn) (ha : h a = some (Aq C n f)) (hin : vp_in i n) (kk : J Y d G kc ks pn lv st (hu h a (Aq C n (va_up f i.toNatClampNeg none))) post) : J Y d G kc ks pc lv (.null :: .int i :: .ref a :: st) h post := by
  subst hn
  intro A D p l e s m args below meth c mc ms H locs cells slots ls C0 hR hS h1 h2 hl
  obtain ⟨ws, tys, hK, hP, hD, hh⟩ := id hR
  obtain ⟨cA, g1, g2⟩ := hh a _ ha
  obtain ⟨q0, hq0⟩ := List.getElem?_of_mem g1
  obtain ⟨t0, ht0⟩ := List.getElem?_of_mem g2
  exact va_astqN C0.1 C0.2.1 hK hP hD hS q0 t0 hq0 ht0 hin hd (fun H1 locs1 hP1 hD1 hS1 => kk A D p l e s m args below meth c mc ms H1 locs1 cells slots ls C0 ⟨_, tys, hK, hP1, hD1, jh_set hD hh hq0 (fun ws' hm => ⟨cA, hm, g2⟩)⟩ hS1 h1 h2 hl)
theorem J.alen {a : Nat} {x : FieldType × vp_A} (pn : Nat) (hd : decode Y.2.1 pc = .ok (.arraylength, 1)) (hn : pc + 1 = pn) (ha : h a = some (.inl x)) (kk : J Y d G kc ks pn lv (.int (nI x.2.1) :: st) h post) : J Y d G kc ks pc lv (.ref a :: st) h post := by
  subst hn
  intro A D p l e s m args below meth c mc ms H locs cells slots ls C0 hR hS h1 h2 hl
  obtain ⟨ws, tys, hK, hP, hD, hh⟩ := id hR
  obtain ⟨cA, g1, g2⟩ := hh a _ ha
  obtain ⟨q0, hq0⟩ := List.getElem?_of_mem g1
  obtain ⟨t0, ht0⟩ := List.getElem?_of_mem g2
  exact va_alen C0.1 C0.2.1 hK hP q0 t0 hq0 ht0 rfl hd (kk A D p l e s m args below meth c mc ms H locs cells slots ls C0 hR hS h1 h2 hl)
theorem J.cast {a ci idx : Nat} {fs : List Value} {r : vw_C} {nm : String} (pn : Nat) (hd : decode Y.2.1 pc = .ok (.checkcast idx, 3)) (hn : pc + 3 = pn) (hw1 : Cond.classLink Y.1.cls idx nm ∈ lw_gd) (ha : h a = some (.inr (ci, fs))) (hc : vwCl[ci]? = some r) (hw : Cond.castable r.1 nm ∈ lw_tbl) (kk : J Y d G kc ks pn lv (.ref a :: st) h post) : J Y d G kc ks pc lv (.ref a :: st) h post := by
  subst hn
  intro A D p l e s m args below meth c mc ms H locs cells slots ls C0 hR hS h1 h2 hl
  obtain ⟨ws, tys, hK, hP, hD, hh⟩ := id hR
  obtain ⟨q0, hq0⟩ := List.getElem?_of_mem (show (a, (Sum.inr (ci, fs) : va_E)) ∈ ws from hh a _ ha)
  have hts := C0.2.2.2.2.2.1
  exact va_castY C0.1 C0.2.1 C0.2.2.2.2.1 (hts _ hw1) (C0.2.2.2.2.2.2.2.2.1.2.2.2.1 _ _ hw) (va_recv hK hP hc hq0) hd (kk A D p l e s m args below meth c mc ms H locs cells slots ls C0 hR hS h1 h2 hl)
theorem J.castS {a ci idx N : Nat} {C : String} {T : u_T} {fs : List Value} (pn : Nat) (hd : decode Y.2.1 pc = .ok (.checkcast idx, 3)) (hn : pc + 3 = pn) (hw1 : Cond.classLink Y.1.cls idx C ∈ lw_gd) (ha : h a = some (.inr (ci, fs))) (hc : vwCl[ci]? = some (C, T, N)) (kk : J Y d G kc ks pn lv (.ref a :: st) h post) : J Y d G kc ks pc lv (.ref a :: st) h post := by
  subst hn
  intro A D p l e s m args below meth c mc ms H locs cells slots ls C0 hR hS h1 h2 hl
  obtain ⟨ws, tys, hK, hP, hD, hh⟩ := id hR
  obtain ⟨q0, hq0⟩ := List.getElem?_of_mem (show (a, (Sum.inr (ci, fs) : va_E)) ∈ ws from hh a _ ha)
  have hts := C0.2.2.2.2.2.1
  exact va_castS C0.1 C0.2.1 C0.2.2.2.2.1 (hts _ hw1) (hK.1 ci _ hc).2 (va_recv hK hP hc hq0) hd (kk A D p l e s m args below meth c mc ms H locs cells slots ls C0 hR hS h1 h2 hl)
end JH
