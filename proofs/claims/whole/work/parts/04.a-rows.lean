section JN
variable {Y : YM} {d kc ks pc : Nat} {G : Nat → Nat} {lv : List (Option Value)} {st : List Value} {h : AH} {post : Option Value → AH → Prop}
theorem J.acmp_eq {x y : Nat} {off : Int} (tgt pn : Nat) (hd : decode Y.2.1 pc = .ok (.if_acmp .eq off, 3)) (ht : (pc : Int) + off = (tgt : Int)) (hn : pc + 3 = pn) (k1 : (x = y) → J Y d G kc ks tgt lv st h post) (k2 : ¬ (x = y) → J Y d G kc ks pn lv st h post) : J Y d G kc ks pc lv (.ref y :: .ref x :: st) h post := by
  subst hn
  intro A D p l e s m args below meth c mc ms H locs cells slots ls C hR hS h1 h2 hl
  exact lv_acmp_eq (rx := some x) (ry := some y) C.1 C.2.1 hd ht (fun q => k1 (Option.some.inj q) A D p l e s m args below meth c mc ms H locs cells slots ls C hR hS h1 h2 hl) (fun q => k2 (fun z => q (congrArg some z)) A D p l e s m args below meth c mc ms H locs cells slots ls C hR hS h1 h2 hl)
theorem J.acmp_ne {x y : Nat} {off : Int} (tgt pn : Nat) (hd : decode Y.2.1 pc = .ok (.if_acmp .ne off, 3)) (ht : (pc : Int) + off = (tgt : Int)) (hn : pc + 3 = pn) (k1 : ¬ (x = y) → J Y d G kc ks tgt lv st h post) (k2 : (x = y) → J Y d G kc ks pn lv st h post) : J Y d G kc ks pc lv (.ref y :: .ref x :: st) h post := by
  subst hn
  intro A D p l e s m args below meth c mc ms H locs cells slots ls C hR hS h1 h2 hl
  exact lv_acmp_ne (rx := some x) (ry := some y) C.1 C.2.1 hd ht (fun q => k1 (fun z => q (congrArg some z)) A D p l e s m args below meth c mc ms H locs cells slots ls C hR hS h1 h2 hl) (fun q => k2 (Option.some.inj q) A D p l e s m args below meth c mc ms H locs cells slots ls C hR hS h1 h2 hl)
theorem J.ifnullR {x : Nat} {off : Int} (pn : Nat) (hd : decode Y.2.1 pc = .ok (.ifnull off, 3)) (hn : pc + 3 = pn) (k : J Y d G kc ks pn lv st h post) : J Y d G kc ks pc lv (.ref x :: st) h post := by
  subst hn
  exact J.lift (fun p l e R s m args below meth c H locs cells slots Q ls hx hb hl hown hts k => lv_ifnull hx hb hd k) k
theorem J.ifnullN {off : Int} (tgt : Nat) (hd : decode Y.2.1 pc = .ok (.ifnull off, 3)) (ht : (pc : Int) + off = (tgt : Int)) (k : J Y d G kc ks tgt lv st h post) : J Y d G kc ks pc lv (.null :: st) h post :=
  J.lift (fun p l e R s m args below meth c H locs cells slots Q ls hx hb hl hown hts k => lv_ifnullN hx hb hd ht k) k
theorem J.ifnonnullR {x : Nat} {off : Int} (tgt : Nat) (hd : decode Y.2.1 pc = .ok (.ifnonnull off, 3)) (ht : (pc : Int) + off = (tgt : Int)) (k : J Y d G kc ks tgt lv st h post) : J Y d G kc ks pc lv (.ref x :: st) h post :=
  J.lift (fun p l e R s m args below meth c H locs cells slots Q ls hx hb hl hown hts k => lv_ifnonnull hx hb hd ht k) k
theorem J.ifnonnullN {off : Int} (pn : Nat) (hd : decode Y.2.1 pc = .ok (.ifnonnull off, 3)) (hn : pc + 3 = pn) (k : J Y d G kc ks pn lv st h post) : J Y d G kc ks pc lv (.null :: st) h post := by
  subst hn
  exact J.lift (fun p l e R s m args below meth c H locs cells slots Q ls hx hb hl hown hts k => lv_ifnonnullN hx hb hd k) k
/-- ArrayList's empty row -/
theorem J.getsE (hy : Y.1.cls = RJx4a65c) (pn : Nat) (hd : decode Y.2.1 pc = .ok (.getstatic 39, 3)) (hn : pc + 3 = pn) (k : J Y d G kc ks pn lv (.ref (G 0) :: st) h post) : J Y d G kc ks pc lv st h post := by
  subst hn
  intro A D p l e s m args below meth c mc ms H locs cells slots ls C hR hS h1 h2 hl
  exact va_gets C.1 C.2.1 C.2.2.2.2.2.2.2.2.1.1 hS C.2.2.2.2.1 (C.2.2.2.2.2.1 _ (by rw [hy]; exact wm_47)) (fun x z => z) hd (k A D p l e s m args below meth c mc ms H locs cells slots ls C hR hS h1 h2 hl)
theorem J.alenE (pn : Nat) (hd : decode Y.2.1 pc = .ok (.arraylength, 1)) (hn : pc + 1 = pn) (k : J Y d G kc ks pn lv (.int 0 :: st) h post) : J Y d G kc ks pc lv (.ref (G 0) :: st) h post := by
  subst hn
  intro A D p l e s m args below meth c mc ms H locs cells slots ls C hR hS h1 h2 hl
  exact va_tlen C.1 C.2.1 C.2.2.2.2.2.2.2.2.1.2.1 hS rfl hd (k A D p l e s m args below meth c mc ms H locs cells slots ls C hR hS h1 h2 hl)
/-- the empty row is no cell of ours -/
theorem jcast {ci : Nat} {r : vw_C} (hc : vwCl[ci]? = some r) : Cond.castable r.1 "java/lang/Object" ∈ lw_tbl := by
  match ci, hc with
  | 0, hc => cases hc; exact wm_1377
  | 1, hc => cases hc; exact wm_1388
  | 2, hc => cases hc; exact wm_1386
  | 3, hc => cases hc; exact wm_1384
  | 4, hc => cases hc; exact wm_1382
  | 5, hc => cases hc; exact wm_1381
  | 6, hc => cases hc; exact wm_1385
  | 7, hc => cases hc; exact wm_1375
  | 8, hc => cases hc; exact wm_1387
  | 9, hc => cases hc; exact wm_1380
  | 10, hc => cases hc; exact wm_1379
  | 11, hc => cases hc; exact wm_1378
  | 12, hc => cases hc; exact wm_1376
  | 13, hc => cases hc; exact wm_1383
  | n + 14, hc => exact absurd hc (by simp)
theorem J.copyq {a0 a n0 n1 idx : Nat} {f g : Nat → Option Nat} {sp dp n : Int32} (pn : Nat) (hd : decode Y.2.1 pc = .ok (.invokestatic idx, 3)) (hn : pc + 3 = pn) (hw1 : Cond.methodLink Y.1.cls idx arraycopyName ∈ lw_gd) (ha0 : h a0 = some (Aq "java/lang/Object" n0 f)) (ha : h a = some (Aq "java/lang/Object" n1 g))
    (h1 : ¬ sp < 0) (h2 : ¬ dp < 0) (h3 : ¬ n < 0) (h4 : sp.toNatClampNeg + n.toNatClampNeg ≤ n0) (h5 : dp.toNatClampNeg + n.toNatClampNeg ≤ n1) (hel : ∀ i : Nat, i < n.toNatClampNeg → ∀ y : Nat, f (sp.toNatClampNeg + i) = some y → ∃ (ci : Nat) (fs : List Value), h y = some (.inr (ci, fs)) ∧ ci < 14) (hrm : (st.map fun v => v.category).sum ≤ 8)
    (kk : J Y (d + 1) G kc ks pn lv st (hu h a (Aq "java/lang/Object" n1 (va_cpy f g sp.toNatClampNeg dp.toNatClampNeg n.toNatClampNeg))) post) : J Y (d + 1) G kc ks pc lv (.int n :: .int dp :: .ref a :: .int sp :: .ref a0 :: st) h post := by
  subst hn
  intro A D p l e s m args below meth c mc ms H locs cells slots ls C hR hS g1 g2 hl
  have hts := C.2.2.2.2.2.1
  have hcst := C.2.2.2.2.2.2.2.2.1.2.2.2.1
  obtain ⟨ws, tys, hK, hP, hD, hh⟩ := id hR
  obtain ⟨cA0, b1, b2⟩ := hh a0 _ ha0
  obtain ⟨cA, b3, b4⟩ := hh a _ ha
  obtain ⟨q0, hq0⟩ := List.getElem?_of_mem b1
  obtain ⟨t0, ht0⟩ := List.getElem?_of_mem b2
  obtain ⟨q1, hq1⟩ := List.getElem?_of_mem b3
  obtain ⟨t1, ht1⟩ := List.getElem?_of_mem b4
  refine va_copyM C.1 C.2.1 (C.2.2.1.trans (lvk_size hl).symm) C.2.2.2.2.1 (hts _ hw1) (hts _ wm_259) (hts _ wm_258) (hts _ wm_14) hK hP hD hS q0 q1 t0 t1 hq0 hq1 ht0 ht1 h1 h2 h3 h4 h5 (fun i hi y hy => ?_) (show 1 ≤ d + 1 by omega) ?_ hd (fun H1 locs1 hP1 hD1 hS1 => kk A D p l e s m args below meth c mc ms H1 locs1 cells slots ls C ⟨_, tys, hK, hP1, hD1, jh_set hD hh hq1 (fun ws' hm => ⟨cA, hm, b4⟩)⟩ hS1 g1 g2 hl)
  · obtain ⟨ci, fs, e1, e2⟩ := hel i hi y hy
    obtain ⟨r, hr⟩ : ∃ r, vwCl[ci]? = some r := ⟨_, List.getElem?_eq_getElem (show ci < vwCl.length from e2)⟩
    exact jany (args := args) hR hr (hcst _ _ (jcast hr)) e1
  · show _ + (nativeFrameWords "java/lang/System" "arraycopy" 5 + 11) ≤ 40 * (d + 1)
    have : nativeFrameWords "java/lang/System" "arraycopy" 5 = 7 := by decide
    omega
theorem J.copyi {a0 a n0 n1 idx : Nat} {f g : Nat → Int32} {sp dp n : Int32} (pn : Nat) (hd : decode Y.2.1 pc = .ok (.invokestatic idx, 3)) (hn : pc + 3 = pn) (hw1 : Cond.methodLink Y.1.cls idx arraycopyName ∈ lw_gd) (ha0 : h a0 = some (Ai n0 f)) (ha : h a = some (Ai n1 g))
    (h1 : ¬ sp < 0) (h2 : ¬ dp < 0) (h3 : ¬ n < 0) (h4 : sp.toNatClampNeg + n.toNatClampNeg ≤ n0) (h5 : dp.toNatClampNeg + n.toNatClampNeg ≤ n1) (hrm : (st.map fun v => v.category).sum ≤ 8)
    (kk : J Y (d + 1) G kc ks pn lv st (hu h a (Ai n1 (va_cpy f g sp.toNatClampNeg dp.toNatClampNeg n.toNatClampNeg))) post) : J Y (d + 1) G kc ks pc lv (.int n :: .int dp :: .ref a :: .int sp :: .ref a0 :: st) h post := by
  subst hn
  intro A D p l e s m args below meth c mc ms H locs cells slots ls C hR hS g1 g2 hl
  have hts := C.2.2.2.2.2.1
  obtain ⟨ws, tys, hK, hP, hD, hh⟩ := id hR
  obtain ⟨cA0, b1, b2⟩ := hh a0 _ ha0
  obtain ⟨cA, b3, b4⟩ := hh a _ ha
  obtain ⟨q0, hq0⟩ := List.getElem?_of_mem b1
  obtain ⟨t0, ht0⟩ := List.getElem?_of_mem b2
  obtain ⟨q1, hq1⟩ := List.getElem?_of_mem b3
  obtain ⟨t1, ht1⟩ := List.getElem?_of_mem b4
  refine va_copyi C.1 C.2.1 (C.2.2.1.trans (lvk_size hl).symm) C.2.2.2.2.1 (hts _ hw1) (hts _ wm_259) (hts _ wm_258) (hts _ wm_14) hK hP hD hS q0 q1 t0 t1 hq0 hq1 ht0 ht1 rfl h1 h2 h3 h4 h5 (fun i hi => rfl) (show 1 ≤ d + 1 by omega) ?_ hd (fun H1 locs1 hP1 hD1 hS1 => kk A D p l e s m args below meth c mc ms H1 locs1 cells slots ls C ⟨_, tys, hK, hP1, hD1, jh_set hD hh hq1 (fun ws' hm => ⟨cA, hm, b4⟩)⟩ hS1 g1 g2 hl)
  show _ + (nativeFrameWords "java/lang/System" "arraycopy" 5 + 11) ≤ 40 * (d + 1)
  have : nativeFrameWords "java/lang/System" "arraycopy" 5 = 7 := by decide
  omega
/-- getClass of a row of objects, and the constant -/
theorem J.getC {a n : Nat} {f : Nat → Option Nat} (hy : Y.1.cls = "java/util/Arrays") (pn : Nat) (hd : decode Y.2.1 pc = .ok (.invokevirtual 86, 3)) (hn : pc + 3 = pn) (ha : h a = some (Aq "java/lang/Object" n f)) (hrm : (st.map fun v => v.category).sum ≤ 8) (kk : J Y (d + 1) G kc ks pn lv (.ref (G 1) :: st) h post) : J Y (d + 1) G kc ks pc lv (.ref a :: st) h post := by
  subst hn
  intro A D p l e s m args below meth c mc ms H locs cells slots ls C hR hS g1 g2 hl
  have hts := C.2.2.2.2.2.1
  have hG := C.2.2.2.2.2.2.2.2.1
  obtain ⟨ws, tys, hK, hP, hD, hh⟩ := id hR
  obtain ⟨cA, b3, b4⟩ := hh a _ ha
  obtain ⟨q1, hq1⟩ := List.getElem?_of_mem b3
  obtain ⟨t1, ht1⟩ := List.getElem?_of_mem b4
  have hc1 : H[a]? = some (vp_cell cA (n, .inr (.inr (.inr (.inr f))))) := hP q1 _ hq1
  refine va_getC (C := "[Ljava/lang/Object;") C.1 C.2.1 (C.2.2.1.trans (lvk_size hl).symm) C.2.2.2.2.1 (hts _ (by rw [hy]; exact wm_230)) (va_Dc.use hG.2.2.2.2.2.2.2.1) (hts _ wm_1391) (hts _ wm_231) (hts _ wm_247) hG.2.2.2.2.2.2.1 ⟨_, hc1, rfl, va_nmO (hK.2 t1 _ ht1).2 rfl⟩ (show 1 ≤ d + 1 by omega) (show _ + 14 ≤ 40 * (d + 1) by omega) hd (kk A D p l e s m args below meth c mc ms H locs cells slots ls C hR hS g1 g2 hl)
theorem J.ldcC (hy : Y.1.cls = "java/util/Arrays") (pn : Nat) (hw : Cond.classLink "java/util/Arrays" 110 "[Ljava/lang/Object;" ∈ lw_gd) (hd : decode Y.2.1 pc = .ok (.ldc 110, 2)) (hn : pc + 2 = pn) (kk : J Y d G kc ks pn lv (.ref (G 1) :: st) h post) : J Y d G kc ks pc lv st h post := by
  subst hn
  intro A D p l e s m args below meth c mc ms H locs cells slots ls C hR hS g1 g2 hl
  exact va_ldcM C.1 C.2.1 C.2.2.2.2.1 (C.2.2.2.2.2.1 _ (by rw [hy]; exact hw)) C.2.2.2.2.2.2.2.2.1.2.2.2.2.2.2.1 hd (kk A D p l e s m args below meth c mc ms H locs cells slots ls C hR hS g1 g2 hl)
/-- the text of names: its row, its length, its bytes -/
theorem J.ldcT (hy : Y.1.cls = "HutLift$Tape") (pn : Nat) (hd : decode Y.2.1 pc = .ok (.ldc 35, 2)) (hn : pc + 2 = pn) (kk : J Y d G kc ks pn lv (.ref (G 2) :: st) h post) : J Y d G kc ks pc lv st h post := by
  subst hn
  intro A D p l e s m args below meth c mc ms H locs cells slots ls C hR hS g1 g2 hl
  exact va_ldcS C.1 C.2.1 (by rw [← hy]; exact C.2.2.2.2.1) C.2.2.2.2.2.2.2.2.1.2.2.2.2.2.2.2.2.1 hd (kk A D p l e s m args below meth c mc ms H locs cells slots ls C hR hS g1 g2 hl)
theorem J.strV {idx : Nat} {ref : String} (pn : Nat) (hw : Cond.fieldLink Y.1.cls idx ref "value" "[B" ∈ lw_gd) (hr : ref = "java/lang/String") (hd : decode Y.2.1 pc = .ok (.getfield idx, 3)) (hn : pc + 3 = pn) (kk : J Y d G kc ks pn lv (.ref (G 3) :: st) h post) : J Y d G kc ks pc lv (.ref (G 2) :: st) h post := by
  subst hn
  subst hr
  intro A D p l e s m args below meth c mc ms H locs cells slots ls C hR hS g1 g2 hl
  exact vk_getf C.1 C.2.1 (C.2.2.2.2.2.2.2.2.1.2.2.2.2.2.2.2.2.2.1.1 0 (by decide)).2.2.1 hS C.2.2.2.2.1 (C.2.2.2.2.2.1 _ hw) (fun x z => z) hd (kk A D p l e s m args below meth c mc ms H locs cells slots ls C hR hS g1 g2 hl)
theorem J.strC {idx : Nat} {ref : String} (pn : Nat) (hw : Cond.fieldLink Y.1.cls idx ref "coder" "B" ∈ lw_gd) (hr : ref = "java/lang/String") (hd : decode Y.2.1 pc = .ok (.getfield idx, 3)) (hn : pc + 3 = pn) (kk : J Y d G kc ks pn lv (.int 0 :: st) h post) : J Y d G kc ks pc lv (.ref (G 2) :: st) h post := by
  subst hn
  subst hr
  intro A D p l e s m args below meth c mc ms H locs cells slots ls C hR hS g1 g2 hl
  exact vk_getf C.1 C.2.1 (C.2.2.2.2.2.2.2.2.1.2.2.2.2.2.2.2.2.2.1.1 0 (by decide)).2.1 hS C.2.2.2.2.1 (C.2.2.2.2.2.1 _ hw) (fun x z => z) hd (kk A D p l e s m args below meth c mc ms H locs cells slots ls C hR hS g1 g2 hl)
theorem J.strL (pn : Nat) (hd : decode Y.2.1 pc = .ok (.arraylength, 1)) (hn : pc + 1 = pn) (kk : J Y d G kc ks pn lv (.int 11 :: st) h post) : J Y d G kc ks pc lv (.ref (G 3) :: st) h post := by
  subst hn
  intro A D p l e s m args below meth c mc ms H locs cells slots ls C hR hS g1 g2 hl
  exact va_tlen C.1 C.2.1 (C.2.2.2.2.2.2.2.2.1.2.2.2.2.2.2.2.2.2.1.1 0 (by decide)).2.2.2 hS rfl hd (kk A D p l e s m args below meth c mc ms H locs cells slots ls C hR hS g1 g2 hl)
def nmB (j : Nat) : Int32 := ([119, 116, 115, 104, 109, 112, 101, 107, 108, 110, 102] : List Int32).getD j 0
theorem J.strB {i : Int32} (pn : Nat) (hin : vp_in i 11) (hd : decode Y.2.1 pc = .ok (.baload, 1)) (hn : pc + 1 = pn) (kk : J Y d G kc ks pn lv (.int (nmB i.toNatClampNeg) :: st) h post) : J Y d G kc ks pc lv (.int i :: .ref (G 3) :: st) h post := by
  subst hn
  intro A D p l e s m args below meth c mc ms H locs cells slots ls C hR hS g1 g2 hl
  exact va_tb C.1 C.2.1 (C.2.2.2.2.2.2.2.2.1.2.2.2.2.2.2.2.2.2.1.1 0 (by decide)).2.2.2 hS hin rfl hd (kk A D p l e s m args below meth c mc ms H locs cells slots ls C hR hS g1 g2 hl)
/-- a call on the text: its receiver is no cell of ours -/
theorem Gl.str {A : Nat → Prop} {s : State} (hG : Gl G A s) : va_O "java/lang/String" (G 2) A s s.heap := (hG.2.2.2.2.2.2.2.2.2.1.1 0 (by decide)).1
end JN
