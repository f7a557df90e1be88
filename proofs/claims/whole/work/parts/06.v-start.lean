/-! THE CLAIM OUT OF ONE WALK OF THE LAW'S BODY. Your part is whole_start (and what it stands on); all else here is the same for every law, but numbers. -/
def R_law : String := "HutLiftLaw"
def lw_P (b : Addr) (xs : List Int32) (args : Array Value) (s : State) : Prop := args = #[.ref b] ∧ s.IntsAt b xs ∧ xs.length ≤ 2560 ∧ (Jvm.Cond.and given_1 narrow_1).before args s = true
def lw_Q (_ : Array Value) (s : State) (o : Outcome) (t : State) : Prop := o = .returned (some (.int 1)) ∧ Framed s o t [] 600000 7302250
def lw_Z (below : List Frame) (a : Array Value) (s : State) : State → Prop := fun t => ∃ o, t.status = .running ∧ Ended t below o ∧ lw_Q a s o t
/-- the law's own end, with 1 on the stack, nothing written that was there before, its room as the claim has it -/
theorem lw_ret {p : Program} {l : Launch} {e : Env} {s : State} {m : MethodId} {below : List Frame} {meth : Method} {c : Code} {b : Nat} (hx : p.tables.exec = Jvm.exec) (hb : c.code = code) (hr : meth.sig.returnType = ret) (hlocks : meth.locks = false) {pc : Nat} {H : Heap} {ls : Array Slot} (hdg : decode code pc = .ok (.ireturn, 1)) : W p l e room_1 s m #[Value.ref b] below meth c H [] 600000 7302250 (lw_Z below #[Value.ref b] s) (F0 m pc ls [.int 1]) := by
  intro T hT X
  obtain ⟨fs, hret, hrun, hended, hW, hframe⟩ := X.leave (v := some (.int 1)) (hlocks := hlocks) (fun h => by rw [hr] at h; cases h)
  have hmeth' : T.vm.method? m = some meth := X.method'
  refine ⟨T.setFrames fs, ?_, .returned (some (.int 1)), hrun, hended, rfl, ⟨_, rfl⟩, hW, hframe⟩
  jvm_step X.here [X.here.top, hx, hb, hdg, hmeth', hr, ret, narrow_b1]
  (try refine ⟨rfl, ?_⟩); (try refine ⟨rfl, ?_⟩)
  first | (intro acts; rw [hret _ acts rfl rfl rfl]) | rw [hret _ _ rfl rfl rfl]
  exact Steps.refl _
/-- what holds at the law's entry: the machine, the code, the tables' words (any of lw_tbl by 'hts w (by decide +kernel)'), the script of L ints xs at the cell b, what the Statement gives of the start (any of its parts by flat_of_before) -/
def lw_At (p : Program) (s : State) (m : MethodId) (meth : Method) (c : Code) (b L : Nat) (xs : Nat → Int32) : Prop :=
  p.tables.exec = Jvm.exec ∧ c.code = code ∧ meth.sig.returnType = ret ∧ c.maxLocals = 4 ∧ s.vm.findClass R_law = some m.cls ∧ (∀ w ∈ lw_tbl, w.before #[Value.ref b] s = true) ∧ va_X b L xs s s.heap ∧ b < s.heap.size ∧ meth.locks = false ∧ (Jvm.Cond.and given_1 narrow_1).before #[Value.ref b] s = true
theorem of_u32 (x : Int32) : Int32.ofNat x.toUInt32.toNat = x := by
  apply Int32.toBitVec_inj.mp
  apply BitVec.eq_of_toNat_eq
  show (BitVec.ofNat 32 x.toUInt32.toNat).toNat = x.toBitVec.toNat
  rw [BitVec.toNat_ofNat]
  exact Nat.mod_eq_of_lt x.toUInt32.toBitVec.isLt
/-- the surroundings as numbers: the empty row, Object[]'s mirror, the names' text and its bytes, the script, its length, its ints -/
def gOf (t0 mi k0 v0 b L : Nat) (xs : Nat → Int32) : Nat → Nat := fun i => match i with
  | 0 => t0
  | 1 => mi
  | 2 => k0
  | 3 => v0
  | 4 => b
  | 5 => L
  | n + 6 => (xs n).toUInt32.toNat
theorem gOf_x {t0 mi k0 v0 b L : Nat} {xs : Nat → Int32} (j : Nat) : Int32.ofNat (gOf t0 mi k0 v0 b L xs (6 + j)) = xs j := by
  rw [Nat.add_comm 6 j]
  exact of_u32 (xs j)
theorem known_all {s : State} {args : Array Value} (hg : ∀ w ∈ lw_gd, w.before args s = true) : ∀ c : Nat, ∃ (q : ClassId × (Nat → Nat)), ∀ r : vw_C, vwCl[c]? = some r → u_Kn s r.1 r.2.1 r.2.2 q.1 q.2 := by
  intro c
  match c with
  | 0 => obtain ⟨cC, iS, h⟩ := u_known hg inT_Jx4a65c (hg _ wm_36); exact ⟨(cC, iS), fun r hr => by cases hr; exact h⟩
  | 1 => obtain ⟨cC, iS, h⟩ := u_known hg inT_X0 (hg _ wm_744); exact ⟨(cC, iS), fun r hr => by cases hr; exact h⟩
  | 2 => obtain ⟨cC, iS, h⟩ := u_known hg inT_X1 (hg _ wm_384); exact ⟨(cC, iS), fun r hr => by cases hr; exact h⟩
  | 3 => obtain ⟨cC, iS, h⟩ := u_known hg inT_X2 (hg _ wm_315); exact ⟨(cC, iS), fun r hr => by cases hr; exact h⟩
  | 4 => obtain ⟨cC, iS, h⟩ := u_known hg inT_X3 (hg _ wm_143); exact ⟨(cC, iS), fun r hr => by cases hr; exact h⟩
  | 5 => obtain ⟨cC, iS, h⟩ := u_known hg inT_X4 (hg _ wm_118); exact ⟨(cC, iS), fun r hr => by cases hr; exact h⟩
  | 6 => obtain ⟨cC, iS, h⟩ := u_known hg inT_X5 (hg _ wm_348); exact ⟨(cC, iS), fun r hr => by cases hr; exact h⟩
  | 7 => obtain ⟨cC, iS, h⟩ := u_known hg inT_X6 (hg _ wm_180); exact ⟨(cC, iS), fun r hr => by cases hr; exact h⟩
  | 8 => obtain ⟨cC, iS, h⟩ := u_known hg inT_X7 (hg _ wm_567); exact ⟨(cC, iS), fun r hr => by cases hr; exact h⟩
  | 9 => obtain ⟨cC, iS, h⟩ := u_known hg inT_X8 (hg _ wm_96); exact ⟨(cC, iS), fun r hr => by cases hr; exact h⟩
  | 10 => obtain ⟨cC, iS, h⟩ := u_known hg inT_X9 (hg _ wm_82); exact ⟨(cC, iS), fun r hr => by cases hr; exact h⟩
  | 11 => obtain ⟨cC, iS, h⟩ := u_known hg inT_X10 (hg _ wm_62); exact ⟨(cC, iS), fun r hr => by cases hr; exact h⟩
  | 12 => obtain ⟨cC, iS, h⟩ := u_known hg inT_X11 (hg _ wm_28); exact ⟨(cC, iS), fun r hr => by cases hr; exact h⟩
  | 13 => obtain ⟨cC, iS, h⟩ := u_known hg inT_X12 (hg _ wm_979); exact ⟨(cC, iS), fun r hr => by cases hr; exact h⟩
  | n + 14 => exact ⟨(0, fun _ => 0), fun r h => (by cases h)⟩
theorem start_gl {s : State} {args : Array Value} {b L : Nat} {xs : Nat → Int32} (hts : ∀ w ∈ lw_tbl, w.before args s = true) (hX : va_X b L xs s s.heap) (hbl : b < s.heap.size) (hgv : (Jvm.Cond.and given_1 narrow_1).before args s = true) : ∃ t0 mi k0 v0 : Nat, Gl (gOf t0 mi k0 v0 b L xs) (fun q => s.heap.size ≤ q) s := by
  have hs := flat_of_before _ hgv
  have hg : ∀ w ∈ lw_gd, w.before args s = true := fun w hw => hts w (List.mem_filter.mp hw).1
  have hA : ∀ a : Nat, a < s.heap.size → ¬ s.heap.size ≤ a := fun a h => Nat.not_le.mpr h
  obtain ⟨t0, ht0, hT0⟩ := va_Tof (A := fun q => s.heap.size ≤ q) (tm := Term.static "java/util/ArrayList" "DEFAULTCAPACITY_EMPTY_ELEMENTDATA" "[Ljava/lang/Object;") (ty := .object "java/lang/Object") (N := 0) (f := fun _ => .null) (by decide) (hs _ (by decide +kernel)) (va_eqt (hs _ (by decide +kernel))) (fun j hj => absurd hj (Nat.not_lt_zero _)) hA
  obtain ⟨mi, hmi⟩ := va_Mi.of (C := "[Ljava/lang/Object;") (hs _ (by decide +kernel))
  have one : ∀ i : Nat, i < 1 → i = 0 := fun i hi => by omega
  have hN : ∀ i : Nat, i < 1 → ([11] : List Nat).getD i 0 < 2 ^ 31 := fun i hi => by rw [one i hi]; decide
  have hle : ∀ i : Nat, i < 1 → (Cond.eq (.length (.field (Term.string "HutLift$Tape" 35) "java/lang/String" "value" "[B")) (.int (Int32.ofNat (([11] : List Nat).getD i 0)))).before args s = true := fun i hi => by rw [one i hi]; exact hs _ (by decide +kernel)
  have hel : ∀ i : Nat, i < 1 → ∀ j : Nat, j < ([11] : List Nat).getD i 0 → (Cond.eq (.elem (.field (Term.string "HutLift$Tape" 35) "java/lang/String" "value" "[B") (.int (Int32.ofNat j))) (.int ((([[119, 116, 115, 104, 109, 112, 101, 107, 108, 110, 102]] : List (List Int32)).getD i []).getD j 0))).before args s = true := by
    intro i hi j hj
    rw [one i hi] at hj ⊢
    have hj : j < 11 := hj
    have : j = 0 ∨ j = 1 ∨ j = 2 ∨ j = 3 ∨ j = 4 ∨ j = 5 ∨ j = 6 ∨ j = 7 ∨ j = 8 ∨ j = 9 ∨ j = 10 := by omega
    rcases this with rfl | rfl | rfl | rfl | rfl | rfl | rfl | rfl | rfl | rfl | rfl <;> exact hs _ (by decide +kernel)
  obtain ⟨adK, adV, hS, hev⟩ := vk_Sof (args := args) (s := s) (N := 1) (tm := fun _ => Term.string "HutLift$Tape" 35) (len := [11]) (byt := [[119, 116, 115, 104, 109, 112, 101, 107, 108, 110, 102]]) (A := fun q => s.heap.size ≤ q) hN (fun i hi => hs _ (by decide +kernel)) (fun i hi => hs _ (by decide +kernel)) (fun i hi => hs _ (by decide +kernel)) hle hel (fun i j hi hj hij => absurd ((one i hi).trans (one j hj).symm) hij) hA
  refine ⟨t0, mi, adK 0, adV 0, va_Zof (hts _ wm_48) (hg _ wm_4) ht0 hA, hT0, fun a i x b h => va_Nw.of rfl (hts _ h), fun C T h => va_Nw.of rfl (hts _ h), va_AO.of (A := args) (hts _ wm_252), va_AO.of (A := args) (hts _ wm_149), hmi, va_Dc.of (hts _ wm_1392), vk_R.of (A := args) (hts _ wm_476) (hev 0 (by decide)), ?_, va_Zof (hts _ wm_490) (hg _ wm_19) (va_eqt (hs _ (by decide +kernel))) hA, ?_⟩
  · refine ⟨fun i hi => ?_, fun i j hi hj _ => by omega⟩
    have : i = 0 := by omega
    subst this
    exact hS.1 0 (by decide)
  · obtain ⟨scr, h1, h2, h3, h4, h5⟩ := hX
    refine ⟨scr, h1, h2, h3, Nat.le_of_eq h4.symm, by rw [h4]; rfl, fun j hj => ?_, hA b hbl⟩
    rw [h5 j hj]
    exact congrArg (fun v => some (Value.int v)) (gOf_x j).symm
theorem whole_start {p : Program} {e : Env} {s : State} {m : MethodId} {below : List Frame} {meth : Method} {c : Code} (l : Launch) {b L : Nat} {xs : Nat → Int32} (hL : L ≤ 2560) (C0 : lw_At p s m meth c b L xs) : W p l e room_1 s m #[Value.ref b] below meth c s.heap [] 0 0 (lw_Z below #[Value.ref b] s) (entryFrame m ([Value.ref b] : List Value).toArray 4) := by
  obtain ⟨hx, hc, hr, hml, hown, hts, hX, hbl, hlk, hgv⟩ := C0
  have hg : ∀ w ∈ lw_gd, w.before #[Value.ref b] s = true := fun w hw => hts w (List.mem_filter.mp hw).1
  obtain ⟨t0, mi, k0, v0, hGl⟩ := start_gl hts hX hbl hgv
  have hk := known_all hg
  intro T hT X
  have hroom : s.hasRoom e.platform (rmd 21 46154 7223118) = true := by
    have h := X.room
    obtain ⟨s1, -, s3, -⟩ := State.hasRoom_stack h
    have hb0 := State.hasRoom_plain h
    have hre := State.hasRoom_real h
    simp only [State.hasRoom, Bool.and_eq_true] at h
    have q1 := of_decide_eq_true h.1.1.2
    have q2 := of_decide_eq_true h.1.2
    have hst := h.2
    exact State.hasRoom_of hb0 (Nat.le_trans (Nat.add_le_add_left (show 21 ≤ 2048 by decide) _) s1) (Nat.le_trans (Nat.add_le_add_left (show 40 * 21 ≤ 84000 by decide) _) s3) (Nat.le_trans (Nat.add_le_add_left (show 46154 ≤ 600000 by decide) _) q1) (Nat.le_trans (Nat.add_le_add_left (show 7223118 ≤ 7302250 by decide) _) q2) hst (Nat.le_trans (Nat.add_le_add_right (Nat.add_le_add_left (show 40 * 21 ≤ 84000 by decide) _) _) hre)
  have X2 : Stand p l e (rmd 21 46154 7223118) s m #[Value.ref b] below meth c T [] 0 0 := { X with room := hroom }
  have hl := lv_entry [Value.ref b] (n := 4) (Nat.le_of_ble_eq_true rfl)
  have hHR : HR (fun c => (Classical.choose (hk c)).1, fun c => (Classical.choose (hk c)).2) (fun q => s.heap.size ≤ q) s (fun _ => none) s.heap := ⟨[], [], ⟨fun c q hq => Classical.choose_spec (hk c) q hq, fun k q hq => (by cases hq)⟩, fun k q hq => (by cases hq), ⟨fun i j p q hp => (by cases hp), fun k q hq => (by cases hq)⟩, fun a e he => (by cases he)⟩
  have K := law_body (nm := meth.name) (G := gOf t0 mi k0 v0 b L xs) hL (fun q => s.heap.size ≤ q) _ p l e s m #[Value.ref b] below meth c 46154 7223118 s.heap [] 0 0 _ ⟨hx, hc, hml, hr, hown, hg, hlk, rfl, hGl, fun q hq => hq⟩ hHR va_S.rf (by decide) (by decide) ⟨_, hl, fun i v hi => by
    match i, hi with
    | 0, hi => cases hi; exact ⟨List.mem_cons_self, rfl⟩
    | 1, hi => cases hi
    | 2, hi => cases hi
    | 3, hi => cases hi
    | n + 4, hi => cases hi⟩
  rw [← lg_entry_eq] at K
  obtain ⟨t, a1, o, b1, b2, ⟨⟨r, h', e1, e2, e3⟩, b4⟩, L', ⟨f1, f2, f3⟩, f4⟩ := K T hT X2
  refine ⟨t, a1, o, b1, b2, by rw [e1, e2], f1, f2, f3.weaken (fun y hy hlt => absurd hlt (Nat.not_lt.mpr (f4 y hy))) (by decide) (by decide)⟩
set_option maxHeartbeats 4000000 in
theorem lw_walk (l : Launch) (b : Addr) (xs : List Int32) : MetFree l x (headSpec (Jvm.Cond.code x code maxLocals ret :: tables_1) room_1) (lw_P b xs) (fun _ _ _ _ _ => True) lw_Q := by
  refine MetFree.of_bodyS (code := code) (maxLocals := maxLocals) (ret := ret) (by decide) ?_ ?_
  · intro args s m h hn
    obtain ⟨meth, c, h1, h2, h3, h4, h5, h6, -, -⟩ := Cond.code_spec hn (atoms_spec (ws := Jvm.Cond.code x code maxLocals ret :: tables_1) h _ List.mem_cons_self)
    exact ⟨meth, c, h1, h2, h3, h4, h5, h6⟩
  · intro p e s m args below meth c s₁ B hml0 hP _
    obtain ⟨rfl, hx, hbd, hgv⟩ := hP
    obtain ⟨scr, harrAt, hlist, hof, hsmall⟩ := hx
    obtain ⟨hcb, hkn, -, -⟩ := State.arrayAt?_spec harrAt
    have hown : s.vm.findClass R_law = some m.cls := findClass_of_methodNamed B.named
    have hts0 : ∀ c ∈ (Jvm.Cond.code x code maxLocals ret :: tables_1), c.before #[Value.ref b] s = true := atoms_spec (ws := Jvm.Cond.code x code maxLocals ret :: tables_1) B.pre
    have hts : ∀ w ∈ lw_tbl, w.before #[Value.ref b] s = true := k2_hts_sels lw_privs (fun w hw => hts0 w (List.mem_cons_of_mem _ hw)) lw_privs_ok
    have hml : c.maxLocals = 4 := B.maxLocals_eq (hts0 _ List.mem_cons_self)
    have X₀ : Stand p l e room_1 s m #[Value.ref b] below meth c s₁ [] 0 0 := Stand.of_body B
    have hh0 : s₁.heap = s.heap := by rw [B.state]; rfl
    have hsz : scr.slots.size = xs.length := by rw [← Array.length_toList, hlist, List.length_map]
    have hval : ∀ j : Nat, j < xs.length → scr.slots[j]? = some (.int (xs.getD j 0)) := fun j hj => by
      rw [← Array.getElem?_toList, hlist]
      simp [hj]
    have hbl : b < s.heap.size := (Array.getElem?_eq_some_iff.mp hcb).1
    have hX : va_X b xs.length (fun j => xs.getD j 0) s s.heap := ⟨scr, hcb, hof, hkn, hsz, hval⟩
    have K : W p l e room_1 s m #[Value.ref b] below meth c s₁.heap [] 0 0 (lw_Z below #[Value.ref b] s) (entryFrame m ([Value.ref b] : List Value).toArray 4) := by
      rw [hh0]
      exact whole_start l hbd ⟨B.exec, B.bytes, B.returns, hml, hown, hts, hX, hbl, B.notSynchronized, hgv⟩
    obtain ⟨t, a1, o, b1, b2, b3⟩ := K s₁ rfl X₀
    exact ⟨t, o, a1, b1, b2, b3⟩
theorem lw_pre_spec {args : Array Value} {s : State} (h : (Jvm.Cond.and given_1 narrow_1).before args s = true) (hr : rest_1_c.before args s = true) : ∃ (b : Addr) (xs : List Int32), lw_P b xs args s := by
  have hs := flat_of_before _ h
  have hq := flat_of_before _ hr
  have hc : (Cond.count 1).before args s = true := hs _ (by decide +kernel)
  have harr : (Cond.arrayOf (.arg 0) .int).before args s = true := hs _ (by decide +kernel)
  have hle : (Cond.le (.length (.arg 0)) (.int 2560)).before args s = true := hs _ (by decide +kernel)
  have hlen : (Cond.isInt (.length (.arg 0))).before args s = true := hq _ (by decide +kernel)
  have hall : (Cond.all (.arg 0) (.isInt (.elem (.arg 0) (.index 0)))).before args s = true := hq _ (by decide +kernel)
  obtain ⟨b, xs, hb, hx⟩ := State.ints_of_pre rfl harr hlen hall
  have hsm : xs.length < 2 ^ 31 := hx.choose_spec.2.2.2
  have hev : (Term.length (.arg 0)).eval args s none [] s = some (.int xs.length.toInt32) := hx.length_eval hb
  have hv := Cond.le_ints hev (show (Term.int 2560).eval args s none [] s = some (.int 2560) from rfl)
  have hd : xs.length.toInt32 ≤ 2560 := by
    simpa [Cond.before, Cond.holds, hv] using hle
  have hN : xs.length ≤ 2560 := (Int32.ofNat_le_ofNat hsm (by decide)).mp (show Int32.ofNat xs.length ≤ Int32.ofNat 2560 from hd)
  exact ⟨b, xs, Cond.one_arg hc (show args[0]? = some (.ref b) from hb), hx, hN, h⟩
theorem lw_comes (l : Launch) : Comes l x (Jvm.Cond.code x code maxLocals ret :: tables_1) room_1 (fun tb e args s => Calls_1 tb e args s ∧ rest_1 tb e args s ∧ Pre_1 tb e args s)
    (fun _ _ args s o t => lw_Q args s o t) := by
  intro p e ha hc hk s m args below hf hfit hheap happ hpre
  obtain ⟨b, xs, hP⟩ := lw_pre_spec hpre.2.2 hpre.2.1
  obtain ⟨k, o, h1, h2, h3, hQ⟩ := lw_walk l b xs p e ha hc hk s m args below hf ((Spec.applies_iff_loose hf).mp happ).1 hP trivial
  exact ⟨k, o, h1, h2, h3, hQ⟩
theorem lw_frame {s t : State} {o : Outcome} {args : Array Value} (h : Framed s o t [] 600000 7302250) :
    Framed s o t (fieldLocs frame_1_writes args s ++ arrayLocs frame_1_arrays args s ++ staticLocs frame_1_statics s) 600000 7302250 := h
theorem lw_limb (L : Cond) (hL : ∀ (args : Array Value) (s t : State), L.after args s (.returned (some (.int 1))) t = true) :
    ArmFor flags0 classFile x code maxLocals ret World_1 tables_1 room_1 Calls_1 rest_1 Pre_1
      (fun tb e a s o t => postC L tb e a s o t ∧ Framed s o t (fieldLocs frame_1_writes a s ++ arrayLocs frame_1_arrays a s ++ staticLocs frame_1_statics s) 600000 7302250) := by
  intro l _ _ _ p e ha hc hk s m args below hf hfit hheap happ hpre
  obtain ⟨k, o, h1, h2, h3, rfl, hF⟩ := lw_comes l p e ha hc hk s m args below hf hfit hheap happ hpre
  exact ⟨k, _, h1, h2, h3, hL args s _, lw_frame hF⟩
theorem i_vc : Claimed_1_1 ∧ Claimed_1_2 := ⟨lw_limb limb_1_1 (fun args s t => by simp [limb_1_1, Cond.after, Cond.holds, Cond.value]), lw_limb limb_1_2 (fun args s t => Cond.after_iff.mpr (by
  first | (rw [show limb_1_2 = Cond.eq .result (.int 1) from rfl, Cond.eq_ints (x := 1) (y := 1) rfl rfl]; simp; done) | (simp [limb_1_2, Cond.value, Term.eval]; done)))⟩
