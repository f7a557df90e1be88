section JTX
variable {Y : YM} {d kc ks pc : Nat} {G : Nat → Nat} {lv : List (Option Value)} {st : List Value} {h : AH} {post : Option Value → AH → Prop}
theorem J.getsC (hy : Y.1.cls = "java/lang/String") (pn : Nat) (hd : decode Y.2.1 pc = .ok (.getstatic 38, 3)) (hn : pc + 3 = pn) (k : J Y d G kc ks pn lv (.int 1 :: st) h post) : J Y d G kc ks pc lv st h post := by
  subst hn
  intro A D p l e s m args below meth c mc ms H locs cells slots ls C hR hS h1 h2 hl
  exact va_gets C.1 C.2.1 C.2.2.2.2.2.2.2.2.1.2.2.2.2.2.2.2.2.2.2.1 hS C.2.2.2.2.1 (C.2.2.2.2.2.1 _ (by rw [hy]; exact wm_489)) (fun x z => z) hd (k A D p l e s m args below meth c mc ms H locs cells slots ls C hR hS h1 h2 hl)
theorem J.bret0 (hd : decode Y.2.1 pc = .ok (.ireturn, 1)) (hr : Y.2.2.2 = some .byte) (hp : post (some (.int 0)) h) : J Y d G kc ks pc lv [.int 0] h post := by
  intro A D p l e s m args below meth c mc ms H locs cells slots ls C hR hS h1 h2 hl
  obtain ⟨c1, c2, c3, c4, c5, c6, c7, c8, c9, c10⟩ := C
  refine W.widen (k := mc) (n := ms) (by omega) (by omega) ?_
  exact W.zret (v := 0) (ty := .byte) c1 c2 (c4.trans hr) rfl (fun t ht hW => ⟨⟨_, h, rfl, hp, by rw [ht]; exact hR.moved hW.alike⟩, hS.F ht⟩) hS.2.2 hd
theorem J.callT {Y2 : YM} {mc2 ms2 n idx : Nat} {av rest : List Value} {post2 : Option Value → AH → Prop} (pn : Nat) (ct : Ct Y2 d G mc2 ms2 (.ref (G 2) :: av) h post2) (hd : decode Y.2.1 pc = .ok (.invokevirtual idx, 3)) (hn : pc + 3 = pn) (hw1 : Cond.methodLink Y.1.cls idx Y2.1 ∈ lw_gd) (hw2 : Cond.instanceMethod Y2.1 ∈ lw_gd) (hw5 : Cond.selects "java/lang/String" Y2.1 Y2.1 ∈ lw_gd) (hw3 : Cond.initialized Y2.1.cls ∈ lw_gd) (hw4 : Cond.code Y2.1 Y2.2.1 Y2.2.2.1 Y2.2.2.2 ∈ lw_gd) (hj : jdesc Y2.1 n) (hm : Y2.2.2.1 ≤ 21) (hln : av.length = n)
    (hst : st = av.reverse ++ .ref (G 2) :: rest) (hrm : (rest.map fun v => v.category).sum ≤ 8) (hk : mc2 ≤ kc) (hs : ms2 ≤ ks) (kk : ∀ r h2, post2 r h2 → J Y (d + 1) G (kc - mc2) (ks - ms2) pn lv (r.toList ++ rest) h2 post) : J Y (d + 1) G kc ks pc lv st h post := by
  subst hn
  intro A D p l e s m args below meth c mc ms H locs cells slots ls C hR hS h1 h2 hl
  have hts := C.2.2.2.2.2.1
  have hp := jpre (av := .ref (G 2) :: av) C hR hS
  obtain ⟨cell, o1, o2, o3, -⟩ := (Gl.str C.2.2.2.2.2.2.2.2.1).kept hS.2.1
  refine jcall C hS h1 h2 hl hk hs (va_runV (C := "java/lang/String") (As := av) (rest := rest) ⟨C.1, C.2.1, C.2.2.1, C.2.2.2.2.1, hts⟩ (ct A D l) ⟨callB_of n hts (jgood hw4) rfl rfl rfl (hts _ hw3) (hts _ hw1) hj (jroom hm), hts _ hw2, hts _ hw5⟩ ⟨hp.1, ⟨cell, o1, o2, o3⟩, hp.2⟩ rfl hln (lvk_size hl) hst (lv_room hrm) hd ⟨?_, ?_⟩) kk
  · show cells + mc2 ≤ mc
    omega
  · show slots + ms2 ≤ ms
    omega
theorem J.look {dflt off : Int} {ps : Array (Int × Int)} {len : Nat} {x : Int32} (tgt : Nat) (hd : decode Y.2.1 pc = .ok (.lookupswitch dflt ps, len)) (hp : (ps.toList.zip (ps.toList.drop 1)).all (fun (a, next) => a.1 < next.1) = true) (ho : Op.lookupswitch.offset ps.toList dflt x.toInt = off) (ht : (pc : Int) + off = (tgt : Int)) (k : J Y d G kc ks tgt lv st h post) : J Y d G kc ks pc lv (.int x :: st) h post :=
  J.lift (fun p l e R s m args below meth c H locs cells slots Q ls hx1 hb hl hown hts k => lv_lookup hx1 hb hd hp ho ht k) k
end JTX
theorem c_latin {d : Nat} {G : Nat → Nat} {h : AH} : Ct Y_J0_isLatin1_aae02 d G 0 0 [.ref (G 2)] h (fun r h2 => r = some (.int 1) ∧ h2 = h) := by
  refine Ct.ofn 0 rfl (Nat.le_of_ble_eq_true rfl) (by simp [Value.category]) ?_
  show J Y_J0_isLatin1_aae02 d G 0 0 0 [some (.ref (G 2))] [] h _
  refine J.getsC rfl 3 dJ0_isLatin1_aae02_0 rfl ?_
  refine J.if_eq 17 6 dJ0_isLatin1_aae02_3 (by decide) rfl (fun c => absurd c (by decide)) (fun _ => ?_)
  refine J.aload_n 7 dJ0_isLatin1_aae02_6 rfl rfl ?_
  refine J.strC 10 wm_1398 rfl dJ0_isLatin1_aae02_7 rfl ?_
  refine J.if_ne 17 13 dJ0_isLatin1_aae02_10 (by decide) rfl (fun c => absurd rfl c) (fun _ => ?_)
  refine J.iconst 1 14 dJ0_isLatin1_aae02_13 rfl (by decide) ?_
  refine J.goto 18 dJ0_isLatin1_aae02_14 (by decide) ?_
  exact J.zret dJ0_isLatin1_aae02_18 rfl (Or.inr rfl) ⟨rfl, rfl⟩
theorem c_coder {d : Nat} {G : Nat → Nat} {h : AH} : Ct Y_J0_coder_7d493 d G 0 0 [.ref (G 2)] h (fun r h2 => r = some (.int 0) ∧ h2 = h) := by
  refine Ct.ofn 0 rfl (Nat.le_of_ble_eq_true rfl) (by simp [Value.category]) ?_
  show J Y_J0_coder_7d493 d G 0 0 0 [some (.ref (G 2))] [] h _
  refine J.getsC rfl 3 dJ0_coder_7d493_0 rfl ?_
  refine J.if_eq 13 6 dJ0_coder_7d493_3 (by decide) rfl (fun c => absurd c (by decide)) (fun _ => ?_)
  refine J.aload_n 7 dJ0_coder_7d493_6 rfl rfl ?_
  refine J.strC 10 wm_1398 rfl dJ0_coder_7d493_7 rfl ?_
  refine J.goto 14 dJ0_coder_7d493_10 (by decide) ?_
  exact J.bret0 dJ0_coder_7d493_14 rfl ⟨rfl, rfl⟩
theorem c_slen {d : Nat} {G : Nat → Nat} {h : AH} : Ct Y_J0_length_8abf5 (d + 1) G 0 0 [.ref (G 2)] h (fun r h2 => r = some (.int 11) ∧ h2 = h) := by
  refine Ct.ofn 0 rfl (Nat.le_of_ble_eq_true rfl) (by simp [Value.category]) ?_
  show J Y_J0_length_8abf5 (d + 1) G 0 0 0 [some (.ref (G 2))] [] h _
  refine J.aload_n 1 dJ0_length_8abf5_0 rfl rfl ?_
  refine J.strV 4 wm_1399 rfl dJ0_length_8abf5_1 rfl ?_
  refine J.strL 5 dJ0_length_8abf5_4 rfl ?_
  refine J.aload_n 6 dJ0_length_8abf5_5 rfl rfl ?_
  refine J.callT (n := 0) (av := []) (rest := [.int 11]) 9 c_coder dJ0_length_8abf5_6 rfl wm_495 wm_496 wm_497 wm_19 wm_498 (by unfold jdesc; decide +kernel) (by decide) rfl rfl (Nat.le_of_ble_eq_true rfl) (Nat.zero_le _) (Nat.zero_le _) (fun r h2 hp => ?_)
  obtain ⟨rfl, rfl⟩ := hp
  refine J.ishr 10 dJ0_length_8abf5_9 rfl ?_
  exact J.iret dJ0_length_8abf5_10 rfl ⟨by decide, rfl⟩
def nmS (c : Int32) : Nat → Nat → Int32
  | 0, _ => -1
  | j + 1, k => if nmB k = c then nI k else nmS c j (k + 1)
theorem c_idxCL {d : Nat} {G : Nat → Nat} {h : AH} {ch c : Int32} : ∀ (j k : Nat), k + j = 11 → ∀ post : Option Value → AH → Prop, post (some (.int (nmS c j k))) h → J Y_J1_indexOfChar_4cfef d G 0 0 7 [some (.ref (G 3)), some (.int ch), some (.int 0), some (.int 11), some (.int c), some (.int (nI k))] [] h post := by
  intro j
  induction j with
  | zero =>
    intro k hk post hp
    refine J.iload 9 dJ1_indexOfChar_4cfef_7 rfl rfl ?_
    refine J.iload_n 10 dJ1_indexOfChar_4cfef_9 rfl rfl ?_
    refine J.icmp_ge 31 13 dJ1_indexOfChar_4cfef_10 (by decide) rfl (fun _ => ?_) (fun c1 => absurd (nI_le (a := 11) (b := k) (by omega) (by omega)) c1)
    refine J.iconst (-1) 32 dJ1_indexOfChar_4cfef_31 rfl (by decide) ?_
    exact J.iret dJ1_indexOfChar_4cfef_32 rfl hp
  | succ j ih =>
    intro k hk post hp
    refine J.iload 9 dJ1_indexOfChar_4cfef_7 rfl rfl ?_
    refine J.iload_n 10 dJ1_indexOfChar_4cfef_9 rfl rfl ?_
    refine J.icmp_ge 31 13 dJ1_indexOfChar_4cfef_10 (by decide) rfl (fun c1 => absurd c1 (nI_ge (b := 11) (a := k) (by omega) (by omega))) (fun _ => ?_)
    refine J.aload_n 14 dJ1_indexOfChar_4cfef_13 rfl rfl ?_
    refine J.iload 16 dJ1_indexOfChar_4cfef_14 rfl rfl ?_
    refine J.strB 17 (vp_in_nI (by omega) (by decide)) dJ1_indexOfChar_4cfef_16 rfl ?_
    rw [nI_clamp (by omega)]
    refine J.iload 19 dJ1_indexOfChar_4cfef_17 rfl rfl ?_
    refine J.icmp_ne 25 22 dJ1_indexOfChar_4cfef_19 (by decide) rfl (fun c2 => ?_) (fun c2 => ?_)
    · refine J.iinc_5 1 28 dJ1_indexOfChar_4cfef_25 rfl (by decide) (by decide) ?_
      refine J.goto 7 dJ1_indexOfChar_4cfef_28 (by decide) ?_
      rw [nI_1]
      exact ih (k + 1) (by omega) post (by rw [nmS, if_neg c2] at hp; exact hp)
    · refine J.iload 24 dJ1_indexOfChar_4cfef_22 rfl rfl ?_
      exact J.iret dJ1_indexOfChar_4cfef_24 rfl (by rw [nmS, if_pos c2] at hp; exact hp)
theorem c_idxC {d : Nat} {G : Nat → Nat} {h : AH} {ch : Int32} : Ct Y_J1_indexOfChar_4cfef d G 0 0 [.ref (G 3), .int ch, .int 0, .int 11] h (fun r h2 => r = some (.int (nmS ch.toInt8.toInt32 11 0)) ∧ h2 = h) := by
  refine Ct.ofn 2 rfl (Nat.le_of_ble_eq_true rfl) (by simp [Value.category]) ?_
  show J Y_J1_indexOfChar_4cfef d G 0 0 0 [some (.ref (G 3)), some (.int ch), some (.int 0), some (.int 11), none, none] [] h _
  refine J.iload_n 1 dJ1_indexOfChar_4cfef_0 rfl rfl ?_
  refine J.i2b 2 dJ1_indexOfChar_4cfef_1 rfl ?_
  refine J.ist_4 4 dJ1_indexOfChar_4cfef_2 rfl (by decide) ?_
  refine J.iload_n 5 dJ1_indexOfChar_4cfef_4 rfl rfl ?_
  refine J.ist_5 7 dJ1_indexOfChar_4cfef_5 rfl (by decide) ?_
  exact c_idxCL 11 0 rfl _ ⟨rfl, rfl⟩
theorem c_canEnc {c : Int32} {d : Nat} : CF Y_J1_canEncode_9a6ad d [.int c] (ib (¬ c < 0 ∧ ¬ 255 < c)) := by
  refine CF.of 0 rfl (Nat.le_of_ble_eq_true rfl) (by simp [Value.category]) ?_
  intro G h post fin
  show J Y_J1_canEncode_9a6ad d G 0 0 0 [some (.int c)] [] h post
  refine J.iload_n 1 dJ1_canEncode_9a6ad_0 rfl rfl ?_
  refine J.if_lt 15 4 dJ1_canEncode_9a6ad_1 (by decide) rfl (fun c1 => ?_) (fun c1 => ?_)
  · skip
    refine J.iconst 0 16 dJ1_canEncode_9a6ad_15 rfl (by decide) ?_
    exact J.zret dJ1_canEncode_9a6ad_16 rfl (Or.inl rfl) (fin _ (by simp [ib, c1, Int32.not_le.mpr c1]))
  · skip
    refine J.iload_n 5 dJ1_canEncode_9a6ad_4 rfl rfl ?_
    refine J.sipush 255 8 dJ1_canEncode_9a6ad_5 rfl (by decide) ?_
    refine J.icmp_gt 15 11 dJ1_canEncode_9a6ad_8 (by decide) rfl (fun c2 => ?_) (fun c2 => ?_)
    · skip
      refine J.iconst 0 16 dJ1_canEncode_9a6ad_15 rfl (by decide) ?_
      exact J.zret dJ1_canEncode_9a6ad_16 rfl (Or.inl rfl) (fin _ (by simp [ib, c1, Int32.not_lt.mp c1, c2, Int32.not_le.mpr c2]))
    · skip
      refine J.iconst 1 12 dJ1_canEncode_9a6ad_11 rfl (by decide) ?_
      refine J.goto 16 dJ1_canEncode_9a6ad_12 (by decide) ?_
      exact J.zret dJ1_canEncode_9a6ad_16 rfl (Or.inr rfl) (fin _ (by simp [ib, c1, Int32.not_lt.mp c1, c2, Int32.not_lt.mp c2]))
def nmX (c : Int32) : Int32 := if ¬ c < 0 ∧ ¬ 255 < c then nmS c.toInt8.toInt32 11 0 else -1
theorem c_idxL {d : Nat} {G : Nat → Nat} {h : AH} {c : Int32} : Ct Y_J1_indexOf_4cfef (d + 1) G 0 0 [.ref (G 3), .int c, .int 0, .int 11] h (fun r h2 => r = some (.int (nmX c)) ∧ h2 = h) := by
  refine Ct.ofn 0 rfl (Nat.le_of_ble_eq_true rfl) (by simp [Value.category]) ?_
  show J Y_J1_indexOf_4cfef (d + 1) G 0 0 0 [some (.ref (G 3)), some (.int c), some (.int 0), some (.int 11)] [] h _
  refine J.iload_n 1 dJ1_indexOf_4cfef_0 rfl rfl ?_
  refine cs_J1_88 rfl 4 (c_canEnc (c := c) _ _) dJ1_indexOf_4cfef_1 rfl rfl rfl (Nat.le_of_ble_eq_true rfl) (Nat.zero_le _) (Nat.zero_le _) (fun r h2 hp => ?_)
  obtain ⟨rfl, rfl⟩ := hp
  refine J.if_ne 9 7 dJ1_indexOf_4cfef_4 (by decide) rfl (fun c1 => ?_) (fun c1 => ?_)
  · refine J.iload_n 10 dJ1_indexOf_4cfef_9 rfl rfl ?_
    refine J.iconst 0 11 dJ1_indexOf_4cfef_10 rfl (by decide) ?_
    refine J.mmax 14 dJ1_indexOf_4cfef_11 rfl wm_505 (Nat.le_of_ble_eq_true rfl) ?_
    refine J.ist_2 15 dJ1_indexOf_4cfef_14 rfl (by decide) ?_
    refine J.iload_n 16 dJ1_indexOf_4cfef_15 rfl rfl ?_
    refine J.aload_n 17 dJ1_indexOf_4cfef_16 rfl rfl ?_
    refine J.strL 18 dJ1_indexOf_4cfef_17 rfl ?_
    refine J.mmin 21 dJ1_indexOf_4cfef_18 rfl wm_506 (Nat.le_of_ble_eq_true rfl) ?_
    refine J.ist_3 22 dJ1_indexOf_4cfef_21 rfl (by decide) ?_
    show J Y_J1_indexOf_4cfef (d + 1) G 0 0 22 [some (.ref (G 3)), some (.int c), some (.int 0), some (.int 11)] [] _ _
    refine J.iload_n 23 dJ1_indexOf_4cfef_22 rfl rfl ?_
    refine J.iload_n 24 dJ1_indexOf_4cfef_23 rfl rfl ?_
    refine J.icmp_lt 29 27 dJ1_indexOf_4cfef_24 (by decide) rfl (fun _ => ?_) (fun c2 => absurd (by decide) c2)
    refine J.aload_n 30 dJ1_indexOf_4cfef_29 rfl rfl ?_
    refine J.iload_n 31 dJ1_indexOf_4cfef_30 rfl rfl ?_
    refine J.iload_n 32 dJ1_indexOf_4cfef_31 rfl rfl ?_
    refine J.iload_n 33 dJ1_indexOf_4cfef_32 rfl rfl ?_
    refine cs_J1_95 rfl 36 (c_idxC (ch := c)) dJ1_indexOf_4cfef_33 rfl rfl rfl (Nat.le_of_ble_eq_true rfl) (Nat.zero_le _) (Nat.zero_le _) (fun r h2 hp => ?_)
    obtain ⟨rfl, rfl⟩ := hp
    exact J.iret dJ1_indexOf_4cfef_36 rfl ⟨by rw [nmX, if_pos (ib_n.mp c1)], rfl⟩
  · refine J.iconst (-1) 8 dJ1_indexOf_4cfef_7 rfl (by decide) ?_
    exact J.iret dJ1_indexOf_4cfef_8 rfl ⟨by rw [nmX, if_neg (ib_0.mp c1)], rfl⟩
theorem c_idx2 {d : Nat} {G : Nat → Nat} {h : AH} {c : Int32} : Ct Y_J0_indexOf_7cf53 (d + 2) G 0 0 [.ref (G 2), .int c, .int 0] h (fun r h2 => r = some (.int (nmX c)) ∧ h2 = h) := by
  refine Ct.ofn 0 rfl (Nat.le_of_ble_eq_true rfl) (by simp [Value.category]) ?_
  show J Y_J0_indexOf_7cf53 (d + 2) G 0 0 0 [some (.ref (G 2)), some (.int c), some (.int 0)] [] h _
  refine J.aload_n 1 dJ0_indexOf_7cf53_0 rfl rfl ?_
  refine J.callT (n := 0) (av := []) (rest := []) 4 c_latin dJ0_indexOf_7cf53_1 rfl wm_485 wm_486 wm_487 wm_19 wm_488 (by unfold jdesc; decide +kernel) (by decide) rfl rfl (Nat.le_of_ble_eq_true rfl) (Nat.zero_le _) (Nat.zero_le _) (fun r h2 hp => ?_)
  obtain ⟨rfl, rfl⟩ := hp
  refine J.if_eq 23 7 dJ0_indexOf_7cf53_4 (by decide) rfl (fun c1 => absurd c1 (by decide)) (fun _ => ?_)
  refine J.aload_n 8 dJ0_indexOf_7cf53_7 rfl rfl ?_
  refine J.strV 11 wm_1399 rfl dJ0_indexOf_7cf53_8 rfl ?_
  refine J.iload_n 12 dJ0_indexOf_7cf53_11 rfl rfl ?_
  refine J.iload_n 13 dJ0_indexOf_7cf53_12 rfl rfl ?_
  refine J.aload_n 14 dJ0_indexOf_7cf53_13 rfl rfl ?_
  refine J.callT (n := 0) (av := []) (rest := [.int 0, .int c, .ref (G 3)]) 17 (c_slen (d := d)) dJ0_indexOf_7cf53_14 rfl wm_491 wm_492 wm_493 wm_19 wm_494 (by unfold jdesc; decide +kernel) (by decide) rfl rfl (Nat.le_of_ble_eq_true rfl) (Nat.zero_le _) (Nat.zero_le _) (fun r h2 hp => ?_)
  obtain ⟨rfl, rfl⟩ := hp
  refine cs_J0_637 rfl 20 (c_idxL (d := d) (c := c)) dJ0_indexOf_7cf53_17 rfl rfl rfl (Nat.le_of_ble_eq_true rfl) (Nat.zero_le _) (Nat.zero_le _) (fun r h2 hp => ?_)
  obtain ⟨rfl, rfl⟩ := hp
  refine J.goto 36 dJ0_indexOf_7cf53_20 (by decide) ?_
  exact J.iret dJ0_indexOf_7cf53_36 rfl ⟨rfl, rfl⟩
theorem c_idx1 {d : Nat} {G : Nat → Nat} {h : AH} {c : Int32} : Ct Y_J0_indexOf_0f7a4 (d + 3) G 0 0 [.ref (G 2), .int c] h (fun r h2 => r = some (.int (nmX c)) ∧ h2 = h) := by
  refine Ct.ofn 0 rfl (Nat.le_of_ble_eq_true rfl) (by simp [Value.category]) ?_
  show J Y_J0_indexOf_0f7a4 (d + 3) G 0 0 0 [some (.ref (G 2)), some (.int c)] [] h _
  refine J.aload_n 1 dJ0_indexOf_0f7a4_0 rfl rfl ?_
  refine J.iload_n 2 dJ0_indexOf_0f7a4_1 rfl rfl ?_
  refine J.iconst 0 3 dJ0_indexOf_0f7a4_2 rfl (by decide) ?_
  refine J.callT (n := 2) (av := [.int c, .int 0]) (rest := []) 6 (c_idx2 (d := d) (c := c)) dJ0_indexOf_0f7a4_3 rfl wm_481 wm_482 wm_483 wm_19 wm_484 (by unfold jdesc; decide +kernel) (by decide) rfl rfl (Nat.le_of_ble_eq_true rfl) (Nat.zero_le _) (Nat.zero_le _) (fun r h2 hp => ?_)
  obtain ⟨rfl, rfl⟩ := hp
  exact J.iret dJ0_indexOf_0f7a4_6 rfl ⟨rfl, rfl⟩
