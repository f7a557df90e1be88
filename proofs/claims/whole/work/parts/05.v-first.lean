theorem c_hour_in {t : Int32} : vp_in (c_hour t) 12 := by
  have h11 : (if t / 60 < 11 then t / 60 else 11) ≤ 11 := by
    split
    · exact Int32.le_of_lt (by assumption)
    · exact Int32.le_refl _
  rw [c_hour]
  by_cases hp : 0 < (if t / 60 < 11 then t / 60 else 11)
  · rw [if_pos hp]
    obtain ⟨j, hj, e⟩ := nI_of2 (M := 11) (n := 11) (by decide) (Int32.not_lt.mpr (Int32.le_of_lt hp)) h11
    rw [e]
    exact vp_in_nI (by omega) (by decide)
  · rw [if_neg hp]
    exact vp_in_nI (n := 0) (by decide) (by decide)
theorem nI_div60 {q : Nat} (h : q ≤ 100000) : nI q / 60 = nI (q / 60) := by
  apply Int32.toInt_inj.mp
  rw [Int32.toInt_div, nI_toInt (by omega), nI_toInt (by omega), show ((60 : Int32).toInt) = 60 from by decide, Int.tdiv_eq_ediv_of_nonneg (by omega), Int.bmod_eq_of_le (by omega) (by omega)]
  omega
def a_nxt (am ah t : Int32) : Int32 := if am = 0 then (if ah = 0 then 721 else (t / 60 + 1) * 60) else t + 1
theorem nx_q {am ah : Int32} {q : Nat} (h : q ≤ 720) : ∃ q2, q < q2 ∧ q2 ≤ 1500 ∧ (if nI q + 1 < a_nxt am ah (nI q) then a_nxt am ah (nI q) else nI q + 1) = nI q2 := by
  have key : ∃ z, z ≤ 1500 ∧ a_nxt am ah (nI q) = nI z := by
    rw [a_nxt]
    split
    · split
      · exact ⟨721, by omega, rfl⟩
      · refine ⟨(q / 60 + 1) * 60, by omega, ?_⟩
        rw [nI_div60 (by omega), nI_1, show (60 : Int32) = nI 60 from rfl]
        exact (Int32.ofNat_mul _ _).symm
    · exact ⟨q + 1, by omega, nI_1 q⟩
  obtain ⟨z, hz, e⟩ := key
  rw [e, nI_1]
  by_cases hlt : q + 1 < z
  · exact ⟨z, by omega, hz, if_pos (nI_lt hlt (by omega))⟩
  · exact ⟨q + 1, by omega, by omega, if_neg (nI_nlt (by omega) (by omega))⟩
theorem fb_in {X : MS} : ∀ (j k : Nat), fbN X j k = -1 ∨ ∃ i, k ≤ i ∧ i < k + j ∧ fbN X j k = nI i
  | 0, k => Or.inl rfl
  | j + 1, k => by
    rw [fbN]
    by_cases e : evC X k = 0
    · rw [if_pos e]
      exact Or.inr ⟨k, Nat.le_refl _, by omega, rfl⟩
    · rw [if_neg e]
      rcases fb_in j (k + 1) with h | ⟨i, h1, h2, h3⟩
      · exact Or.inl h
      · exact Or.inr ⟨i, by omega, by omega, h3⟩
def xT (X Y : MS) : Prop := (∀ k, k ≠ 0 → Y.1 k = X.1 k) ∧ (∀ k, k ≠ 1 → k ≠ 2 → Y.2 k = X.2 k) ∧ ∀ j, 5 ≤ j → Y.2 1 j = X.2 1 j
theorem xT.refl {X : MS} : xT X X := ⟨fun _ _ => rfl, fun _ _ _ => rfl, fun _ _ => rfl⟩
theorem x_time_r {S X : MS} {t : Int32} (k : Nat) (h : k ≠ 1) : (x_time S X t).2 k = X.2 k := by
  simp only [x_time, u2_n h]
theorem x_time_5 {S X : MS} {t : Int32} (j : Nat) (h : 5 ≤ j) : (x_time S X t).2 1 j = X.2 1 j := by
  simp only [x_time, u2_s]
  rw [pk_un (by omega), pk_un (by omega), pk_un (by omega), pk_un (by omega), pk_un (by omega)]
theorem xT.time {S X Y : MS} {t : Int32} (h : xT X Y) : xR (x_time S X t) (x_time S Y t) := by
  refine ⟨h.1, fun k hk => ?_⟩
  by_cases e : k = 1
  · subst e
    funext j
    by_cases h5 : 5 ≤ j
    · rw [x_time_5 j h5, x_time_5 j h5]
      exact h.2.2 j h5
    · simp only [x_time, u2_s]
      match j with
      | 0 => simp [upd]
      | 1 => simp [upd]
      | 2 => simp [upd]
      | 3 => simp [upd]
      | 4 => simp [upd]
      | n + 5 => omega
  · rw [x_time_r k e, x_time_r k e]
    exact h.2.1 k e hk
theorem xT.next {S X Y : MS} {t : Int32} (h : xR (x_time S X t) Y) : xT X Y :=
  ⟨fun k hk => h.1 k hk, fun k k1 k2 => (h.2 k k2).trans (x_time_r k k1), fun j hj => (congrFun (h.2 1 (by decide)) j).trans (x_time_5 j hj)⟩
/-- the rule that is asked first, if it does not hold; else the first that does not -/
def nbF (X : MS) (n : Nat) (br : Int32) : Int32 := if br < 0 then fbN X n 0 else if evC X br.toNatClampNeg = 0 then br else fbN X n 0
def brOK (br : Int32) (n : Nat) : Prop := br = -1 ∨ ∃ i, i < n ∧ br = nI i
theorem nb_in {X : MS} {n : Nat} {br : Int32} (h : brOK br n) : brOK (nbF X n br) n := by
  have hf : brOK (fbN X n 0) n := by
    rcases fb_in (X := X) n 0 with e | ⟨i, i1, i2, i3⟩
    · exact Or.inl e
    · exact Or.inr ⟨i, by omega, i3⟩
  rw [nbF]
  split
  · exact hf
  · split
    · exact h
    · exact hf
def fmF (S X : MS) (n : Nat) (la : Int32) : Nat → Int32 → Int32 → Int32
  | 0, _, _ => -1
  | f + 1, br, t => if la < t then -1 else if nbF (x_time S X t) n br < 0 then t else fmF S X n la f (nbF (x_time S X t) n br) (if t + 1 < a_nxt (X.2 9 (nbF (x_time S X t) n br).toNatClampNeg) (X.2 10 (nbF (x_time S X t) n br).toNatClampNeg) t then a_nxt (X.2 9 (nbF (x_time S X t) n br).toNatClampNeg) (X.2 10 (nbF (x_time S X t) n br).toNatClampNeg) t else t + 1)
theorem c_next {G : Nat → Nat} {O : Nat → Prop} {ad : Nat → Nat → Nat} {S X : MS} {L : Nat → List Nat} {wn : Nat → Option Nat} {sl : Nat → Nat} {fl : Nat} {h : AH} {d : Nat} {i : Nat} {t : Int32} (hK : KR G O ad S X L wn sl fl h) (hi : i < (L 6).length) : Ct Y_X7_nextChange d G 0 0 [.ref (ad 8 i), .int t] h (fun r h2 => r = some (.int (a_nxt (X.2 9 i) (X.2 10 i) t)) ∧ h2 = h) := by
  refine Ct.ofn 0 rfl (Nat.le_of_ble_eq_true rfl) (by simp [Value.category]) ?_
  generalize hpost : (fun (r : Option Value) (h2 : AH) => r = some (.int (a_nxt (X.2 9 i) (X.2 10 i) t)) ∧ h2 = h) = post
  show J Y_X7_nextChange d G 0 0 0 [some (.ref (ad 8 i)), some (.int t)] [] h post
  refine J.aload_n 1 dX7_nextChange_0 rfl rfl ?_
  refine gf_X7_29 rfl 4 dX7_nextChange_1 rfl (hK.rule hi) (v := .int (X.2 9 i)) rfl ?_
  refine J.if_eq 11 7 dX7_nextChange_4 (by decide) rfl (fun c1 => ?_) (fun c1 => ?_)
  · skip
    refine J.aload_n 12 dX7_nextChange_11 rfl rfl ?_
    refine gf_X7_33 rfl 15 dX7_nextChange_12 rfl (hK.rule hi) (v := .int (X.2 10 i)) rfl ?_
    refine J.if_eq 30 18 dX7_nextChange_15 (by decide) rfl (fun c2 => ?_) (fun c2 => ?_)
    · skip
      refine J.sipush 721 33 dX7_nextChange_30 rfl (by decide) ?_
      exact J.iret dX7_nextChange_33 rfl (by rw [← hpost]; exact ⟨by rw [a_nxt, if_pos c1, if_pos c2], rfl⟩)
    · skip
      refine J.iload_n 19 dX7_nextChange_18 rfl rfl ?_
      refine J.bipush 60 21 dX7_nextChange_19 rfl (by decide) ?_
      refine J.idiv 22 dX7_nextChange_21 rfl (by decide) ?_
      refine J.iconst 1 23 dX7_nextChange_22 rfl (by decide) ?_
      refine J.iadd 24 dX7_nextChange_23 rfl ?_
      refine J.bipush 60 26 dX7_nextChange_24 rfl (by decide) ?_
      refine J.imul 27 dX7_nextChange_26 rfl ?_
      refine J.goto 33 dX7_nextChange_27 (by decide) ?_
      exact J.iret dX7_nextChange_33 rfl (by rw [← hpost]; exact ⟨by rw [a_nxt, if_pos c1, if_neg c2], rfl⟩)
  · skip
    refine J.iload_n 8 dX7_nextChange_7 rfl rfl ?_
    refine J.iconst 1 9 dX7_nextChange_8 rfl (by decide) ?_
    refine J.iadd 10 dX7_nextChange_9 rfl ?_
    exact J.iret dX7_nextChange_10 rfl (by rw [← hpost]; exact ⟨by rw [a_nxt, if_neg c1], rfl⟩)
theorem c_fmL {G : Nat → Nat} {O : Nat → Prop} {ad : Nat → Nat → Nat} {S X : MS} {L : Nat → List Nat} {wn : Nat → Option Nat} {sl : Nat → Nat} {fl : Nat} {h0 : AH} {d : Nat} {fr la : Int32} (h6r : L 6 = List.range (L 6).length) (hb6 : (L 6).length ≤ 10) (hru : ∀ i, i < (L 6).length → ruOK X sl i) (hla : la ≤ 720) : ∀ (j q : Nat) (br : Int32) (Xx : MS) (h : AH), q ≤ 1500 → 2000 ≤ q + j → brOK br (L 6).length → xT X Xx → KR G O ad S Xx L wn sl fl h → KF O h0 h → ∀ post, (fun (r : Option Value) (h2 : AH) => r = some (.int (fmF S X (L 6).length la j br (nI q))) ∧ ∃ X2, xT X X2 ∧ KR G O ad S X2 L wn sl fl h2 ∧ KF O h0 h2) = post → J Y_X8_firstMinute (d + 4) G 0 0 6 [some (.ref (ad 12 0)), some (.ref (ad 10 0)), some (.int fr), some (.int la), some (.int (nI q)), some (.int br)] [] h post := by
  intro j
  induction j with
  | zero => intro q br Xx h h1 h2; omega
  | succ j ih =>
    intro q br Xx h hq hj hbr hx hK hF post hpost
    have tail : ∀ (bv : Int32) (X2 : MS) (h : AH), ¬ la < nI q → nbF (x_time S X (nI q)) (L 6).length br = bv → xR (x_time S X (nI q)) X2 → KR G O ad S X2 L wn sl fl h → KF O h0 h → J Y_X8_firstMinute (d + 4) G 0 0 49 [some (.ref (ad 12 0)), some (.ref (ad 10 0)), some (.int fr), some (.int la), some (.int (nI q)), some (.int bv)] [] h post := by
      intro bv X2 h h1 ebv hx2 hK hF
      have hq7 : q ≤ 720 := (nI_leI (b := 720) (by omega) (by decide)).mp (Int32.le_trans (Int32.not_lt.mp h1) hla)
      refine J.iload 51 dX8_firstMinute_49 rfl rfl ?_
      refine J.if_ge 57 54 dX8_firstMinute_51 (by decide) rfl (fun c1 => ?_) (fun c1 => ?_)
      · skip
        have hneg : ¬ bv < 0 := Int32.not_lt.mpr c1
        obtain ⟨b, hb, eb⟩ : ∃ b, b < (L 6).length ∧ bv = nI b := (show brOK bv (L 6).length by rw [← ebv]; exact nb_in hbr).resolve_left (fun z => hneg (by rw [z]; decide))
        subst eb
        obtain ⟨q2, g1, g2, g3⟩ := nx_q (am := X.2 9 b) (ah := X.2 10 b) hq7
        refine J.iload 59 dX8_firstMinute_57 rfl rfl ?_
        refine J.iconst 1 60 dX8_firstMinute_59 rfl (by decide) ?_
        refine J.iadd 61 dX8_firstMinute_60 rfl ?_
        refine J.aload_n 62 dX8_firstMinute_61 rfl rfl ?_
        refine gf_X8_12 rfl 65 dX8_firstMinute_62 rfl (hK.book) (v := .ref (ad 1 6)) rfl ?_
        refine J.iload 67 dX8_firstMinute_65 rfl rfl ?_
        have kg := hK.get (d := d + 1) (r := 6) (i := b) (by omega) (rng_get h6r hb)
        refine cv_X8_65 rfl 70 kg dX8_firstMinute_67 rfl (hK.listOb (r := 6) (by omega)).choose_spec rfl rfl (Nat.le_of_ble_eq_true rfl) (Nat.zero_le _) (Nat.zero_le _) (fun r h2 hp => ?_)
        obtain ⟨rfl, rfl⟩ := hp
        refine cc_X8_69 rfl 73 dX8_firstMinute_70 rfl (hK.rule hb) ?_
        refine J.iload 75 dX8_firstMinute_73 rfl rfl ?_
        have kx := c_next (d := d + 3) (i := b) (t := nI q) hK hb
        rw [hx2.2 9 (by decide), hx2.2 10 (by decide), x_time_r 9 (by decide), x_time_r 10 (by decide)] at kx
        refine cv_X8_82 rfl 78 kx dX8_firstMinute_75 rfl (hK.rule hb) rfl rfl (Nat.le_of_ble_eq_true rfl) (Nat.zero_le _) (Nat.zero_le _) (fun r h2 hp => ?_)
        obtain ⟨rfl, rfl⟩ := hp
        refine J.mmax 81 dX8_firstMinute_78 rfl wm_960 (Nat.le_of_ble_eq_true rfl) ?_
        refine J.ist_4 83 dX8_firstMinute_81 rfl (by decide) ?_
        refine J.goto 6 dX8_firstMinute_83 (by decide) ?_
        rw [g3]
        exact ih q2 (nI b) X2 _ (by omega) (by omega) (Or.inr ⟨b, hb, rfl⟩) (xT.next hx2) hK hF post (by rw [← hpost, fmF, if_neg h1, ebv, if_neg hneg, nI_clamp (by omega), g3])
      · skip
        have hneg : bv < 0 := Int32.not_le.mp c1
        refine J.iload 56 dX8_firstMinute_54 rfl rfl ?_
        exact J.iret dX8_firstMinute_56 rfl (by rw [← hpost]; exact ⟨by rw [fmF, if_neg h1, ebv, if_pos hneg], _, xT.next hx2, hK, hF⟩)
    refine J.iload 8 dX8_firstMinute_6 rfl rfl ?_
    refine J.iload_n 9 dX8_firstMinute_8 rfl rfl ?_
    refine J.icmp_gt 86 12 dX8_firstMinute_9 (by decide) rfl (fun c1 => ?_) (fun c1 => ?_)
    · skip
      have h1 := c1
      refine J.iconst (-1) 87 dX8_firstMinute_86 rfl (by decide) ?_
      exact J.iret dX8_firstMinute_87 rfl (by rw [← hpost]; exact ⟨by rw [fmF, if_pos h1], _, hx, hK, hF⟩)
    · skip
      have h1 := c1
      refine J.aload_n 13 dX8_firstMinute_12 rfl rfl ?_
      refine J.aload_n 14 dX8_firstMinute_13 rfl rfl ?_
      refine J.iload 16 dX8_firstMinute_14 rfl rfl ?_
      refine cv_X8_75 rfl 19 (c_setTime (h0 := h0) (t := nI q) hK hF c_hour_in) dX8_firstMinute_16 rfl (hK.book) rfl rfl (Nat.le_of_ble_eq_true rfl) (Nat.zero_le _) (Nat.zero_le _) (fun r h hp => ?_)
      obtain ⟨rfl, hK, hF⟩ := hp
      refine J.iload 21 dX8_firstMinute_19 rfl rfl ?_
      refine J.if_lt 43 24 dX8_firstMinute_21 (by decide) rfl (fun c2 => ?_) (fun c2 => ?_)
      · skip
        have hb0 := c2
        refine J.aload_n 44 dX8_firstMinute_43 rfl rfl ?_
        refine cv_X8_79 rfl 47 (c_firstBroken (h0 := h0) (X0 := x_time S X (nI q)) hK hF (xT.time hx) h6r hb6 (fun i hi => ruOK_names (hru i hi) (fun k k1 _ => x_time_r k k1))) dX8_firstMinute_44 rfl (hK.book) rfl rfl (Nat.le_of_ble_eq_true rfl) (Nat.zero_le _) (Nat.zero_le _) (fun r h hp => ?_)
        obtain ⟨rfl, X2, hx2, hK, hF⟩ := hp
        refine J.ist_5 49 dX8_firstMinute_47 rfl (by decide) ?_
        exact tail _ X2 _ h1 (by rw [nbF, if_pos hb0]) hx2 hK hF
      · skip
        have hb0 := c2
        obtain ⟨bi, hbi, ebr⟩ : ∃ i, i < (L 6).length ∧ br = nI i := hbr.resolve_left (fun z => c2 (by rw [z]; decide))
        subst ebr
        refine J.aload_n 25 dX8_firstMinute_24 rfl rfl ?_
        refine J.aload_n 26 dX8_firstMinute_25 rfl rfl ?_
        refine gf_X8_12 rfl 29 dX8_firstMinute_26 rfl (hK.book) (v := .ref (ad 1 6)) rfl ?_
        refine J.iload 31 dX8_firstMinute_29 rfl rfl ?_
        have kg := hK.get (d := d + 1) (r := 6) (i := bi) (by omega) (rng_get h6r hbi)
        refine cv_X8_65 rfl 34 kg dX8_firstMinute_31 rfl (hK.listOb (r := 6) (by omega)).choose_spec rfl rfl (Nat.le_of_ble_eq_true rfl) (Nat.zero_le _) (Nat.zero_le _) (fun r h2 hp => ?_)
        obtain ⟨rfl, rfl⟩ := hp
        refine cc_X8_69 rfl 37 dX8_firstMinute_34 rfl (hK.rule hbi) ?_
        obtain ⟨r1, r2, r3, r4⟩ := (show ruOK (x_time S X (nI q)) sl bi from ruOK_names (hru bi hbi) (fun k k1 _ => x_time_r k k1))
        refine cv_X8_71 rfl 40 (c_workOut (d := d + 2) (h0 := h0) (X0 := x_time S X (nI q)) (i := bi) (q := szn (x_time S X (nI q)) bi) hK hF (xT.time hx) hbi r1 r2 r3 r4) dX8_firstMinute_37 rfl (hK.book) rfl rfl (Nat.le_of_ble_eq_true rfl) (Nat.zero_le _) (Nat.zero_le _) (fun r h hp => ?_)
        obtain ⟨rfl, X1, hx1, hK, hF⟩ := hp
        refine J.if_eq 49 43 dX8_firstMinute_40 (by decide) rfl (fun c3 => ?_) (fun c3 => ?_)
        · skip
          have hev : evC (x_time S X (nI q)) bi = 0 := c3
          exact tail _ X1 _ h1 (by rw [nbF, if_neg hb0, nI_clamp (by omega), if_pos hev]) hx1 hK hF
        · skip
          have hev : ¬ evC (x_time S X (nI q)) bi = 0 := c3
          refine J.aload_n 44 dX8_firstMinute_43 rfl rfl ?_
          refine cv_X8_79 rfl 47 (c_firstBroken (h0 := h0) (X0 := x_time S X (nI q)) hK hF hx1 h6r hb6 (fun i hi => ruOK_names (hru i hi) (fun k k1 _ => x_time_r k k1))) dX8_firstMinute_44 rfl (hK.book) rfl rfl (Nat.le_of_ble_eq_true rfl) (Nat.zero_le _) (Nat.zero_le _) (fun r h hp => ?_)
          obtain ⟨rfl, X2, hx2, hK, hF⟩ := hp
          refine J.ist_5 49 dX8_firstMinute_47 rfl (by decide) ?_
          exact tail _ X2 _ h1 (by rw [nbF, if_neg hb0, nI_clamp (by omega), if_neg hev]) hx2 hK hF
theorem c_firstMinute {G : Nat → Nat} {O : Nat → Prop} {ad : Nat → Nat → Nat} {S X : MS} {L : Nat → List Nat} {wn : Nat → Option Nat} {sl : Nat → Nat} {fl : Nat} {h h0 : AH} {d : Nat} {q : Nat} {la : Int32} (hK : KR G O ad S X L wn sl fl h) (hF : KF O h0 h) (h6r : L 6 = List.range (L 6).length) (hb6 : (L 6).length ≤ 10) (hru : ∀ i, i < (L 6).length → ruOK X sl i) (hla : la ≤ 720) (hq : q ≤ 1500) : Ct Y_X8_firstMinute (d + 4) G 0 0 [.ref (ad 12 0), .ref (ad 10 0), .int (nI q), .int la] h (fun r h2 => r = some (.int (fmF S X (L 6).length la 2000 (-1) (nI q))) ∧ ∃ X2, xT X X2 ∧ KR G O ad S X2 L wn sl fl h2 ∧ KF O h0 h2) := by
  refine Ct.ofn 2 rfl (Nat.le_of_ble_eq_true rfl) (by simp [Value.category]) ?_
  generalize hpost : (fun (r : Option Value) (h2 : AH) => r = some (.int (fmF S X (L 6).length la 2000 (-1) (nI q))) ∧ ∃ X2, xT X X2 ∧ KR G O ad S X2 L wn sl fl h2 ∧ KF O h0 h2) = post
  show J Y_X8_firstMinute (d + 4) G 0 0 0 [some (.ref (ad 12 0)), some (.ref (ad 10 0)), some (.int (nI q)), some (.int la), none, none] [] h post
  refine J.iload_n 1 dX8_firstMinute_0 rfl rfl ?_
  refine J.ist_4 3 dX8_firstMinute_1 rfl (by decide) ?_
  refine J.iconst (-1) 4 dX8_firstMinute_3 rfl (by decide) ?_
  refine J.ist_5 6 dX8_firstMinute_4 rfl (by decide) ?_
  exact c_fmL h6r hb6 hru hla 2000 q (-1) X h hq (by omega) (Or.inl rfl) xT.refl hK hF post hpost
