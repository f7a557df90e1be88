section JA2
variable {Y : YM} {d kc ks pc : Nat} {G : Nat → Nat} {lv : List (Option Value)} {st : List Value} {h : AH} {post : Option Value → AH → Prop}
theorem J.iald2 {a n : Nat} {f : Nat → Int32} {i : Int32} (j : Nat) (hj : i.toNatClampNeg = j) {x : Int32} (hv : f j = x) (pn : Nat) (hd : decode Y.2.1 pc = .ok (.iaload, 1)) (hn : pc + 1 = pn) (ha : h a = some (Ai n f)) (hin : vp_in i n) (kk : J Y d G kc ks pn lv (.int x :: st) h post) : J Y d G kc ks pc lv (.int i :: .ref a :: st) h post := by
  subst hj
  subst hv
  exact J.iald pn hd hn ha hin kk
theorem J.zald2 {a n : Nat} {f : Nat → Int32} {i : Int32} (j : Nat) (hj : i.toNatClampNeg = j) {x : Int32} (hv : f j = x) (pn : Nat) (hd : decode Y.2.1 pc = .ok (.baload, 1)) (hn : pc + 1 = pn) (ha : h a = some (Az n f)) (hin : vp_in i n) (kk : J Y d G kc ks pn lv (.int x :: st) h post) : J Y d G kc ks pc lv (.int i :: .ref a :: st) h post := by
  subst hj
  subst hv
  exact J.zald pn hd hn ha hin kk
theorem J.iast2 {a n : Nat} {f : Nat → Int32} {i x : Int32} (j : Nat) (hj : i.toNatClampNeg = j) (pn : Nat) (hd : decode Y.2.1 pc = .ok (.iastore, 1)) (hn : pc + 1 = pn) (ha : h a = some (Ai n f)) (hin : vp_in i n) (kk : J Y d G kc ks pn lv st (hu h a (Ai n (upd f j x))) post) : J Y d G kc ks pc lv (.int x :: .int i :: .ref a :: st) h post := by
  subst hj
  exact J.iast pn hd hn ha hin kk
theorem J.zast2 {a n : Nat} {f : Nat → Int32} {i x : Int32} (j : Nat) (hj : i.toNatClampNeg = j) (hx : x = 0 ∨ x = 1) (pn : Nat) (hd : decode Y.2.1 pc = .ok (.bastore, 1)) (hn : pc + 1 = pn) (ha : h a = some (Az n f)) (hin : vp_in i n) (kk : J Y d G kc ks pn lv st (hu h a (Az n (upd f j x))) post) : J Y d G kc ks pc lv (.int x :: .int i :: .ref a :: st) h post := by
  subst hj
  refine J.zast pn hd hn ha hin ?_
  have e : vp_nar .boolean x = x := by rcases hx with rfl | rfl <;> rfl
  rw [e]
  exact kk
end JA2
theorem lt1 {n : Nat} (h : n ≤ 100000) (m : Int32) : m ≤ nI n - 1 ↔ m < nI n := by
  rw [Int32.le_iff_toInt_le, Int32.lt_iff_toInt_lt, nI_toInt (by omega)]
  have e : (nI n - 1).toInt = (n : Int) - 1 := by
    cases n with
    | zero => decide
    | succ k =>
      rw [nI_pred, nI_toInt (by omega)]
      omega
  rw [e]
  omega
theorem lt1b {n : Nat} (h : n ≤ 100000) (m : Int32) : (0 ≤ m ∧ m ≤ nI n - 1) ↔ (0 ≤ m ∧ m < nI n) := by rw [lt1 h]
theorem c_isWithin {v a b : Int32} {d : Nat} : CF Y_X11_isWithin d [.int v, .int a, .int b] (ib (a ≤ v ∧ v ≤ b)) := by
  refine CF.of 0 rfl (Nat.le_of_ble_eq_true rfl) (by simp [Value.category]) ?_
  intro G h post fin
  show J Y_X11_isWithin d G 0 0 0 [some (.int v), some (.int a), some (.int b)] [] h post
  refine J.iload_n 1 dX11_isWithin_0 rfl rfl ?_
  refine J.iload_n 2 dX11_isWithin_1 rfl rfl ?_
  refine J.icmp_lt 14 5 dX11_isWithin_2 (by decide) rfl (fun c1 => ?_) (fun c1 => ?_)
  · skip
    refine J.iconst 0 15 dX11_isWithin_14 rfl (by decide) ?_
    exact J.zret dX11_isWithin_15 rfl (Or.inl rfl) (fin _ (by simp [ib, c1, Int32.not_le.mpr c1]))
  · skip
    refine J.iload_n 6 dX11_isWithin_5 rfl rfl ?_
    refine J.iload_n 7 dX11_isWithin_6 rfl rfl ?_
    refine J.icmp_gt 14 10 dX11_isWithin_7 (by decide) rfl (fun c2 => ?_) (fun c2 => ?_)
    · skip
      refine J.iconst 0 15 dX11_isWithin_14 rfl (by decide) ?_
      exact J.zret dX11_isWithin_15 rfl (Or.inl rfl) (fin _ (by simp [ib, c1, Int32.not_lt.mp c1, c2, Int32.not_le.mpr c2]))
    · skip
      refine J.iconst 1 11 dX11_isWithin_10 rfl (by decide) ?_
      refine J.goto 15 dX11_isWithin_11 (by decide) ?_
      exact J.zret dX11_isWithin_15 rfl (Or.inr rfl) (fin _ (by simp [ib, c1, Int32.not_lt.mp c1, c2, Int32.not_lt.mp c2]))
theorem c_isMachine {G : Nat → Nat} {O : Nat → Prop} {ad : Nat → Nat → Nat} {S X : MS} {L : Nat → List Nat} {wn : Nat → Option Nat} {sl : Nat → Nat} {fl : Nat} {h : AH} {d : Nat} {m : Int32} (hK : KR G O ad S X L wn sl fl h) (hb : (L 1).length ≤ 4) : Ct Y_X11_isMachine (d + 1) G 0 0 [.ref (ad 0 0), .int m] h (fun r h2 => r = some (.int (ib (0 ≤ m ∧ m < nI (L 1).length))) ∧ h2 = h) := by
  refine Ct.ofn 0 rfl (Nat.le_of_ble_eq_true rfl) (by simp [Value.category]) ?_
  generalize hpost : (fun (r : Option Value) (h2 : AH) => r = some (.int (ib (0 ≤ m ∧ m < nI (L 1).length))) ∧ h2 = h) = post
  show J Y_X11_isMachine (d + 1) G 0 0 0 [some (.ref (ad 0 0)), some (.int m)] [] h post
  refine J.iload_n 1 dX11_isMachine_0 rfl rfl ?_
  refine J.iconst 0 2 dX11_isMachine_1 rfl (by decide) ?_
  refine J.aload_n 3 dX11_isMachine_2 rfl rfl ?_
  refine gf_X11_16 rfl 6 dX11_isMachine_3 rfl (hK.hut) (v := .ref (ad 1 1)) rfl ?_
  refine cv_X11_79 rfl 9 (hK.size (by omega)) dX11_isMachine_6 rfl (hK.listOb (by omega)).choose_spec rfl rfl (Nat.le_of_ble_eq_true rfl) (Nat.zero_le _) (Nat.zero_le _) (fun r h2 hp => ?_)
  obtain ⟨rfl, rfl⟩ := hp
  refine J.iconst 1 10 dX11_isMachine_9 rfl (by decide) ?_
  refine J.isub 11 dX11_isMachine_10 rfl ?_
  refine cs_X11_75 rfl 14 (c_isWithin (v := m) (a := 0) (b := (nI (L 1).length) - 1) _ _) dX11_isMachine_11 rfl rfl rfl (Nat.le_of_ble_eq_true rfl) (Nat.zero_le _) (Nat.zero_le _) (fun r h2 hp => ?_)
  obtain ⟨rfl, rfl⟩ := hp
  exact J.zret dX11_isMachine_14 rfl ib_01 (by rw [← hpost]; exact ⟨by simp only [ib, lt1b (show (L 1).length ≤ 100000 by omega)], rfl⟩)
theorem c_isPilot {G : Nat → Nat} {O : Nat → Prop} {ad : Nat → Nat → Nat} {S X : MS} {L : Nat → List Nat} {wn : Nat → Option Nat} {sl : Nat → Nat} {fl : Nat} {h : AH} {d : Nat} {p : Int32} (hK : KR G O ad S X L wn sl fl h) (hb : (L 2).length ≤ 6) : Ct Y_X11_isPilot (d + 1) G 0 0 [.ref (ad 0 0), .int p] h (fun r h2 => r = some (.int (ib (0 ≤ p ∧ p < nI (L 2).length))) ∧ h2 = h) := by
  refine Ct.ofn 0 rfl (Nat.le_of_ble_eq_true rfl) (by simp [Value.category]) ?_
  generalize hpost : (fun (r : Option Value) (h2 : AH) => r = some (.int (ib (0 ≤ p ∧ p < nI (L 2).length))) ∧ h2 = h) = post
  show J Y_X11_isPilot (d + 1) G 0 0 0 [some (.ref (ad 0 0)), some (.int p)] [] h post
  refine J.iload_n 1 dX11_isPilot_0 rfl rfl ?_
  refine J.iconst 0 2 dX11_isPilot_1 rfl (by decide) ?_
  refine J.aload_n 3 dX11_isPilot_2 rfl rfl ?_
  refine gf_X11_19 rfl 6 dX11_isPilot_3 rfl (hK.hut) (v := .ref (ad 1 2)) rfl ?_
  refine cv_X11_79 rfl 9 (hK.size (by omega)) dX11_isPilot_6 rfl (hK.listOb (by omega)).choose_spec rfl rfl (Nat.le_of_ble_eq_true rfl) (Nat.zero_le _) (Nat.zero_le _) (fun r h2 hp => ?_)
  obtain ⟨rfl, rfl⟩ := hp
  refine J.iconst 1 10 dX11_isPilot_9 rfl (by decide) ?_
  refine J.isub 11 dX11_isPilot_10 rfl ?_
  refine cs_X11_75 rfl 14 (c_isWithin (v := p) (a := 0) (b := (nI (L 2).length) - 1) _ _) dX11_isPilot_11 rfl rfl rfl (Nat.le_of_ble_eq_true rfl) (Nat.zero_le _) (Nat.zero_le _) (fun r h2 hp => ?_)
  obtain ⟨rfl, rfl⟩ := hp
  exact J.zret dX11_isPilot_14 rfl ib_01 (by rw [← hpost]; exact ⟨by simp only [ib, lt1b (show (L 2).length ≤ 100000 by omega)], rfl⟩)
theorem c_isLoad {G : Nat → Nat} {O : Nat → Prop} {ad : Nat → Nat → Nat} {S X : MS} {L : Nat → List Nat} {wn : Nat → Option Nat} {sl : Nat → Nat} {fl : Nat} {h : AH} {d : Nat} {l : Int32} (hK : KR G O ad S X L wn sl fl h) (hb : (L 3).length ≤ 80) : Ct Y_X11_isLoad (d + 1) G 0 0 [.ref (ad 0 0), .int l] h (fun r h2 => r = some (.int (ib (0 ≤ l ∧ l < nI (L 3).length))) ∧ h2 = h) := by
  refine Ct.ofn 0 rfl (Nat.le_of_ble_eq_true rfl) (by simp [Value.category]) ?_
  generalize hpost : (fun (r : Option Value) (h2 : AH) => r = some (.int (ib (0 ≤ l ∧ l < nI (L 3).length))) ∧ h2 = h) = post
  show J Y_X11_isLoad (d + 1) G 0 0 0 [some (.ref (ad 0 0)), some (.int l)] [] h post
  refine J.iload_n 1 dX11_isLoad_0 rfl rfl ?_
  refine J.iconst 0 2 dX11_isLoad_1 rfl (by decide) ?_
  refine J.aload_n 3 dX11_isLoad_2 rfl rfl ?_
  refine gf_X11_22 rfl 6 dX11_isLoad_3 rfl (hK.hut) (v := .ref (ad 1 3)) rfl ?_
  refine cv_X11_79 rfl 9 (hK.size (by omega)) dX11_isLoad_6 rfl (hK.listOb (by omega)).choose_spec rfl rfl (Nat.le_of_ble_eq_true rfl) (Nat.zero_le _) (Nat.zero_le _) (fun r h2 hp => ?_)
  obtain ⟨rfl, rfl⟩ := hp
  refine J.iconst 1 10 dX11_isLoad_9 rfl (by decide) ?_
  refine J.isub 11 dX11_isLoad_10 rfl ?_
  refine cs_X11_75 rfl 14 (c_isWithin (v := l) (a := 0) (b := (nI (L 3).length) - 1) _ _) dX11_isLoad_11 rfl rfl rfl (Nat.le_of_ble_eq_true rfl) (Nat.zero_le _) (Nat.zero_le _) (fun r h2 hp => ?_)
  obtain ⟨rfl, rfl⟩ := hp
  exact J.zret dX11_isLoad_14 rfl ib_01 (by rw [← hpost]; exact ⟨by simp only [ib, lt1b (show (L 3).length ≤ 100000 by omega)], rfl⟩)
theorem one_le (m : Int32) : 1 ≤ m ↔ 0 < m := by
  have e : (1 : Int32).toInt = 1 := by decide
  have e0 : (0 : Int32).toInt = 0 := by decide
  rw [Int32.le_iff_toInt_le, Int32.lt_iff_toInt_lt, e, e0]
  omega
theorem c_isHut {G : Nat → Nat} {O : Nat → Prop} {ad : Nat → Nat → Nat} {S X : MS} {L : Nat → List Nat} {wn : Nat → Option Nat} {sl : Nat → Nat} {fl : Nat} {h : AH} {d : Nat} {p : Int32} (hK : KR G O ad S X L wn sl fl h) (hb : (L 0).length ≤ 12) : Ct Y_X11_isHut (d + 1) G 0 0 [.ref (ad 0 0), .int p] h (fun r h2 => r = some (.int (ib (0 < p ∧ p < nI (L 0).length))) ∧ h2 = h) := by
  refine Ct.ofn 0 rfl (Nat.le_of_ble_eq_true rfl) (by simp [Value.category]) ?_
  generalize hpost : (fun (r : Option Value) (h2 : AH) => r = some (.int (ib (0 < p ∧ p < nI (L 0).length))) ∧ h2 = h) = post
  show J Y_X11_isHut (d + 1) G 0 0 0 [some (.ref (ad 0 0)), some (.int p)] [] h post
  refine J.iload_n 1 dX11_isHut_0 rfl rfl ?_
  refine J.iconst 1 2 dX11_isHut_1 rfl (by decide) ?_
  refine J.aload_n 3 dX11_isHut_2 rfl rfl ?_
  refine gf_X11_10 rfl 6 dX11_isHut_3 rfl (hK.hut) (v := .ref (ad 1 0)) rfl ?_
  refine cv_X11_79 rfl 9 (hK.size (by omega)) dX11_isHut_6 rfl (hK.listOb (by omega)).choose_spec rfl rfl (Nat.le_of_ble_eq_true rfl) (Nat.zero_le _) (Nat.zero_le _) (fun r h2 hp => ?_)
  obtain ⟨rfl, rfl⟩ := hp
  refine J.iconst 1 10 dX11_isHut_9 rfl (by decide) ?_
  refine J.isub 11 dX11_isHut_10 rfl ?_
  refine cs_X11_75 rfl 14 (c_isWithin (v := p) (a := 1) (b := (nI (L 0).length) - 1) _ _) dX11_isHut_11 rfl rfl rfl (Nat.le_of_ble_eq_true rfl) (Nat.zero_le _) (Nat.zero_le _) (fun r h2 hp => ?_)
  obtain ⟨rfl, rfl⟩ := hp
  exact J.zret dX11_isHut_14 rfl ib_01 (by rw [← hpost]; exact ⟨by simp only [ib, lt1 (show (L 0).length ≤ 100000 by omega), one_le], rfl⟩)
