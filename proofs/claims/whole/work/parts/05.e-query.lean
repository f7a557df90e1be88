theorem idx_of {x : Int32} {n : Nat} (h : 0 ≤ x ∧ x < nI n) (hn : n ≤ 100000) : x.toNatClampNeg < n ∧ nI x.toNatClampNeg = x := by
  obtain ⟨j, hj, rfl⟩ := nI_of (Int32.not_lt.mpr h.1)
  have := (nI_ltI hj (by omega)).mp h.2
  rw [nI_clamp hj]
  exact ⟨this, rfl⟩
theorem idx_of1 {x : Int32} {n : Nat} (h : 0 < x ∧ x < nI n) (hn : n ≤ 100000) : x.toNatClampNeg < n ∧ nI x.toNatClampNeg = x := idx_of ⟨Int32.le_of_lt h.1, h.2⟩ hn
theorem nil_0 {l : List Nat} (h : l.length ≤ 100000) : nI l.length = 0 ↔ l = [] := by
  constructor
  · intro e
    have := (nI_eq (b := 0) (by omega) (by decide)).mp e
    exact List.eq_nil_of_length_eq_zero this
  · intro e
    rw [e]
    rfl
def hd0 (l : List Nat) : Nat := l.headD 0
theorem head_get {l : List Nat} (h : ¬ l = []) : l[0]? = some (hd0 l) := by
  cases l with
  | nil => exact absurd rfl h
  | cons a r => rfl
theorem c_other {G : Nat → Nat} {O : Nat → Prop} {ad : Nat → Nat → Nat} {S X : MS} {L : Nat → List Nat} {wn : Nat → Option Nat} {sl : Nat → Nat} {fl : Nat} {h : AH} {d : Nat} {m : Nat} {p : Int32} (hK : KR G O ad S X L wn sl fl h) (hm : m < (L 1).length) (hlen : (L (8 + m)).length ≤ 1000) : Ct Y_X2_hangsForOther (d + 3) G 0 0 [.ref (ad 4 m), .int p] h (fun r h2 => r = some (.int (ib (¬ L (8 + m) = [] ∧ ¬ S.2 17 (hd0 (L (8 + m))) = p))) ∧ h2 = h) := by
  refine Ct.ofn 0 rfl (Nat.le_of_ble_eq_true rfl) (by simp [Value.category]) ?_
  generalize hpost : (fun (r : Option Value) (h2 : AH) => r = some (.int (ib (¬ L (8 + m) = [] ∧ ¬ S.2 17 (hd0 (L (8 + m))) = p))) ∧ h2 = h) = post
  show J Y_X2_hangsForOther (d + 3) G 0 0 0 [some (.ref (ad 4 m)), some (.int p)] [] h post
  refine J.aload_n 1 dX2_hangsForOther_0 rfl rfl ?_
  refine gf_X2_12 rfl 4 dX2_hangsForOther_1 rfl (hK.mach hm) (v := .ref (ad 1 (8 + m))) rfl ?_
  refine cv_X2_34 rfl 7 (hK.isEmpty (by omega)) dX2_hangsForOther_4 rfl (hK.listOb (by omega)).choose_spec rfl rfl (Nat.le_of_ble_eq_true rfl) (Nat.zero_le _) (Nat.zero_le _) (fun r h2 hp => ?_)
  obtain ⟨rfl, rfl⟩ := hp
  refine J.if_ne 32 10 dX2_hangsForOther_7 (by decide) rfl (fun c1 => ?_) (fun c1 => ?_)
  · skip
    have hnil : L (8 + m) = [] := (nil_0 (by omega)).mp (ib_n.mp c1)
    refine J.iconst 0 33 dX2_hangsForOther_32 rfl (by decide) ?_
    exact J.zret dX2_hangsForOther_33 rfl (Or.inl rfl) (by rw [← hpost]; exact ⟨by simp [ib, hnil, c1, ib_n.mp c1], rfl⟩)
  · skip
    have hnil : ¬ L (8 + m) = [] := fun z => ib_0.mp c1 ((nil_0 (by omega)).mpr z)
    refine J.aload_n 11 dX2_hangsForOther_10 rfl rfl ?_
    refine gf_X2_12 rfl 14 dX2_hangsForOther_11 rfl (hK.mach hm) (v := .ref (ad 1 (8 + m))) rfl ?_
    refine J.iconst 0 15 dX2_hangsForOther_14 rfl (by decide) ?_
    have kg := hK.get (d := d) (r := 8 + m) (i := 0) (by omega) (head_get hnil)
    rw [ek8] at kg
    refine cv_X2_43 rfl 18 kg dX2_hangsForOther_15 rfl (hK.listOb (by omega)).choose_spec rfl rfl (Nat.le_of_ble_eq_true rfl) (Nat.zero_le _) (Nat.zero_le _) (fun r h2 hp => ?_)
    obtain ⟨rfl, rfl⟩ := hp
    refine cc_X2_39 rfl 21 dX2_hangsForOther_18 rfl (hK.load (hK.mem6 (by omega) (ek8 _) (head_get hnil))) ?_
    refine gf_X2_47 rfl 24 dX2_hangsForOther_21 rfl (hK.load (hK.mem6 (by omega) (ek8 _) (head_get hnil))) (v := .int (S.2 17 (hd0 (L (8 + m))))) rfl ?_
    refine J.iload_n 25 dX2_hangsForOther_24 rfl rfl ?_
    refine J.icmp_eq 32 28 dX2_hangsForOther_25 (by decide) rfl (fun c2 => ?_) (fun c2 => ?_)
    · skip
      refine J.iconst 0 33 dX2_hangsForOther_32 rfl (by decide) ?_
      exact J.zret dX2_hangsForOther_33 rfl (Or.inl rfl) (by rw [← hpost]; exact ⟨by simp [ib, hnil, c1, ib_0.mp c1, c2], rfl⟩)
    · skip
      refine J.iconst 1 29 dX2_hangsForOther_28 rfl (by decide) ?_
      refine J.goto 33 dX2_hangsForOther_29 (by decide) ?_
      exact J.zret dX2_hangsForOther_33 rfl (Or.inr rfl) (by rw [← hpost]; exact ⟨by simp [ib, hnil, c1, ib_0.mp c1, c2], rfl⟩)
def tkB (S : MS) (l : List Nat) (i : Nat) : Bool := decide (¬ l = [] → ¬ (S.2 20 i = 3 ∨ S.2 20 i = 1) ∧ ¬ (S.2 20 (hd0 l) = 3 ∨ S.2 20 (hd0 l) = 1) ∧ S.2 17 (hd0 l) = S.2 17 i ∧ lsum (S.2 19) l + S.2 19 i ≤ 9)
theorem c_takes {G : Nat → Nat} {O : Nat → Prop} {ad : Nat → Nat → Nat} {S X : MS} {L : Nat → List Nat} {wn : Nat → Option Nat} {sl : Nat → Nat} {fl : Nat} {h : AH} {d : Nat} {m i : Nat} (hK : KR G O ad S X L wn sl fl h) (hm : m < (L 1).length) (hlen : (L (8 + m)).length ≤ 1000) (hi : i < (L 3).length) : Ct Y_X2_takes (d + 4) G 0 0 [.ref (ad 4 m), .ref (ad 6 i)] h (fun r h2 => r = some (.int (ib (tkB S (L (8 + m)) i = true))) ∧ h2 = h) := by
  refine Ct.ofn 0 rfl (Nat.le_of_ble_eq_true rfl) (by simp [Value.category]) ?_
  generalize hpost : (fun (r : Option Value) (h2 : AH) => r = some (.int (ib (tkB S (L (8 + m)) i = true))) ∧ h2 = h) = post
  show J Y_X2_takes (d + 4) G 0 0 0 [some (.ref (ad 4 m)), some (.ref (ad 6 i))] [] h post
  refine J.aload_n 1 dX2_takes_0 rfl rfl ?_
  refine gf_X2_12 rfl 4 dX2_takes_1 rfl (hK.mach hm) (v := .ref (ad 1 (8 + m))) rfl ?_
  refine cv_X2_34 rfl 7 (hK.isEmpty (by omega)) dX2_takes_4 rfl (hK.listOb (by omega)).choose_spec rfl rfl (Nat.le_of_ble_eq_true rfl) (Nat.zero_le _) (Nat.zero_le _) (fun r h2 hp => ?_)
  obtain ⟨rfl, rfl⟩ := hp
  refine J.if_eq 12 10 dX2_takes_7 (by decide) rfl (fun c1 => ?_) (fun c1 => ?_)
  · skip
    have hnil : ¬ L (8 + m) = [] := fun z => ib_0.mp c1 ((nil_0 (by omega)).mpr z)
    refine J.aload_n 13 dX2_takes_12 rfl rfl ?_
    refine cv_X2_38 rfl 16 (c_alone (i := i) hK hi) dX2_takes_13 rfl (hK.load hi) rfl rfl (Nat.le_of_ble_eq_true rfl) (Nat.zero_le _) (Nat.zero_le _) (fun r h2 hp => ?_)
    obtain ⟨rfl, rfl⟩ := hp
    refine J.if_ne 47 19 dX2_takes_16 (by decide) rfl (fun c2 => ?_) (fun c2 => ?_)
    · skip
      refine J.iconst 0 48 dX2_takes_47 rfl (by decide) ?_
      exact J.zret dX2_takes_48 rfl (Or.inl rfl) (by rw [← hpost]; exact ⟨by simp_all [ib, tkB], rfl⟩)
    · skip
      refine J.aload_n 20 dX2_takes_19 rfl rfl ?_
      refine gf_X2_12 rfl 23 dX2_takes_20 rfl (hK.mach hm) (v := .ref (ad 1 (8 + m))) rfl ?_
      refine J.iconst 0 24 dX2_takes_23 rfl (by decide) ?_
      have kg := hK.get (d := d + 1) (r := 8 + m) (i := 0) (by omega) (head_get hnil)
      rw [ek8] at kg
      refine cv_X2_43 rfl 27 kg dX2_takes_24 rfl (hK.listOb (by omega)).choose_spec rfl rfl (Nat.le_of_ble_eq_true rfl) (Nat.zero_le _) (Nat.zero_le _) (fun r h2 hp => ?_)
      obtain ⟨rfl, rfl⟩ := hp
      refine cc_X2_39 rfl 30 dX2_takes_27 rfl (hK.load (hK.mem6 (by omega) (ek8 _) (head_get hnil))) ?_
      refine cv_X2_38 rfl 33 (c_alone (i := hd0 (L (8 + m))) hK (hK.mem6 (by omega) (ek8 _) (head_get hnil))) dX2_takes_30 rfl (hK.load (hK.mem6 (by omega) (ek8 _) (head_get hnil))) rfl rfl (Nat.le_of_ble_eq_true rfl) (Nat.zero_le _) (Nat.zero_le _) (fun r h2 hp => ?_)
      obtain ⟨rfl, rfl⟩ := hp
      refine J.if_ne 47 36 dX2_takes_33 (by decide) rfl (fun c3 => ?_) (fun c3 => ?_)
      · skip
        refine J.iconst 0 48 dX2_takes_47 rfl (by decide) ?_
        exact J.zret dX2_takes_48 rfl (Or.inl rfl) (by rw [← hpost]; exact ⟨by simp_all [ib, tkB], rfl⟩)
      · skip
        refine J.aload_n 37 dX2_takes_36 rfl rfl ?_
        refine J.aload_n 38 dX2_takes_37 rfl rfl ?_
        refine gf_X2_47 rfl 41 dX2_takes_38 rfl (hK.load hi) (v := .int (S.2 17 i)) rfl ?_
        refine cv_X2_50 rfl 44 (c_other (m := m) (p := S.2 17 i) hK hm hlen) dX2_takes_41 rfl (hK.mach hm) rfl rfl (Nat.le_of_ble_eq_true rfl) (Nat.zero_le _) (Nat.zero_le _) (fun r h2 hp => ?_)
        obtain ⟨rfl, rfl⟩ := hp
        refine J.if_eq 49 47 dX2_takes_44 (by decide) rfl (fun c4 => ?_) (fun c4 => ?_)
        · skip
          refine J.aload_n 50 dX2_takes_49 rfl rfl ?_
          refine gf_X2_12 rfl 53 dX2_takes_50 rfl (hK.mach hm) (v := .ref (ad 1 (8 + m))) rfl ?_
          refine cs_X2_54 rfl 56 (c_roomOf (r := 8 + m) hK (by omega) (ek8 _) hlen) dX2_takes_53 rfl rfl rfl (Nat.le_of_ble_eq_true rfl) (Nat.zero_le _) (Nat.zero_le _) (fun r h2 hp => ?_)
          obtain ⟨rfl, rfl⟩ := hp
          refine J.aload_n 57 dX2_takes_56 rfl rfl ?_
          refine gf_X2_58 rfl 60 dX2_takes_57 rfl (hK.load hi) (v := .int (S.2 19 i)) rfl ?_
          refine J.iadd 61 dX2_takes_60 rfl ?_
          refine J.bipush 9 63 dX2_takes_61 rfl (by decide) ?_
          refine J.icmp_gt 70 66 dX2_takes_63 (by decide) rfl (fun c5 => ?_) (fun c5 => ?_)
          · skip
            refine J.iconst 0 71 dX2_takes_70 rfl (by decide) ?_
            exact J.zret dX2_takes_71 rfl (Or.inl rfl) (by rw [← hpost]; exact ⟨by simp_all [ib, tkB], rfl⟩)
          · skip
            refine J.iconst 1 67 dX2_takes_66 rfl (by decide) ?_
            refine J.goto 71 dX2_takes_67 (by decide) ?_
            exact J.zret dX2_takes_71 rfl (Or.inr rfl) (by rw [← hpost]; exact ⟨by simp_all [ib, tkB], rfl⟩)
        · skip
          refine J.iconst 0 48 dX2_takes_47 rfl (by decide) ?_
          exact J.zret dX2_takes_48 rfl (Or.inl rfl) (by rw [← hpost]; exact ⟨by simp_all [ib, tkB], rfl⟩)
  · skip
    have hnil : L (8 + m) = [] := (nil_0 (by omega)).mp (ib_n.mp c1)
    refine J.iconst 1 11 dX2_takes_10 rfl (by decide) ?_
    exact J.zret dX2_takes_11 rfl (Or.inr rfl) (by rw [← hpost]; exact ⟨by simp_all [ib, tkB], rfl⟩)
theorem c_isFlight {G : Nat → Nat} {O : Nat → Prop} {ad : Nat → Nat → Nat} {S X : MS} {L : Nat → List Nat} {wn : Nat → Option Nat} {sl : Nat → Nat} {fl : Nat} {h : AH} {d : Nat} {m y p : Int32} (hK : KR G O ad S X L wn sl fl h) (hb1 : (L 1).length ≤ 4) (hb2 : (L 2).length ≤ 6) (hb0 : (L 0).length ≤ 12) : Ct Y_X11_isFlight (d + 2) G 0 0 [.ref (ad 0 0), .int m, .int y, .int p] h (fun r h2 => r = some (.int (ib ((0 ≤ m ∧ m < nI (L 1).length) ∧ (0 ≤ y ∧ y < nI (L 2).length) ∧ (0 < p ∧ p < nI (L 0).length)))) ∧ h2 = h) := by
  refine Ct.ofn 0 rfl (Nat.le_of_ble_eq_true rfl) (by simp [Value.category]) ?_
  generalize hpost : (fun (r : Option Value) (h2 : AH) => r = some (.int (ib ((0 ≤ m ∧ m < nI (L 1).length) ∧ (0 ≤ y ∧ y < nI (L 2).length) ∧ (0 < p ∧ p < nI (L 0).length)))) ∧ h2 = h) = post
  show J Y_X11_isFlight (d + 2) G 0 0 0 [some (.ref (ad 0 0)), some (.int m), some (.int y), some (.int p)] [] h post
  refine J.aload_n 1 dX11_isFlight_0 rfl rfl ?_
  refine J.iload_n 2 dX11_isFlight_1 rfl rfl ?_
  refine cv_X11_141 rfl 5 (c_isMachine (m := m) hK (by omega)) dX11_isFlight_2 rfl (hK.hut) rfl rfl (Nat.le_of_ble_eq_true rfl) (Nat.zero_le _) (Nat.zero_le _) (fun r h2 hp => ?_)
  obtain ⟨rfl, rfl⟩ := hp
  refine J.if_eq 28 8 dX11_isFlight_5 (by decide) rfl (fun c1 => ?_) (fun c1 => ?_)
  · skip
    refine J.iconst 0 29 dX11_isFlight_28 rfl (by decide) ?_
    exact J.zret dX11_isFlight_29 rfl (Or.inl rfl) (by rw [← hpost]; exact ⟨by simp [ib, c1, ib_0.mp c1], rfl⟩)
  · skip
    refine J.aload_n 9 dX11_isFlight_8 rfl rfl ?_
    refine J.iload_n 10 dX11_isFlight_9 rfl rfl ?_
    refine cv_X11_207 rfl 13 (c_isPilot (p := y) hK (by omega)) dX11_isFlight_10 rfl (hK.hut) rfl rfl (Nat.le_of_ble_eq_true rfl) (Nat.zero_le _) (Nat.zero_le _) (fun r h2 hp => ?_)
    obtain ⟨rfl, rfl⟩ := hp
    refine J.if_eq 28 16 dX11_isFlight_13 (by decide) rfl (fun c2 => ?_) (fun c2 => ?_)
    · skip
      refine J.iconst 0 29 dX11_isFlight_28 rfl (by decide) ?_
      exact J.zret dX11_isFlight_29 rfl (Or.inl rfl) (by rw [← hpost]; exact ⟨by simp [ib, c1, ib_n.mp c1, c2, ib_0.mp c2], rfl⟩)
    · skip
      refine J.aload_n 17 dX11_isFlight_16 rfl rfl ?_
      refine J.iload_n 18 dX11_isFlight_17 rfl rfl ?_
      refine cv_X11_258 rfl 21 (c_isHut (p := p) hK (by omega)) dX11_isFlight_18 rfl (hK.hut) rfl rfl (Nat.le_of_ble_eq_true rfl) (Nat.zero_le _) (Nat.zero_le _) (fun r h2 hp => ?_)
      obtain ⟨rfl, rfl⟩ := hp
      refine J.if_eq 28 24 dX11_isFlight_21 (by decide) rfl (fun c3 => ?_) (fun c3 => ?_)
      · skip
        refine J.iconst 0 29 dX11_isFlight_28 rfl (by decide) ?_
        exact J.zret dX11_isFlight_29 rfl (Or.inl rfl) (by rw [← hpost]; exact ⟨by simp [ib, c1, ib_n.mp c1, c2, ib_n.mp c2, c3, ib_0.mp c3], rfl⟩)
      · skip
        refine J.iconst 1 25 dX11_isFlight_24 rfl (by decide) ?_
        refine J.goto 29 dX11_isFlight_25 (by decide) ?_
        exact J.zret dX11_isFlight_29 rfl (Or.inr rfl) (by rw [← hpost]; exact ⟨by simp [ib, c1, ib_n.mp c1, c2, ib_n.mp c2, c3, ib_n.mp c3], rfl⟩)
theorem c_isCargo {G : Nat → Nat} {O : Nat → Prop} {ad : Nat → Nat → Nat} {S X : MS} {L : Nat → List Nat} {wn : Nat → Option Nat} {sl : Nat → Nat} {fl : Nat} {h : AH} {d : Nat} {x : Int32} (hK : KR G O ad S X L wn sl fl h) (hb0 : (L 0).length ≤ 12) : Ct Y_X11_isCargo (d + 2) G 0 0 [.ref (ad 0 0), .int x] h (fun r h2 => r = some (.int (ib (0 ≤ x ∧ x / 10000 ≤ 4 ∧ (0 < x / 100 - x / 100 / 100 * 100 ∧ x / 100 - x / 100 / 100 * 100 < nI (L 0).length) ∧ (1 ≤ x - x / 100 * 100 ∧ x - x / 100 * 100 ≤ 9)))) ∧ h2 = h) := by
  refine Ct.ofn 0 rfl (Nat.le_of_ble_eq_true rfl) (by simp [Value.category]) ?_
  generalize hpost : (fun (r : Option Value) (h2 : AH) => r = some (.int (ib (0 ≤ x ∧ x / 10000 ≤ 4 ∧ (0 < x / 100 - x / 100 / 100 * 100 ∧ x / 100 - x / 100 / 100 * 100 < nI (L 0).length) ∧ (1 ≤ x - x / 100 * 100 ∧ x - x / 100 * 100 ≤ 9)))) ∧ h2 = h) = post
  show J Y_X11_isCargo (d + 2) G 0 0 0 [some (.ref (ad 0 0)), some (.int x)] [] h post
  refine J.iload_n 1 dX11_isCargo_0 rfl rfl ?_
  refine J.if_lt 44 4 dX11_isCargo_1 (by decide) rfl (fun c1 => ?_) (fun c1 => ?_)
  · skip
    refine J.iconst 0 45 dX11_isCargo_44 rfl (by decide) ?_
    exact J.zret dX11_isCargo_45 rfl (Or.inl rfl) (by rw [← hpost]; exact ⟨by simp [ib, c1, Int32.not_le.mpr c1], rfl⟩)
  · skip
    refine J.iload_n 5 dX11_isCargo_4 rfl rfl ?_
    refine J.sipush 10000 8 dX11_isCargo_5 rfl (by decide) ?_
    refine J.idiv 9 dX11_isCargo_8 rfl (by decide) ?_
    refine J.iconst 4 10 dX11_isCargo_9 rfl (by decide) ?_
    refine J.icmp_gt 44 13 dX11_isCargo_10 (by decide) rfl (fun c2 => ?_) (fun c2 => ?_)
    · skip
      refine J.iconst 0 45 dX11_isCargo_44 rfl (by decide) ?_
      exact J.zret dX11_isCargo_45 rfl (Or.inl rfl) (by rw [← hpost]; exact ⟨by simp [ib, c1, Int32.not_lt.mp c1, c2, Int32.not_le.mpr c2], rfl⟩)
    · skip
      refine J.aload_n 14 dX11_isCargo_13 rfl rfl ?_
      refine J.iload_n 15 dX11_isCargo_14 rfl rfl ?_
      refine J.bipush 100 17 dX11_isCargo_15 rfl (by decide) ?_
      refine J.idiv 18 dX11_isCargo_17 rfl (by decide) ?_
      refine J.bipush 100 20 dX11_isCargo_18 rfl (by decide) ?_
      refine J.irem 21 dX11_isCargo_20 rfl (by decide) ?_
      refine cv_X11_258 rfl 24 (c_isHut (p := (x / 100) - (x / 100) / 100 * 100) hK (by omega)) dX11_isCargo_21 rfl (hK.hut) rfl rfl (Nat.le_of_ble_eq_true rfl) (Nat.zero_le _) (Nat.zero_le _) (fun r h2 hp => ?_)
      obtain ⟨rfl, rfl⟩ := hp
      refine J.if_eq 44 27 dX11_isCargo_24 (by decide) rfl (fun c3 => ?_) (fun c3 => ?_)
      · skip
        refine J.iconst 0 45 dX11_isCargo_44 rfl (by decide) ?_
        exact J.zret dX11_isCargo_45 rfl (Or.inl rfl) (by rw [← hpost]; exact ⟨by simp [ib, c1, Int32.not_lt.mp c1, c2, Int32.not_lt.mp c2, c3, ib_0.mp c3], rfl⟩)
      · skip
        refine J.iload_n 28 dX11_isCargo_27 rfl rfl ?_
        refine J.bipush 100 30 dX11_isCargo_28 rfl (by decide) ?_
        refine J.irem 31 dX11_isCargo_30 rfl (by decide) ?_
        refine J.iconst 1 32 dX11_isCargo_31 rfl (by decide) ?_
        refine J.bipush 9 34 dX11_isCargo_32 rfl (by decide) ?_
        refine cs_X11_75 rfl 37 (c_isWithin (v := x - x / 100 * 100) (a := 1) (b := 9) _ _) dX11_isCargo_34 rfl rfl rfl (Nat.le_of_ble_eq_true rfl) (Nat.zero_le _) (Nat.zero_le _) (fun r h2 hp => ?_)
        obtain ⟨rfl, rfl⟩ := hp
        refine J.if_eq 44 40 dX11_isCargo_37 (by decide) rfl (fun c4 => ?_) (fun c4 => ?_)
        · skip
          refine J.iconst 0 45 dX11_isCargo_44 rfl (by decide) ?_
          exact J.zret dX11_isCargo_45 rfl (Or.inl rfl) (by rw [← hpost]; exact ⟨by simp [ib, c1, Int32.not_lt.mp c1, c2, Int32.not_lt.mp c2, c3, ib_n.mp c3, c4, ib_0.mp c4], rfl⟩)
        · skip
          refine J.iconst 1 41 dX11_isCargo_40 rfl (by decide) ?_
          refine J.goto 45 dX11_isCargo_41 (by decide) ?_
          exact J.zret dX11_isCargo_45 rfl (Or.inr rfl) (by rw [← hpost]; exact ⟨by simp [ib, c1, Int32.not_lt.mp c1, c2, Int32.not_lt.mp c2, c3, ib_n.mp c3, c4, ib_n.mp c4], rfl⟩)
def a_about (S : MS) (L : Nat → List Nat) (m t : Int32) : Int32 := if ¬ (0 ≤ m ∧ m < nI (L 1).length) then -9 else if t = 0 then S.2 9 m.toNatClampNeg else if t = 1 then S.2 10 m.toNatClampNeg else if t = 2 then nI (L (8 + m.toNatClampNeg)).length else if t = 3 then lsum (S.2 18) (L (8 + m.toNatClampNeg)) else if t = 4 then (if 0 < S.2 7 m.toNatClampNeg - 4 * 0 - S.2 5 (c_hour (S.1 0)).toNatClampNeg then S.2 7 m.toNatClampNeg - 4 * 0 - S.2 5 (c_hour (S.1 0)).toNatClampNeg else 0) else -9
theorem c_about {G : Nat → Nat} {O : Nat → Prop} {ad : Nat → Nat → Nat} {S X : MS} {L : Nat → List Nat} {wn : Nat → Option Nat} {sl : Nat → Nat} {fl : Nat} {h : AH} {d : Nat} {m t : Int32} (hK : KR G O ad S X L wn sl fl h) (h1r : L 1 = List.range (L 1).length) (hb1 : (L 1).length ≤ 4) (hlen : ∀ k, k < (L 1).length → (L (8 + k)).length ≤ 80) (hh : vp_in (c_hour (S.1 0)) 12) : Ct Y_X11_about (d + 4) G 0 0 [.ref (ad 0 0), .int m, .int t] h (fun r h2 => r = some (.int (a_about S L m t)) ∧ h2 = h) := by
  refine Ct.ofn 1 rfl (Nat.le_of_ble_eq_true rfl) (by simp [Value.category]) ?_
  generalize hpost : (fun (r : Option Value) (h2 : AH) => r = some (.int (a_about S L m t)) ∧ h2 = h) = post
  show J Y_X11_about (d + 4) G 0 0 0 [some (.ref (ad 0 0)), some (.int m), some (.int t), none] [] h post
  refine J.aload_n 1 dX11_about_0 rfl rfl ?_
  refine J.iload_n 2 dX11_about_1 rfl rfl ?_
  refine cv_X11_141 rfl 5 (c_isMachine (m := m) hK (by omega)) dX11_about_2 rfl (hK.hut) rfl rfl (Nat.le_of_ble_eq_true rfl) (Nat.zero_le _) (Nat.zero_le _) (fun r h2 hp => ?_)
  obtain ⟨rfl, rfl⟩ := hp
  refine J.if_ne 11 8 dX11_about_5 (by decide) rfl (fun c1 => ?_) (fun c1 => ?_)
  · skip
    have im := idx_of (ib_n.mp c1) (show (L 1).length ≤ 100000 by omega)
    refine J.aload_n 12 dX11_about_11 rfl rfl ?_
    refine gf_X11_16 rfl 15 dX11_about_12 rfl (hK.hut) (v := .ref (ad 1 1)) rfl ?_
    refine J.iload_n 16 dX11_about_15 rfl rfl ?_
    have kg := hK.get (d := d + 1) (r := 1) (i := m.toNatClampNeg) (by omega) (rng_get h1r im.1)
    rw [im.2] at kg
    refine cv_X11_132 rfl 19 kg dX11_about_16 rfl (hK.listOb (by omega)).choose_spec rfl rfl (Nat.le_of_ble_eq_true rfl) (Nat.zero_le _) (Nat.zero_le _) (fun r h2 hp => ?_)
    obtain ⟨rfl, rfl⟩ := hp
    refine cc_X11_83 rfl 22 dX11_about_19 rfl (hK.mach im.1) ?_
    refine J.ast_3 23 dX11_about_22 rfl (by decide) ?_
    refine J.iload_n 24 dX11_about_23 rfl rfl ?_
    by_cases c2 : (t).toInt < 0 ∨ 4 < (t).toInt
    · refine J.tsOut 103 dX11_about_24 c2 (by decide) ?_
      refine J.bipush (-9) 105 dX11_about_103 rfl (by decide) ?_
      exact J.iret dX11_about_105 rfl (by rw [← hpost]; exact ⟨by simp (decide := true) [a_about, c1, ib_n.mp c1, sw_out c2 0 (by decide) (by decide), sw_out c2 1 (by decide) (by decide), sw_out c2 2 (by decide) (by decide), sw_out c2 3 (by decide) (by decide), sw_out c2 4 (by decide) (by decide)], rfl⟩)
    · have q2 : (t).toInt = 0 ∨ (t).toInt = 1 ∨ (t).toInt = 2 ∨ (t).toInt = 3 ∨ (t).toInt = 4 := by omega
      rcases q2 with q2 | q2 | q2 | q2 | q2
      · have z2 : t = 0 := Int32.toInt_inj.mp (q2.trans (by decide))
        refine J.tsIn (k := 0) 60 dX11_about_24 q2 (by decide) (by decide) rfl (by decide) ?_
        refine J.aload_n 61 dX11_about_60 rfl rfl ?_
        refine gf_X11_188 rfl 64 dX11_about_61 rfl (hK.mach im.1) (v := .int (S.2 9 m.toNatClampNeg)) rfl ?_
        exact J.iret dX11_about_64 rfl (by rw [← hpost]; exact ⟨by simp (decide := true) [a_about, c1, ib_n.mp c1, z2], rfl⟩)
      · have z2 : t = 1 := Int32.toInt_inj.mp (q2.trans (by decide))
        refine J.tsIn (k := 1) 65 dX11_about_24 q2 (by decide) (by decide) rfl (by decide) ?_
        refine J.aload_n 66 dX11_about_65 rfl rfl ?_
        refine gf_X11_147 rfl 69 dX11_about_66 rfl (hK.mach im.1) (v := .int (S.2 10 m.toNatClampNeg)) rfl ?_
        exact J.iret dX11_about_69 rfl (by rw [← hpost]; exact ⟨by simp (decide := true) [a_about, c1, ib_n.mp c1, z2], rfl⟩)
      · have z2 : t = 2 := Int32.toInt_inj.mp (q2.trans (by decide))
        refine J.tsIn (k := 2) 70 dX11_about_24 q2 (by decide) (by decide) rfl (by decide) ?_
        refine J.aload_n 71 dX11_about_70 rfl rfl ?_
        refine gf_X11_160 rfl 74 dX11_about_71 rfl (hK.mach im.1) (v := .ref (ad 1 (8 + m.toNatClampNeg))) rfl ?_
        refine cv_X11_79 rfl 77 (hK.size (by have := im.1; omega)) dX11_about_74 rfl (hK.listOb (by have := im.1; omega)).choose_spec rfl rfl (Nat.le_of_ble_eq_true rfl) (Nat.zero_le _) (Nat.zero_le _) (fun r h2 hp => ?_)
        obtain ⟨rfl, rfl⟩ := hp
        exact J.iret dX11_about_77 rfl (by rw [← hpost]; exact ⟨by simp (decide := true) [a_about, c1, ib_n.mp c1, z2], rfl⟩)
      · have z2 : t = 3 := Int32.toInt_inj.mp (q2.trans (by decide))
        refine J.tsIn (k := 3) 78 dX11_about_24 q2 (by decide) (by decide) rfl (by decide) ?_
        refine J.aload_n 79 dX11_about_78 rfl rfl ?_
        refine gf_X11_160 rfl 82 dX11_about_79 rfl (hK.mach im.1) (v := .ref (ad 1 (8 + m.toNatClampNeg))) rfl ?_
        refine cs_X11_195 rfl 85 (c_weightOf (r := 8 + m.toNatClampNeg) hK (by have := im.1; omega) (ek8 _) (by have := hlen _ im.1; omega)) dX11_about_82 rfl rfl rfl (Nat.le_of_ble_eq_true rfl) (Nat.zero_le _) (Nat.zero_le _) (fun r h2 hp => ?_)
        obtain ⟨rfl, rfl⟩ := hp
        exact J.iret dX11_about_85 rfl (by rw [← hpost]; exact ⟨by simp (decide := true) [a_about, c1, ib_n.mp c1, z2], rfl⟩)
      · have z2 : t = 4 := Int32.toInt_inj.mp (q2.trans (by decide))
        refine J.tsIn (k := 4) 86 dX11_about_24 q2 (by decide) (by decide) rfl (by decide) ?_
        refine J.aload_n 87 dX11_about_86 rfl rfl ?_
        refine J.iconst 0 88 dX11_about_87 rfl (by decide) ?_
        refine J.aload_n 89 dX11_about_88 rfl rfl ?_
        refine gf_X11_31 rfl 92 dX11_about_89 rfl (hK.hut) (v := .ref (ad 10 0)) rfl ?_
        refine J.aload_n 93 dX11_about_92 rfl rfl ?_
        refine gf_X11_150 rfl 96 dX11_about_93 rfl (hK.hut) (v := .int (S.1 0)) rfl ?_
        refine cv_X11_199 rfl 99 (c_warmthAt (t := S.1 0) hK (by assumption)) dX11_about_96 rfl (hK.wea) rfl rfl (Nat.le_of_ble_eq_true rfl) (Nat.zero_le _) (Nat.zero_le _) (fun r h2 hp => ?_)
        obtain ⟨rfl, rfl⟩ := hp
        refine cv_X11_203 rfl 102 (c_strength (m := m.toNatClampNeg) (x := 0) (y := S.2 5 ((c_hour (S.1 0)).toNatClampNeg)) hK im.1) dX11_about_99 rfl (hK.mach im.1) rfl rfl (Nat.le_of_ble_eq_true rfl) (Nat.zero_le _) (Nat.zero_le _) (fun r h2 hp => ?_)
        obtain ⟨rfl, rfl⟩ := hp
        exact J.iret dX11_about_102 rfl (by rw [← hpost]; exact ⟨by simp (decide := true) [a_about, c1, ib_n.mp c1, z2], rfl⟩)
  · skip
    refine J.bipush (-9) 10 dX11_about_8 rfl (by decide) ?_
    exact J.iret dX11_about_10 rfl (by rw [← hpost]; exact ⟨by simp (decide := true) [a_about, c1, ib_0.mp c1], rfl⟩)
def a_pilotOf (S : MS) (L : Nat → List Nat) (p t : Int32) : Int32 := if ¬ (0 ≤ p ∧ p < nI (L 2).length) then -9 else if t = 0 then S.2 14 p.toNatClampNeg else if t = 1 then S.2 15 p.toNatClampNeg else if t = 2 then S.2 12 p.toNatClampNeg - S.2 14 p.toNatClampNeg else -9
theorem c_pilotOf {G : Nat → Nat} {O : Nat → Prop} {ad : Nat → Nat → Nat} {S X : MS} {L : Nat → List Nat} {wn : Nat → Option Nat} {sl : Nat → Nat} {fl : Nat} {h : AH} {d : Nat} {p t : Int32} (hK : KR G O ad S X L wn sl fl h) (h2r : L 2 = List.range (L 2).length) (hb2 : (L 2).length ≤ 6) : Ct Y_X11_pilotOf (d + 3) G 0 0 [.ref (ad 0 0), .int p, .int t] h (fun r h2 => r = some (.int (a_pilotOf S L p t)) ∧ h2 = h) := by
  refine Ct.ofn 1 rfl (Nat.le_of_ble_eq_true rfl) (by simp [Value.category]) ?_
  generalize hpost : (fun (r : Option Value) (h2 : AH) => r = some (.int (a_pilotOf S L p t)) ∧ h2 = h) = post
  show J Y_X11_pilotOf (d + 3) G 0 0 0 [some (.ref (ad 0 0)), some (.int p), some (.int t), none] [] h post
  refine J.aload_n 1 dX11_pilotOf_0 rfl rfl ?_
  refine J.iload_n 2 dX11_pilotOf_1 rfl rfl ?_
  refine cv_X11_207 rfl 5 (c_isPilot (p := p) hK (by omega)) dX11_pilotOf_2 rfl (hK.hut) rfl rfl (Nat.le_of_ble_eq_true rfl) (Nat.zero_le _) (Nat.zero_le _) (fun r h2 hp => ?_)
  obtain ⟨rfl, rfl⟩ := hp
  refine J.if_ne 11 8 dX11_pilotOf_5 (by decide) rfl (fun c1 => ?_) (fun c1 => ?_)
  · skip
    have ip := idx_of (ib_n.mp c1) (show (L 2).length ≤ 100000 by omega)
    refine J.aload_n 12 dX11_pilotOf_11 rfl rfl ?_
    refine gf_X11_19 rfl 15 dX11_pilotOf_12 rfl (hK.hut) (v := .ref (ad 1 2)) rfl ?_
    refine J.iload_n 16 dX11_pilotOf_15 rfl rfl ?_
    have kg := hK.get (d := d) (r := 2) (i := p.toNatClampNeg) (by omega) (rng_get h2r ip.1)
    rw [ip.2] at kg
    refine cv_X11_132 rfl 19 kg dX11_pilotOf_16 rfl (hK.listOb (by omega)).choose_spec rfl rfl (Nat.le_of_ble_eq_true rfl) (Nat.zero_le _) (Nat.zero_le _) (fun r h2 hp => ?_)
    obtain ⟨rfl, rfl⟩ := hp
    refine cc_X11_88 rfl 22 dX11_pilotOf_19 rfl (hK.pil ip.1) ?_
    refine J.ast_3 23 dX11_pilotOf_22 rfl (by decide) ?_
    refine J.iload_n 24 dX11_pilotOf_23 rfl rfl ?_
    by_cases c2 : (t).toInt < 0 ∨ 2 < (t).toInt
    · refine J.tsOut 72 dX11_pilotOf_24 c2 (by decide) ?_
      refine J.bipush (-9) 74 dX11_pilotOf_72 rfl (by decide) ?_
      exact J.iret dX11_pilotOf_74 rfl (by rw [← hpost]; exact ⟨by simp (decide := true) [a_pilotOf, c1, ib_n.mp c1, sw_out c2 0 (by decide) (by decide), sw_out c2 1 (by decide) (by decide), sw_out c2 2 (by decide) (by decide)], rfl⟩)
    · have q2 : (t).toInt = 0 ∨ (t).toInt = 1 ∨ (t).toInt = 2 := by omega
      rcases q2 with q2 | q2 | q2
      · have z2 : t = 0 := Int32.toInt_inj.mp (q2.trans (by decide))
        refine J.tsIn (k := 0) 52 dX11_pilotOf_24 q2 (by decide) (by decide) rfl (by decide) ?_
        refine J.aload_n 53 dX11_pilotOf_52 rfl rfl ?_
        refine gf_X11_210 rfl 56 dX11_pilotOf_53 rfl (hK.pil ip.1) (v := .int (S.2 14 p.toNatClampNeg)) rfl ?_
        exact J.iret dX11_pilotOf_56 rfl (by rw [← hpost]; exact ⟨by simp (decide := true) [a_pilotOf, c1, ib_n.mp c1, z2], rfl⟩)
      · have z2 : t = 1 := Int32.toInt_inj.mp (q2.trans (by decide))
        refine J.tsIn (k := 1) 57 dX11_pilotOf_24 q2 (by decide) (by decide) rfl (by decide) ?_
        refine J.aload_n 58 dX11_pilotOf_57 rfl rfl ?_
        refine gf_X11_213 rfl 61 dX11_pilotOf_58 rfl (hK.pil ip.1) (v := .int (S.2 15 p.toNatClampNeg)) rfl ?_
        exact J.iret dX11_pilotOf_61 rfl (by rw [← hpost]; exact ⟨by simp (decide := true) [a_pilotOf, c1, ib_n.mp c1, z2], rfl⟩)
      · have z2 : t = 2 := Int32.toInt_inj.mp (q2.trans (by decide))
        refine J.tsIn (k := 2) 62 dX11_pilotOf_24 q2 (by decide) (by decide) rfl (by decide) ?_
        refine J.aload_n 63 dX11_pilotOf_62 rfl rfl ?_
        refine gf_X11_214 rfl 66 dX11_pilotOf_63 rfl (hK.pil ip.1) (v := .int (S.2 12 p.toNatClampNeg)) rfl ?_
        refine J.aload_n 67 dX11_pilotOf_66 rfl rfl ?_
        refine gf_X11_210 rfl 70 dX11_pilotOf_67 rfl (hK.pil ip.1) (v := .int (S.2 14 p.toNatClampNeg)) rfl ?_
        refine J.isub 71 dX11_pilotOf_70 rfl ?_
        exact J.iret dX11_pilotOf_71 rfl (by rw [← hpost]; exact ⟨by simp (decide := true) [a_pilotOf, c1, ib_n.mp c1, z2], rfl⟩)
  · skip
    refine J.bipush (-9) 10 dX11_pilotOf_8 rfl (by decide) ?_
    exact J.iret dX11_pilotOf_10 rfl (by rw [← hpost]; exact ⟨by simp (decide := true) [a_pilotOf, c1, ib_0.mp c1], rfl⟩)
def a_cargo (S : MS) (L : Nat → List Nat) (l t : Int32) : Int32 := if ¬ (0 ≤ l ∧ l < nI (L 3).length) then -9 else if t = 0 then S.2 23 l.toNatClampNeg else if t = 1 then S.2 24 l.toNatClampNeg else if t = 2 then S.2 25 l.toNatClampNeg else if t = 3 then S.2 26 l.toNatClampNeg else if t = 4 then (if S.2 23 l.toNatClampNeg = 3 ∧ S.2 22 l.toNatClampNeg < S.2 26 l.toNatClampNeg then 1 else 0) else if t = 5 then S.2 27 l.toNatClampNeg else -9
theorem c_cargo {G : Nat → Nat} {O : Nat → Prop} {ad : Nat → Nat → Nat} {S X : MS} {L : Nat → List Nat} {wn : Nat → Option Nat} {sl : Nat → Nat} {fl : Nat} {h : AH} {d : Nat} {l t : Int32} (hK : KR G O ad S X L wn sl fl h) (h3r : L 3 = List.range (L 3).length) (hb3 : (L 3).length ≤ 80) : Ct Y_X11_cargo (d + 3) G 0 0 [.ref (ad 0 0), .int l, .int t] h (fun r h2 => r = some (.int (a_cargo S L l t)) ∧ h2 = h) := by
  refine Ct.ofn 1 rfl (Nat.le_of_ble_eq_true rfl) (by simp [Value.category]) ?_
  generalize hpost : (fun (r : Option Value) (h2 : AH) => r = some (.int (a_cargo S L l t)) ∧ h2 = h) = post
  show J Y_X11_cargo (d + 3) G 0 0 0 [some (.ref (ad 0 0)), some (.int l), some (.int t), none] [] h post
  refine J.aload_n 1 dX11_cargo_0 rfl rfl ?_
  refine J.iload_n 2 dX11_cargo_1 rfl rfl ?_
  refine cv_X11_144 rfl 5 (c_isLoad (l := l) hK (by omega)) dX11_cargo_2 rfl (hK.hut) rfl rfl (Nat.le_of_ble_eq_true rfl) (Nat.zero_le _) (Nat.zero_le _) (fun r h2 hp => ?_)
  obtain ⟨rfl, rfl⟩ := hp
  refine J.if_ne 11 8 dX11_cargo_5 (by decide) rfl (fun c1 => ?_) (fun c1 => ?_)
  · skip
    have il := idx_of (ib_n.mp c1) (show (L 3).length ≤ 100000 by omega)
    refine J.aload_n 12 dX11_cargo_11 rfl rfl ?_
    refine gf_X11_22 rfl 15 dX11_cargo_12 rfl (hK.hut) (v := .ref (ad 1 3)) rfl ?_
    refine J.iload_n 16 dX11_cargo_15 rfl rfl ?_
    have kg := hK.get (d := d) (r := 3) (i := l.toNatClampNeg) (by omega) (rng_get h3r il.1)
    rw [il.2] at kg
    refine cv_X11_132 rfl 19 kg dX11_cargo_16 rfl (hK.listOb (by omega)).choose_spec rfl rfl (Nat.le_of_ble_eq_true rfl) (Nat.zero_le _) (Nat.zero_le _) (fun r h2 hp => ?_)
    obtain ⟨rfl, rfl⟩ := hp
    refine cc_X11_95 rfl 22 dX11_cargo_19 rfl (hK.load il.1) ?_
    refine J.ast_3 23 dX11_cargo_22 rfl (by decide) ?_
    refine J.iload_n 24 dX11_cargo_23 rfl rfl ?_
    by_cases c2 : (t).toInt < 0 ∨ 5 < (t).toInt
    · refine J.tsOut 102 dX11_cargo_24 c2 (by decide) ?_
      refine J.bipush (-9) 104 dX11_cargo_102 rfl (by decide) ?_
      exact J.iret dX11_cargo_104 rfl (by rw [← hpost]; exact ⟨by simp (decide := true) [a_cargo, c1, ib_n.mp c1, sw_out c2 0 (by decide) (by decide), sw_out c2 1 (by decide) (by decide), sw_out c2 2 (by decide) (by decide), sw_out c2 3 (by decide) (by decide), sw_out c2 4 (by decide) (by decide), sw_out c2 5 (by decide) (by decide)], rfl⟩)
    · have q2 : (t).toInt = 0 ∨ (t).toInt = 1 ∨ (t).toInt = 2 ∨ (t).toInt = 3 ∨ (t).toInt = 4 ∨ (t).toInt = 5 := by omega
      rcases q2 with q2 | q2 | q2 | q2 | q2 | q2
      · have z2 : t = 0 := Int32.toInt_inj.mp (q2.trans (by decide))
        refine J.tsIn (k := 0) 64 dX11_cargo_24 q2 (by decide) (by decide) rfl (by decide) ?_
        refine J.aload_n 65 dX11_cargo_64 rfl rfl ?_
        refine gf_X11_163 rfl 68 dX11_cargo_65 rfl (hK.load il.1) (v := .int (S.2 23 l.toNatClampNeg)) rfl ?_
        exact J.iret dX11_cargo_68 rfl (by rw [← hpost]; exact ⟨by simp (decide := true) [a_cargo, c1, ib_n.mp c1, z2], rfl⟩)
      · have z2 : t = 1 := Int32.toInt_inj.mp (q2.trans (by decide))
        refine J.tsIn (k := 1) 69 dX11_cargo_24 q2 (by decide) (by decide) rfl (by decide) ?_
        refine J.aload_n 70 dX11_cargo_69 rfl rfl ?_
        refine gf_X11_166 rfl 73 dX11_cargo_70 rfl (hK.load il.1) (v := .int (S.2 24 l.toNatClampNeg)) rfl ?_
        exact J.iret dX11_cargo_73 rfl (by rw [← hpost]; exact ⟨by simp (decide := true) [a_cargo, c1, ib_n.mp c1, z2], rfl⟩)
      · have z2 : t = 2 := Int32.toInt_inj.mp (q2.trans (by decide))
        refine J.tsIn (k := 2) 74 dX11_cargo_24 q2 (by decide) (by decide) rfl (by decide) ?_
        refine J.aload_n 75 dX11_cargo_74 rfl rfl ?_
        refine gf_X11_217 rfl 78 dX11_cargo_75 rfl (hK.load il.1) (v := .int (S.2 25 l.toNatClampNeg)) rfl ?_
        exact J.iret dX11_cargo_78 rfl (by rw [← hpost]; exact ⟨by simp (decide := true) [a_cargo, c1, ib_n.mp c1, z2], rfl⟩)
      · have z2 : t = 3 := Int32.toInt_inj.mp (q2.trans (by decide))
        refine J.tsIn (k := 3) 79 dX11_cargo_24 q2 (by decide) (by decide) rfl (by decide) ?_
        refine J.aload_n 80 dX11_cargo_79 rfl rfl ?_
        refine gf_X11_220 rfl 83 dX11_cargo_80 rfl (hK.load il.1) (v := .int (S.2 26 l.toNatClampNeg)) rfl ?_
        exact J.iret dX11_cargo_83 rfl (by rw [← hpost]; exact ⟨by simp (decide := true) [a_cargo, c1, ib_n.mp c1, z2], rfl⟩)
      · have z2 : t = 4 := Int32.toInt_inj.mp (q2.trans (by decide))
        refine J.tsIn (k := 4) 84 dX11_cargo_24 q2 (by decide) (by decide) rfl (by decide) ?_
        refine J.aload_n 85 dX11_cargo_84 rfl rfl ?_
        refine cv_X11_223 rfl 88 (c_isLate (i := l.toNatClampNeg) hK il.1) dX11_cargo_85 rfl (hK.load il.1) rfl rfl (Nat.le_of_ble_eq_true rfl) (Nat.zero_le _) (Nat.zero_le _) (fun r h2 hp => ?_)
        obtain ⟨rfl, rfl⟩ := hp
        refine J.if_eq 95 91 dX11_cargo_88 (by decide) rfl (fun c3 => ?_) (fun c3 => ?_)
        · skip
          refine J.iconst 0 96 dX11_cargo_95 rfl (by decide) ?_
          exact J.iret dX11_cargo_96 rfl (by rw [← hpost]; exact ⟨by simp (decide := true) [a_cargo, c1, ib_n.mp c1, z2, c3, ib_0.mp c3], rfl⟩)
        · skip
          refine J.iconst 1 92 dX11_cargo_91 rfl (by decide) ?_
          refine J.goto 96 dX11_cargo_92 (by decide) ?_
          exact J.iret dX11_cargo_96 rfl (by rw [← hpost]; exact ⟨by simp (decide := true) [a_cargo, c1, ib_n.mp c1, z2, c3, ib_n.mp c3], rfl⟩)
      · have z2 : t = 5 := Int32.toInt_inj.mp (q2.trans (by decide))
        refine J.tsIn (k := 5) 97 dX11_cargo_24 q2 (by decide) (by decide) rfl (by decide) ?_
        refine J.aload_n 98 dX11_cargo_97 rfl rfl ?_
        refine gf_X11_227 rfl 101 dX11_cargo_98 rfl (hK.load il.1) (v := .int (S.2 27 l.toNatClampNeg)) rfl ?_
        exact J.iret dX11_cargo_101 rfl (by rw [← hpost]; exact ⟨by simp (decide := true) [a_cargo, c1, ib_n.mp c1, z2], rfl⟩)
  · skip
    refine J.bipush (-9) 10 dX11_cargo_8 rfl (by decide) ?_
    exact J.iret dX11_cargo_10 rfl (by rw [← hpost]; exact ⟨by simp (decide := true) [a_cargo, c1, ib_0.mp c1], rfl⟩)
def a_flight (S : MS) (L : Nat → List Nat) (x t : Int32) : Int32 := if ¬ (0 ≤ x ∧ x < nI (L 4).length) then -9 else if t = 0 then S.2 36 x.toNatClampNeg else if t = 1 then S.2 37 x.toNatClampNeg else if t = 2 then S.2 38 x.toNatClampNeg else if t = 3 then S.2 39 x.toNatClampNeg else if t = 4 then S.2 40 x.toNatClampNeg else if t = 5 then S.2 41 x.toNatClampNeg else if t = 6 then S.2 42 x.toNatClampNeg else if t = 7 then S.2 43 x.toNatClampNeg else if t = 8 then S.2 44 x.toNatClampNeg else -9
theorem c_flight {G : Nat → Nat} {O : Nat → Prop} {ad : Nat → Nat → Nat} {S X : MS} {L : Nat → List Nat} {wn : Nat → Option Nat} {sl : Nat → Nat} {fl : Nat} {h : AH} {d : Nat} {x t : Int32} (hK : KR G O ad S X L wn sl fl h) (h4r : L 4 = List.range (L 4).length) (hb4 : (L 4).length ≤ 200) (hfl : (L 4).length ≤ fl) : Ct Y_X11_flight (d + 3) G 0 0 [.ref (ad 0 0), .int x, .int t] h (fun r h2 => r = some (.int (a_flight S L x t)) ∧ h2 = h) := by
  refine Ct.ofn 1 rfl (Nat.le_of_ble_eq_true rfl) (by simp [Value.category]) ?_
  generalize hpost : (fun (r : Option Value) (h2 : AH) => r = some (.int (a_flight S L x t)) ∧ h2 = h) = post
  show J Y_X11_flight (d + 3) G 0 0 0 [some (.ref (ad 0 0)), some (.int x), some (.int t), none] [] h post
  refine J.iload_n 1 dX11_flight_0 rfl rfl ?_
  refine J.iconst 0 2 dX11_flight_1 rfl (by decide) ?_
  refine J.aload_n 3 dX11_flight_2 rfl rfl ?_
  refine gf_X11_25 rfl 6 dX11_flight_3 rfl (hK.hut) (v := .ref (ad 1 4)) rfl ?_
  refine cv_X11_79 rfl 9 (hK.size (by omega)) dX11_flight_6 rfl (hK.listOb (by omega)).choose_spec rfl rfl (Nat.le_of_ble_eq_true rfl) (Nat.zero_le _) (Nat.zero_le _) (fun r h2 hp => ?_)
  obtain ⟨rfl, rfl⟩ := hp
  refine J.iconst 1 10 dX11_flight_9 rfl (by decide) ?_
  refine J.isub 11 dX11_flight_10 rfl ?_
  refine cs_X11_75 rfl 14 (c_isWithin (v := x) (a := 0) (b := (nI (L 4).length) - 1) _ _) dX11_flight_11 rfl rfl rfl (Nat.le_of_ble_eq_true rfl) (Nat.zero_le _) (Nat.zero_le _) (fun r h2 hp => ?_)
  obtain ⟨rfl, rfl⟩ := hp
  refine J.if_ne 20 17 dX11_flight_14 (by decide) rfl (fun c1 => ?_) (fun c1 => ?_)
  · skip
    have hc0 := (lt1b (show (L 4).length ≤ 100000 by omega) x).mp (ib_n.mp c1)
    have ix := idx_of hc0 (show (L 4).length ≤ 100000 by omega)
    have ixf : x.toNatClampNeg < fl := Nat.lt_of_lt_of_le ix.1 hfl
    refine J.aload_n 21 dX11_flight_20 rfl rfl ?_
    refine gf_X11_25 rfl 24 dX11_flight_21 rfl (hK.hut) (v := .ref (ad 1 4)) rfl ?_
    refine J.iload_n 25 dX11_flight_24 rfl rfl ?_
    have kg := hK.get (d := d) (r := 4) (i := x.toNatClampNeg) (by omega) (rng_get h4r ix.1)
    rw [ix.2] at kg
    refine cv_X11_132 rfl 28 kg dX11_flight_25 rfl (hK.listOb (by omega)).choose_spec rfl rfl (Nat.le_of_ble_eq_true rfl) (Nat.zero_le _) (Nat.zero_le _) (fun r h2 hp => ?_)
    obtain ⟨rfl, rfl⟩ := hp
    refine cc_X11_230 rfl 31 dX11_flight_28 rfl (hK.flt ixf) ?_
    refine J.ast_3 32 dX11_flight_31 rfl (by decide) ?_
    refine J.iload_n 33 dX11_flight_32 rfl rfl ?_
    by_cases c2 : (t).toInt < 0 ∨ 8 < (t).toInt
    · refine J.tsOut 129 dX11_flight_33 c2 (by decide) ?_
      refine J.bipush (-9) 131 dX11_flight_129 rfl (by decide) ?_
      exact J.iret dX11_flight_131 rfl (by rw [← hpost]; exact ⟨by simp (decide := true) [a_flight, hc0, c1, sw_out c2 0 (by decide) (by decide), sw_out c2 1 (by decide) (by decide), sw_out c2 2 (by decide) (by decide), sw_out c2 3 (by decide) (by decide), sw_out c2 4 (by decide) (by decide), sw_out c2 5 (by decide) (by decide), sw_out c2 6 (by decide) (by decide), sw_out c2 7 (by decide) (by decide), sw_out c2 8 (by decide) (by decide)], rfl⟩)
    · have q2 : (t).toInt = 0 ∨ (t).toInt = 1 ∨ (t).toInt = 2 ∨ (t).toInt = 3 ∨ (t).toInt = 4 ∨ (t).toInt = 5 ∨ (t).toInt = 6 ∨ (t).toInt = 7 ∨ (t).toInt = 8 := by omega
      rcases q2 with q2 | q2 | q2 | q2 | q2 | q2 | q2 | q2 | q2
      · have z2 : t = 0 := Int32.toInt_inj.mp (q2.trans (by decide))
        refine J.tsIn (k := 0) 84 dX11_flight_33 q2 (by decide) (by decide) rfl (by decide) ?_
        refine J.aload_n 85 dX11_flight_84 rfl rfl ?_
        refine gf_X11_232 rfl 88 dX11_flight_85 rfl (hK.flt ixf) (v := .int (S.2 36 x.toNatClampNeg)) rfl ?_
        exact J.iret dX11_flight_88 rfl (by rw [← hpost]; exact ⟨by simp (decide := true) [a_flight, hc0, c1, z2], rfl⟩)
      · have z2 : t = 1 := Int32.toInt_inj.mp (q2.trans (by decide))
        refine J.tsIn (k := 1) 89 dX11_flight_33 q2 (by decide) (by decide) rfl (by decide) ?_
        refine J.aload_n 90 dX11_flight_89 rfl rfl ?_
        refine gf_X11_233 rfl 93 dX11_flight_90 rfl (hK.flt ixf) (v := .int (S.2 37 x.toNatClampNeg)) rfl ?_
        exact J.iret dX11_flight_93 rfl (by rw [← hpost]; exact ⟨by simp (decide := true) [a_flight, hc0, c1, z2], rfl⟩)
      · have z2 : t = 2 := Int32.toInt_inj.mp (q2.trans (by decide))
        refine J.tsIn (k := 2) 94 dX11_flight_33 q2 (by decide) (by decide) rfl (by decide) ?_
        refine J.aload_n 95 dX11_flight_94 rfl rfl ?_
        refine gf_X11_236 rfl 98 dX11_flight_95 rfl (hK.flt ixf) (v := .int (S.2 38 x.toNatClampNeg)) rfl ?_
        exact J.iret dX11_flight_98 rfl (by rw [← hpost]; exact ⟨by simp (decide := true) [a_flight, hc0, c1, z2], rfl⟩)
      · have z2 : t = 3 := Int32.toInt_inj.mp (q2.trans (by decide))
        refine J.tsIn (k := 3) 99 dX11_flight_33 q2 (by decide) (by decide) rfl (by decide) ?_
        refine J.aload_n 100 dX11_flight_99 rfl rfl ?_
        refine gf_X11_239 rfl 103 dX11_flight_100 rfl (hK.flt ixf) (v := .int (S.2 39 x.toNatClampNeg)) rfl ?_
        exact J.iret dX11_flight_103 rfl (by rw [← hpost]; exact ⟨by simp (decide := true) [a_flight, hc0, c1, z2], rfl⟩)
      · have z2 : t = 4 := Int32.toInt_inj.mp (q2.trans (by decide))
        refine J.tsIn (k := 4) 104 dX11_flight_33 q2 (by decide) (by decide) rfl (by decide) ?_
        refine J.aload_n 105 dX11_flight_104 rfl rfl ?_
        refine gf_X11_241 rfl 108 dX11_flight_105 rfl (hK.flt ixf) (v := .int (S.2 40 x.toNatClampNeg)) rfl ?_
        exact J.iret dX11_flight_108 rfl (by rw [← hpost]; exact ⟨by simp (decide := true) [a_flight, hc0, c1, z2], rfl⟩)
      · have z2 : t = 5 := Int32.toInt_inj.mp (q2.trans (by decide))
        refine J.tsIn (k := 5) 109 dX11_flight_33 q2 (by decide) (by decide) rfl (by decide) ?_
        refine J.aload_n 110 dX11_flight_109 rfl rfl ?_
        refine gf_X11_244 rfl 113 dX11_flight_110 rfl (hK.flt ixf) (v := .int (S.2 41 x.toNatClampNeg)) rfl ?_
        exact J.iret dX11_flight_113 rfl (by rw [← hpost]; exact ⟨by simp (decide := true) [a_flight, hc0, c1, z2], rfl⟩)
      · have z2 : t = 6 := Int32.toInt_inj.mp (q2.trans (by decide))
        refine J.tsIn (k := 6) 114 dX11_flight_33 q2 (by decide) (by decide) rfl (by decide) ?_
        refine J.aload_n 115 dX11_flight_114 rfl rfl ?_
        refine gf_X11_247 rfl 118 dX11_flight_115 rfl (hK.flt ixf) (v := .int (S.2 42 x.toNatClampNeg)) rfl ?_
        exact J.iret dX11_flight_118 rfl (by rw [← hpost]; exact ⟨by simp (decide := true) [a_flight, hc0, c1, z2], rfl⟩)
      · have z2 : t = 7 := Int32.toInt_inj.mp (q2.trans (by decide))
        refine J.tsIn (k := 7) 119 dX11_flight_33 q2 (by decide) (by decide) rfl (by decide) ?_
        refine J.aload_n 120 dX11_flight_119 rfl rfl ?_
        refine gf_X11_250 rfl 123 dX11_flight_120 rfl (hK.flt ixf) (v := .int (S.2 43 x.toNatClampNeg)) rfl ?_
        exact J.iret dX11_flight_123 rfl (by rw [← hpost]; exact ⟨by simp (decide := true) [a_flight, hc0, c1, z2], rfl⟩)
      · have z2 : t = 8 := Int32.toInt_inj.mp (q2.trans (by decide))
        refine J.tsIn (k := 8) 124 dX11_flight_33 q2 (by decide) (by decide) rfl (by decide) ?_
        refine J.aload_n 125 dX11_flight_124 rfl rfl ?_
        refine gf_X11_253 rfl 128 dX11_flight_125 rfl (hK.flt ixf) (v := .int (S.2 44 x.toNatClampNeg)) rfl ?_
        exact J.iret dX11_flight_128 rfl (by rw [← hpost]; exact ⟨by simp (decide := true) [a_flight, hc0, c1, z2], rfl⟩)
  · skip
    have hc0 : ¬ (0 ≤ x ∧ x < nI (L 4).length) := fun z => ib_0.mp c1 ((lt1b (show (L 4).length ≤ 100000 by omega) x).mpr z)
    refine J.bipush (-9) 19 dX11_flight_17 rfl (by decide) ?_
    exact J.iret dX11_flight_19 rfl (by rw [← hpost]; exact ⟨by simp (decide := true) [a_flight, hc0, c1], rfl⟩)
def a_lift (S : MS) (L : Nat → List Nat) (m p x : Int32) : Int32 := if (0 ≤ m ∧ m < nI (L 1).length) ∧ (0 ≤ p ∧ p < nI (L 0).length) ∧ (0 ≤ x ∧ x ≤ 11) then (if 0 < S.2 7 m.toNatClampNeg - 4 * S.2 1 p.toNatClampNeg - S.2 5 (c_hour (x * 60)).toNatClampNeg then S.2 7 m.toNatClampNeg - 4 * S.2 1 p.toNatClampNeg - S.2 5 (c_hour (x * 60)).toNatClampNeg else 0) else -9
theorem c_lift {G : Nat → Nat} {O : Nat → Prop} {ad : Nat → Nat → Nat} {S X : MS} {L : Nat → List Nat} {wn : Nat → Option Nat} {sl : Nat → Nat} {fl : Nat} {h : AH} {d : Nat} {m p x : Int32} (hK : KR G O ad S X L wn sl fl h) (h1r : L 1 = List.range (L 1).length) (hb1 : (L 1).length ≤ 4) (h0r : L 0 = List.range (L 0).length) (hb0 : (L 0).length ≤ 12) (hx : (0 ≤ x ∧ x ≤ 11) → vp_in (c_hour (x * 60)) 12) : Ct Y_X11_lift (d + 3) G 0 0 [.ref (ad 0 0), .int m, .int p, .int x] h (fun r h2 => r = some (.int (a_lift S L m p x)) ∧ h2 = h) := by
  refine Ct.ofn 0 rfl (Nat.le_of_ble_eq_true rfl) (by simp [Value.category]) ?_
  generalize hpost : (fun (r : Option Value) (h2 : AH) => r = some (.int (a_lift S L m p x)) ∧ h2 = h) = post
  show J Y_X11_lift (d + 3) G 0 0 0 [some (.ref (ad 0 0)), some (.int m), some (.int p), some (.int x)] [] h post
  refine J.aload_n 1 dX11_lift_0 rfl rfl ?_
  refine J.iload_n 2 dX11_lift_1 rfl rfl ?_
  refine cv_X11_141 rfl 5 (c_isMachine (m := m) hK (by omega)) dX11_lift_2 rfl (hK.hut) rfl rfl (Nat.le_of_ble_eq_true rfl) (Nat.zero_le _) (Nat.zero_le _) (fun r h2 hp => ?_)
  obtain ⟨rfl, rfl⟩ := hp
  refine J.if_eq 35 8 dX11_lift_5 (by decide) rfl (fun c1 => ?_) (fun c1 => ?_)
  · skip
    refine J.bipush (-9) 37 dX11_lift_35 rfl (by decide) ?_
    exact J.iret dX11_lift_37 rfl (by rw [← hpost]; exact ⟨by simp (decide := true) [a_lift, c1, ib_0.mp c1], rfl⟩)
  · skip
    have im := idx_of (ib_n.mp c1) (show (L 1).length ≤ 100000 by omega)
    refine J.iload_n 9 dX11_lift_8 rfl rfl ?_
    refine J.iconst 0 10 dX11_lift_9 rfl (by decide) ?_
    refine J.aload_n 11 dX11_lift_10 rfl rfl ?_
    refine gf_X11_10 rfl 14 dX11_lift_11 rfl (hK.hut) (v := .ref (ad 1 0)) rfl ?_
    refine cv_X11_79 rfl 17 (hK.size (by omega)) dX11_lift_14 rfl (hK.listOb (by omega)).choose_spec rfl rfl (Nat.le_of_ble_eq_true rfl) (Nat.zero_le _) (Nat.zero_le _) (fun r h2 hp => ?_)
    obtain ⟨rfl, rfl⟩ := hp
    refine J.iconst 1 18 dX11_lift_17 rfl (by decide) ?_
    refine J.isub 19 dX11_lift_18 rfl ?_
    refine cs_X11_75 rfl 22 (c_isWithin (v := p) (a := 0) (b := (nI (L 0).length) - 1) _ _) dX11_lift_19 rfl rfl rfl (Nat.le_of_ble_eq_true rfl) (Nat.zero_le _) (Nat.zero_le _) (fun r h2 hp => ?_)
    obtain ⟨rfl, rfl⟩ := hp
    refine J.if_eq 35 25 dX11_lift_22 (by decide) rfl (fun c2 => ?_) (fun c2 => ?_)
    · skip
      have hp0 : ¬ (0 ≤ p ∧ p < nI (L 0).length) := fun z => ib_0.mp c2 ((lt1b (show (L 0).length ≤ 100000 by omega) p).mpr z)
      refine J.bipush (-9) 37 dX11_lift_35 rfl (by decide) ?_
      exact J.iret dX11_lift_37 rfl (by rw [← hpost]; exact ⟨by simp (decide := true) [a_lift, hp0, c1, ib_n.mp c1, c2, ib_0.mp c2], rfl⟩)
    · skip
      have hp0 := (lt1b (show (L 0).length ≤ 100000 by omega) p).mp (ib_n.mp c2)
      have ip := idx_of hp0 (show (L 0).length ≤ 100000 by omega)
      refine J.iload_n 26 dX11_lift_25 rfl rfl ?_
      refine J.iconst 0 27 dX11_lift_26 rfl (by decide) ?_
      refine J.bipush 11 29 dX11_lift_27 rfl (by decide) ?_
      refine cs_X11_75 rfl 32 (c_isWithin (v := x) (a := 0) (b := 11) _ _) dX11_lift_29 rfl rfl rfl (Nat.le_of_ble_eq_true rfl) (Nat.zero_le _) (Nat.zero_le _) (fun r h2 hp => ?_)
      obtain ⟨rfl, rfl⟩ := hp
      refine J.if_ne 38 35 dX11_lift_32 (by decide) rfl (fun c3 => ?_) (fun c3 => ?_)
      · skip
        refine J.aload_n 39 dX11_lift_38 rfl rfl ?_
        refine gf_X11_16 rfl 42 dX11_lift_39 rfl (hK.hut) (v := .ref (ad 1 1)) rfl ?_
        refine J.iload_n 43 dX11_lift_42 rfl rfl ?_
        have kg := hK.get (d := d) (r := 1) (i := m.toNatClampNeg) (by omega) (rng_get h1r im.1)
        rw [im.2] at kg
        refine cv_X11_132 rfl 46 kg dX11_lift_43 rfl (hK.listOb (by omega)).choose_spec rfl rfl (Nat.le_of_ble_eq_true rfl) (Nat.zero_le _) (Nat.zero_le _) (fun r h2 hp => ?_)
        obtain ⟨rfl, rfl⟩ := hp
        refine cc_X11_83 rfl 49 dX11_lift_46 rfl (hK.mach im.1) ?_
        refine J.aload_n 50 dX11_lift_49 rfl rfl ?_
        refine gf_X11_10 rfl 53 dX11_lift_50 rfl (hK.hut) (v := .ref (ad 1 0)) rfl ?_
        refine J.iload_n 54 dX11_lift_53 rfl rfl ?_
        have kg := hK.get (d := d) (r := 0) (i := p.toNatClampNeg) (by omega) (rng_get h0r ip.1)
        rw [ip.2] at kg
        refine cv_X11_132 rfl 57 kg dX11_lift_54 rfl (hK.listOb (by omega)).choose_spec rfl rfl (Nat.le_of_ble_eq_true rfl) (Nat.zero_le _) (Nat.zero_le _) (fun r h2 hp => ?_)
        obtain ⟨rfl, rfl⟩ := hp
        refine cc_X11_66 rfl 60 dX11_lift_57 rfl (hK.place ip.1) ?_
        refine gf_X11_255 rfl 63 dX11_lift_60 rfl (hK.place ip.1) (v := .int (S.2 1 p.toNatClampNeg)) rfl ?_
        refine J.aload_n 64 dX11_lift_63 rfl rfl ?_
        refine gf_X11_31 rfl 67 dX11_lift_64 rfl (hK.hut) (v := .ref (ad 10 0)) rfl ?_
        refine J.iload_n 68 dX11_lift_67 rfl rfl ?_
        refine J.bipush 60 70 dX11_lift_68 rfl (by decide) ?_
        refine J.imul 71 dX11_lift_70 rfl ?_
        refine cv_X11_199 rfl 74 (c_warmthAt (t := x * 60) hK (hx (ib_n.mp (by assumption)))) dX11_lift_71 rfl (hK.wea) rfl rfl (Nat.le_of_ble_eq_true rfl) (Nat.zero_le _) (Nat.zero_le _) (fun r h2 hp => ?_)
        obtain ⟨rfl, rfl⟩ := hp
        refine cv_X11_203 rfl 77 (c_strength (m := m.toNatClampNeg) (x := S.2 1 p.toNatClampNeg) (y := S.2 5 ((c_hour (x * 60)).toNatClampNeg)) hK im.1) dX11_lift_74 rfl (hK.mach im.1) rfl rfl (Nat.le_of_ble_eq_true rfl) (Nat.zero_le _) (Nat.zero_le _) (fun r h2 hp => ?_)
        obtain ⟨rfl, rfl⟩ := hp
        exact J.iret dX11_lift_77 rfl (by rw [← hpost]; exact ⟨by simp (decide := true) [a_lift, hp0, c1, ib_n.mp c1, c2, ib_n.mp c2, c3, ib_n.mp c3], rfl⟩)
      · skip
        refine J.bipush (-9) 37 dX11_lift_35 rfl (by decide) ?_
        exact J.iret dX11_lift_37 rfl (by rw [← hpost]; exact ⟨by simp (decide := true) [a_lift, hp0, c1, ib_n.mp c1, c2, ib_n.mp c2, c3, ib_0.mp c3], rfl⟩)
