theorem KR.inj6 {G : Nat → Nat} {O : Nat → Prop} {ad : Nat → Nat → Nat} {S X : MS} {L : Nat → List Nat} {wn : Nat → Option Nat} {sl : Nat → Nat} {fl : Nat} {h : AH} (hK : KR G O ad S X L wn sl fl h) {x y : Nat} (hx : x < (L 3).length) (hy : y < (L 3).length) (e : ad 6 x = ad 6 y) : x = y := by
  obtain ⟨ed, cp, h1, h2, h3, h4, h5, h6⟩ := hK
  exact (h2 6 x 6 y (by rw [cs_load hx]; exact fun z => by cases z) (by rw [cs_load hy]; exact fun z => by cases z) e).2
theorem erase_at {l : List Nat} {k i : Nat} (h : l[k]? = some i) (hn : i ∉ l.take k) : l.eraseIdx k = l.erase i := by
  induction l generalizing k with
  | nil => simp at h
  | cons a l ih =>
    cases k with
    | zero =>
      simp at h
      subst h
      simp
    | succ k =>
      rw [List.take_succ_cons, List.mem_cons, not_or] at hn
      rw [List.erase_cons_tail (by simpa using Ne.symm hn.1), List.eraseIdx_cons_succ, ih (by simpa using h) hn.2]
theorem notin_1 {l : List Nat} {k i y : Nat} (hy : l[k]? = some y) (h : i ∉ l.take k) (hne : ¬ y = i) : i ∉ l.take (k + 1) := by
  rw [take_1 hy, List.mem_append, List.mem_singleton]
  rintro (z | z)
  · exact h z
  · exact hne z.symm
theorem lset_id {L : Nat → List Nat} {r : Nat} : lset L r (L r) = L := by
  funext x
  unfold lset
  split
  · rename_i e
    rw [e]
  · rfl
theorem c_unhook {G : Nat → Nat} {O : Nat → Prop} {ad : Nat → Nat → Nat} {S X : MS} {L : Nat → List Nat} {wn : Nat → Option Nat} {sl : Nat → Nat} {fl : Nat} {h h0 : AH} {d : Nat} {m i : Nat} (hK : KR G O ad S X L wn sl fl h) (hF : KF O h0 h) (hm : m < (L 1).length) (hlen : (L (8 + m)).length ≤ 1000) (hi : i < (L 3).length) : Ct Y_X2_unhook (d + 3) G 0 0 [.ref (ad 4 m), .ref (ad 6 i)] h (fun r h2 => r = none ∧ KR G O ad S X (lset L (8 + m) ((L (8 + m)).erase i)) wn sl fl h2 ∧ KF O h0 h2) := by
  refine Ct.ofn 1 rfl (Nat.le_of_ble_eq_true rfl) (by simp [Value.category]) ?_
  generalize hpost : (fun (r : Option Value) (h2 : AH) => r = none ∧ KR G O ad S X (lset L (8 + m) ((L (8 + m)).erase i)) wn sl fl h2 ∧ KF O h0 h2) = post
  show J Y_X2_unhook (d + 3) G 0 0 0 [some (.ref (ad 4 m)), some (.ref (ad 6 i)), none] [] h post
  refine J.iconst 0 1 dX2_unhook_0 rfl (by decide) ?_
  refine J.ist_2 2 dX2_unhook_1 rfl (by decide) ?_
  have loop2 : ∀ (j k : Nat) (x2 : Int32), k ≤ (L (8 + m)).length → (L (8 + m)).length + 1 ≤ k + j → x2 = nI k → (i ∉ (L (8 + m)).take k) → ∀ h, KR G O ad S X L wn sl fl h → KF O h0 h → J Y_X2_unhook (d + 3) G 0 0 2 [some (.ref (ad 4 m)), some (.ref (ad 6 i)), some (.int x2)] [] h post := by
    intro j
    induction j with
    | zero => intro k _ g1 g2; exact absurd g2 (by omega)
    | succ j ih =>
      intro k x2 g1 g2 e2 hI h hK hF
      have q2 : x2.toNatClampNeg = k := by rw [e2]; exact nI_clamp (by omega)
      refine J.iload_n 3 dX2_unhook_2 rfl rfl ?_
      refine J.aload_n 4 dX2_unhook_3 rfl rfl ?_
      refine gf_X2_12 rfl 7 dX2_unhook_4 rfl (hK.mach hm) (v := .ref (ad 1 (8 + m))) rfl ?_
      refine cv_X2_61 rfl 10 (hK.size (by omega)) dX2_unhook_7 rfl (hK.listOb (by omega)).choose_spec rfl rfl (Nat.le_of_ble_eq_true rfl) (Nat.zero_le _) (Nat.zero_le _) (fun r h2 hp => ?_)
      obtain ⟨rfl, rfl⟩ := hp
      refine J.icmp_ge 41 13 dX2_unhook_10 (by decide) rfl (fun c1 => ?_) (fun c1 => ?_)
      · skip
        have hk : k = (L (8 + m)).length := Nat.le_antisymm g1 ((nI_leI (by omega) (by omega)).mp (by have z := c1; rw [e2] at z; exact z))
        exact J.vret dX2_unhook_41 rfl (by rw [← hpost]; exact ⟨rfl, by rw [List.erase_of_not_mem (by rw [hk, List.take_length] at hI; exact hI), lset_id]; exact hK, hF⟩)
      · skip
        have hk : k < (L (8 + m)).length := Nat.lt_of_not_le (fun y => c1 (by rw [e2]; exact nI_le y (by omega)))
        have hin : vp_in x2 1000 := by rw [e2]; exact vp_in_nI (by omega) (by decide)
        refine J.aload_n 14 dX2_unhook_13 rfl rfl ?_
        refine gf_X2_12 rfl 17 dX2_unhook_14 rfl (hK.mach hm) (v := .ref (ad 1 (8 + m))) rfl ?_
        refine J.iload_n 18 dX2_unhook_17 rfl rfl ?_
        obtain ⟨y, hy⟩ : ∃ y, (L (8 + m))[k]? = some y := ⟨_, List.getElem?_eq_getElem hk⟩
        have kg := hK.get (d := d) (by omega) hy
        rw [← e2] at kg
        rw [ek8] at kg
        refine cv_X2_43 rfl 21 kg dX2_unhook_18 rfl (hK.listOb (by omega)).choose_spec rfl rfl (Nat.le_of_ble_eq_true rfl) (Nat.zero_le _) (Nat.zero_le _) (fun r h2 hp => ?_)
        obtain ⟨rfl, rfl⟩ := hp
        refine J.aload_n 22 dX2_unhook_21 rfl rfl ?_
        refine J.acmp_ne 35 25 dX2_unhook_22 (by decide) rfl (fun c2 => ?_) (fun c2 => ?_)
        · skip
          refine J.iinc_2 1 38 dX2_unhook_35 rfl (by decide) (by decide) ?_
          refine J.goto 2 dX2_unhook_38 (by decide) ?_
          exact ih (k + 1) _ (by omega) (by omega) (by rw [e2]; exact nI_1 k) (notin_1 hy hI (fun z => (by assumption : ¬ ad 6 y = ad 6 i) (congrArg (ad 6) z))) _ hK hF
        · skip
          have hyi : y = i := hK.inj6 (hK.mem6 (by omega) (ek8 _) hy) hi c2
          refine J.aload_n 26 dX2_unhook_25 rfl rfl ?_
          refine gf_X2_12 rfl 29 dX2_unhook_26 rfl (hK.mach hm) (v := .ref (ad 1 (8 + m))) rfl ?_
          refine J.iload_n 30 dX2_unhook_29 rfl rfl ?_
          have kr := hK.remove (d := d) (h0 := h0) (r := 8 + m) (i := k) hF (by omega) (by omega) hy
          rw [← e2] at kr
          refine cv_X2_71 rfl 33 kr dX2_unhook_30 rfl (hK.listOb (by omega)).choose_spec rfl rfl (Nat.le_of_ble_eq_true rfl) (Nat.zero_le _) (Nat.zero_le _) (fun r h hp => ?_)
          obtain ⟨rfl, hK, hF⟩ := hp
          refine J.pop 34 dX2_unhook_33 rfl rfl ?_
          exact J.vret dX2_unhook_34 rfl (by rw [← hpost]; exact ⟨rfl, by rw [← erase_at (hyi ▸ hy) hI]; exact hK, hF⟩)
  exact loop2 ((L (8 + m)).length + 1) 0 _ (Nat.zero_le _) (by omega) rfl (by simp) _ hK hF
def a_offC (S : MS) (L : Nat → List Nat) (l : Int32) : Prop := S.2 23 l.toNatClampNeg = 1 ∧ 0 ≤ S.2 24 l.toNatClampNeg ∧ S.2 24 l.toNatClampNeg < nI (L 1).length
def a_off (S : MS) (L : Nat → List Nat) (l : Int32) : Int32 := if ¬ (0 ≤ l ∧ l < nI (L 3).length) then -1 else if S.2 23 l.toNatClampNeg = 1 ∧ 0 ≤ S.2 24 l.toNatClampNeg ∧ S.2 24 l.toNatClampNeg < nI (L 1).length then nI ((L (8 + (S.2 24 l.toNatClampNeg).toNatClampNeg)).erase l.toNatClampNeg).length else -3
def a_offS (S : MS) (L : Nat → List Nat) (l : Int32) : MS := if (0 ≤ l ∧ l < nI (L 3).length) ∧ S.2 23 l.toNatClampNeg = 1 ∧ 0 ≤ S.2 24 l.toNatClampNeg ∧ S.2 24 l.toNatClampNeg < nI (L 1).length then (S.1, u2 (u2 S.2 23 l.toNatClampNeg 0) 24 l.toNatClampNeg (-1)) else S
def a_offL (S : MS) (L : Nat → List Nat) (l : Int32) : Nat → List Nat := if (0 ≤ l ∧ l < nI (L 3).length) ∧ S.2 23 l.toNatClampNeg = 1 ∧ 0 ≤ S.2 24 l.toNatClampNeg ∧ S.2 24 l.toNatClampNeg < nI (L 1).length then lset L (8 + (S.2 24 l.toNatClampNeg).toNatClampNeg) ((L (8 + (S.2 24 l.toNatClampNeg).toNatClampNeg)).erase l.toNatClampNeg) else L
theorem c_off {G : Nat → Nat} {O : Nat → Prop} {ad : Nat → Nat → Nat} {S X : MS} {L : Nat → List Nat} {wn : Nat → Option Nat} {sl : Nat → Nat} {fl : Nat} {h h0 : AH} {d : Nat} {l : Int32} (hK : KR G O ad S X L wn sl fl h) (hF : KF O h0 h) (h1r : L 1 = List.range (L 1).length) (hb1 : (L 1).length ≤ 4) (h3r : L 3 = List.range (L 3).length) (hb3 : (L 3).length ≤ 80) (hlen : ∀ k, k < (L 1).length → (L (8 + k)).length ≤ 80) : Ct Y_X11_off (d + 4) G 0 0 [.ref (ad 0 0), .int l] h (fun r h2 => r = some (.int (a_off S L l)) ∧ KR G O ad (a_offS S L l) X (a_offL S L l) wn sl fl h2 ∧ KF O h0 h2) := by
  refine Ct.ofn 2 rfl (Nat.le_of_ble_eq_true rfl) (by simp [Value.category]) ?_
  generalize hpost : (fun (r : Option Value) (h2 : AH) => r = some (.int (a_off S L l)) ∧ KR G O ad (a_offS S L l) X (a_offL S L l) wn sl fl h2 ∧ KF O h0 h2) = post
  show J Y_X11_off (d + 4) G 0 0 0 [some (.ref (ad 0 0)), some (.int l), none, none] [] h post
  refine J.aload_n 1 dX11_off_0 rfl rfl ?_
  refine J.iload_n 2 dX11_off_1 rfl rfl ?_
  refine cv_X11_144 rfl 5 (c_isLoad (l := l) hK (by omega)) dX11_off_2 rfl (hK.hut) rfl rfl (Nat.le_of_ble_eq_true rfl) (Nat.zero_le _) (Nat.zero_le _) (fun r h2 hp => ?_)
  obtain ⟨rfl, rfl⟩ := hp
  refine J.if_ne 10 8 dX11_off_5 (by decide) rfl (fun c1 => ?_) (fun c1 => ?_)
  · skip
    have il := idx_of (ib_n.mp c1) (show (L 3).length ≤ 100000 by omega)
    refine J.aload_n 11 dX11_off_10 rfl rfl ?_
    refine gf_X11_22 rfl 14 dX11_off_11 rfl (hK.hut) (v := .ref (ad 1 3)) rfl ?_
    refine J.iload_n 15 dX11_off_14 rfl rfl ?_
    have kg := hK.get (d := d + 1) (r := 3) (i := l.toNatClampNeg) (by omega) (rng_get h3r il.1)
    rw [il.2] at kg
    refine cv_X11_132 rfl 18 kg dX11_off_15 rfl (hK.listOb (by omega)).choose_spec rfl rfl (Nat.le_of_ble_eq_true rfl) (Nat.zero_le _) (Nat.zero_le _) (fun r h2 hp => ?_)
    obtain ⟨rfl, rfl⟩ := hp
    refine cc_X11_95 rfl 21 dX11_off_18 rfl (hK.load il.1) ?_
    refine J.ast_2 22 dX11_off_21 rfl (by decide) ?_
    refine J.aload_n 23 dX11_off_22 rfl rfl ?_
    refine gf_X11_163 rfl 26 dX11_off_23 rfl (hK.load il.1) (v := .int (S.2 23 l.toNatClampNeg)) rfl ?_
    refine J.iconst 1 27 dX11_off_26 rfl (by decide) ?_
    refine J.icmp_ne 41 30 dX11_off_27 (by decide) rfl (fun c2 => ?_) (fun c2 => ?_)
    · skip
      refine J.bipush (-3) 43 dX11_off_41 rfl (by decide) ?_
      exact J.iret dX11_off_43 rfl (by rw [← hpost]; exact ⟨by simp [a_off, c1, ib_n.mp c1, c2], by rw [show a_offS S L l = S from by simp [a_offS, c1, ib_n.mp c1, c2], show a_offL S L l = L from by simp [a_offL, c1, ib_n.mp c1, c2]]; exact hK, hF⟩)
    · skip
      refine J.aload_n 31 dX11_off_30 rfl rfl ?_
      refine J.aload_n 32 dX11_off_31 rfl rfl ?_
      refine gf_X11_166 rfl 35 dX11_off_32 rfl (hK.load il.1) (v := .int (S.2 24 l.toNatClampNeg)) rfl ?_
      refine cv_X11_141 rfl 38 (c_isMachine (m := S.2 24 l.toNatClampNeg) hK (by omega)) dX11_off_35 rfl (hK.hut) rfl rfl (Nat.le_of_ble_eq_true rfl) (Nat.zero_le _) (Nat.zero_le _) (fun r h2 hp => ?_)
      obtain ⟨rfl, rfl⟩ := hp
      refine J.if_ne 44 41 dX11_off_38 (by decide) rfl (fun c3 => ?_) (fun c3 => ?_)
      · skip
        have iq := idx_of (ib_n.mp c3) (show (L 1).length ≤ 100000 by omega)
        refine J.aload_n 45 dX11_off_44 rfl rfl ?_
        refine gf_X11_16 rfl 48 dX11_off_45 rfl (hK.hut) (v := .ref (ad 1 1)) rfl ?_
        refine J.aload_n 49 dX11_off_48 rfl rfl ?_
        refine gf_X11_166 rfl 52 dX11_off_49 rfl (hK.load il.1) (v := .int (S.2 24 l.toNatClampNeg)) rfl ?_
        have kg := hK.get (d := d + 1) (r := 1) (i := (S.2 24 l.toNatClampNeg).toNatClampNeg) (by omega) (rng_get h1r iq.1)
        rw [iq.2] at kg
        refine cv_X11_132 rfl 55 kg dX11_off_52 rfl (hK.listOb (by omega)).choose_spec rfl rfl (Nat.le_of_ble_eq_true rfl) (Nat.zero_le _) (Nat.zero_le _) (fun r h2 hp => ?_)
        obtain ⟨rfl, rfl⟩ := hp
        refine cc_X11_83 rfl 58 dX11_off_55 rfl (hK.mach iq.1) ?_
        refine J.ast_3 59 dX11_off_58 rfl (by decide) ?_
        refine J.aload_n 60 dX11_off_59 rfl rfl ?_
        refine J.aload_n 61 dX11_off_60 rfl rfl ?_
        refine cv_X11_169 rfl 64 (c_unhook (h0 := h0) (m := (S.2 24 l.toNatClampNeg).toNatClampNeg) (i := l.toNatClampNeg) hK hF iq.1 (by have := hlen _ iq.1; omega) il.1) dX11_off_61 rfl (hK.mach iq.1) rfl rfl (Nat.le_of_ble_eq_true rfl) (Nat.zero_le _) (Nat.zero_le _) (fun r h hp => ?_)
        obtain ⟨rfl, hK, hF⟩ := hp
        have iq2 : (S.2 24 l.toNatClampNeg).toNatClampNeg < ((lset L (8 + (S.2 24 l.toNatClampNeg).toNatClampNeg) ((L (8 + (S.2 24 l.toNatClampNeg).toNatClampNeg)).erase l.toNatClampNeg)) 1).length := by rw [lset_n (by omega)]; exact iq.1
        have il2 : l.toNatClampNeg < ((lset L (8 + (S.2 24 l.toNatClampNeg).toNatClampNeg) ((L (8 + (S.2 24 l.toNatClampNeg).toNatClampNeg)).erase l.toNatClampNeg)) 3).length := by rw [lset_n (by omega)]; exact il.1
        refine J.aload_n 65 dX11_off_64 rfl rfl ?_
        refine J.iconst 0 66 dX11_off_65 rfl (by decide) ?_
        refine pf_X11_163 rfl 69 dX11_off_66 rfl (hK.load il2) (Nat.le_of_ble_eq_true rfl) ?_
        refine ks_6_7 il2 hK hF (fun h hK hF => ?_)
        refine J.aload_n 70 dX11_off_69 rfl rfl ?_
        refine J.iconst (-1) 71 dX11_off_70 rfl (by decide) ?_
        refine pf_X11_166 rfl 74 dX11_off_71 rfl (hK.load il2) (Nat.le_of_ble_eq_true rfl) ?_
        refine ks_6_8 il2 hK hF (fun h hK hF => ?_)
        refine J.aload_n 75 dX11_off_74 rfl rfl ?_
        refine gf_X11_160 rfl 78 dX11_off_75 rfl (hK.mach iq2) (v := .ref (ad 1 (8 + (S.2 24 l.toNatClampNeg).toNatClampNeg))) rfl ?_
        have ks := hK.size (d := d + 3) (r := 8 + (S.2 24 l.toNatClampNeg).toNatClampNeg) (by have := iq2; omega)
        rw [lset_s] at ks
        refine cv_X11_79 rfl 81 ks dX11_off_78 rfl (hK.listOb (r := 8 + (S.2 24 l.toNatClampNeg).toNatClampNeg) (by have := iq2; omega)).choose_spec rfl rfl (Nat.le_of_ble_eq_true rfl) (Nat.zero_le _) (Nat.zero_le _) (fun r h2 hp => ?_)
        obtain ⟨rfl, rfl⟩ := hp
        exact J.iret dX11_off_81 rfl (by rw [← hpost]; exact ⟨by simp [a_off, c1, ib_n.mp c1, c2, c3, ib_n.mp c3], by rw [show a_offS S L l = (S.1, u2 (u2 S.2 23 l.toNatClampNeg 0) 24 l.toNatClampNeg (-1)) from by simp [a_offS, c1, ib_n.mp c1, c2, c3, ib_n.mp c3], show a_offL S L l = lset L (8 + (S.2 24 l.toNatClampNeg).toNatClampNeg) ((L (8 + (S.2 24 l.toNatClampNeg).toNatClampNeg)).erase l.toNatClampNeg) from by simp [a_offL, c1, ib_n.mp c1, c2, c3, ib_n.mp c3]]; exact hK, hF⟩)
      · skip
        refine J.bipush (-3) 43 dX11_off_41 rfl (by decide) ?_
        exact J.iret dX11_off_43 rfl (by rw [← hpost]; exact ⟨by simp [a_off, c1, ib_n.mp c1, c2, c3, ib_0.mp c3], by rw [show a_offS S L l = S from by simp [a_offS, c1, ib_n.mp c1, c2, c3, ib_0.mp c3], show a_offL S L l = L from by simp [a_offL, c1, ib_n.mp c1, c2, c3, ib_0.mp c3]]; exact hK, hF⟩)
  · skip
    refine J.iconst (-1) 9 dX11_off_8 rfl (by decide) ?_
    exact J.iret dX11_off_9 rfl (by rw [← hpost]; exact ⟨by simp [a_off, c1, ib_0.mp c1], by rw [show a_offS S L l = S from by simp [a_offS, c1, ib_0.mp c1], show a_offL S L l = L from by simp [a_offL, c1, ib_0.mp c1]]; exact hK, hF⟩)
def a_hangC (S : MS) (L : Nat → List Nat) (m l : Int32) : Prop := ¬ S.1 0 < S.2 10 m.toNatClampNeg ∧ (S.2 23 l.toNatClampNeg = 0 ∧ S.2 21 l.toNatClampNeg ≤ S.1 0 ∧ ¬ S.2 20 l.toNatClampNeg = 4) ∧ (tkB S (L (8 + m.toNatClampNeg)) l.toNatClampNeg = true)
noncomputable def a_hang (S : MS) (L : Nat → List Nat) (m l : Int32) : Int32 := if ¬ ((0 ≤ m ∧ m < nI (L 1).length) ∧ (0 ≤ l ∧ l < nI (L 3).length)) then -1 else if ¬ S.1 0 < S.2 10 m.toNatClampNeg ∧ (S.2 23 l.toNatClampNeg = 0 ∧ S.2 21 l.toNatClampNeg ≤ S.1 0 ∧ ¬ S.2 20 l.toNatClampNeg = 4) ∧ (tkB S (L (8 + m.toNatClampNeg)) l.toNatClampNeg = true) then nI ((L (8 + m.toNatClampNeg)) ++ [l.toNatClampNeg]).length else -3
noncomputable def a_hangS (S : MS) (L : Nat → List Nat) (m l : Int32) : MS := if ((0 ≤ m ∧ m < nI (L 1).length) ∧ (0 ≤ l ∧ l < nI (L 3).length)) ∧ ¬ S.1 0 < S.2 10 m.toNatClampNeg ∧ (S.2 23 l.toNatClampNeg = 0 ∧ S.2 21 l.toNatClampNeg ≤ S.1 0 ∧ ¬ S.2 20 l.toNatClampNeg = 4) ∧ (tkB S (L (8 + m.toNatClampNeg)) l.toNatClampNeg = true) then (S.1, u2 (u2 S.2 23 l.toNatClampNeg 1) 24 l.toNatClampNeg m) else S
noncomputable def a_hangL (S : MS) (L : Nat → List Nat) (m l : Int32) : Nat → List Nat := if ((0 ≤ m ∧ m < nI (L 1).length) ∧ (0 ≤ l ∧ l < nI (L 3).length)) ∧ ¬ S.1 0 < S.2 10 m.toNatClampNeg ∧ (S.2 23 l.toNatClampNeg = 0 ∧ S.2 21 l.toNatClampNeg ≤ S.1 0 ∧ ¬ S.2 20 l.toNatClampNeg = 4) ∧ (tkB S (L (8 + m.toNatClampNeg)) l.toNatClampNeg = true) then lset L (8 + m.toNatClampNeg) ((L (8 + m.toNatClampNeg)) ++ [l.toNatClampNeg]) else L
theorem c_hang {G : Nat → Nat} {O : Nat → Prop} {ad : Nat → Nat → Nat} {S X : MS} {L : Nat → List Nat} {wn : Nat → Option Nat} {sl : Nat → Nat} {fl : Nat} {h h0 : AH} {d : Nat} {m l : Int32} (hK : KR G O ad S X L wn sl fl h) (hF : KF O h0 h) (h1r : L 1 = List.range (L 1).length) (hb1 : (L 1).length ≤ 4) (h3r : L 3 = List.range (L 3).length) (hb3 : (L 3).length ≤ 80) (hlen : ∀ k, k < (L 1).length → (L (8 + k)).length ≤ 80) : Ct Y_X11_hang (d + 7) G 1 170 [.ref (ad 0 0), .int m, .int l] h (fun r h2 => r = some (.int (a_hang S L m l)) ∧ KR G O ad (a_hangS S L m l) X (a_hangL S L m l) wn sl fl h2 ∧ KF O h0 h2) := by
  refine Ct.ofn 2 rfl (Nat.le_of_ble_eq_true rfl) (by simp [Value.category]) ?_
  generalize hpost : (fun (r : Option Value) (h2 : AH) => r = some (.int (a_hang S L m l)) ∧ KR G O ad (a_hangS S L m l) X (a_hangL S L m l) wn sl fl h2 ∧ KF O h0 h2) = post
  show J Y_X11_hang (d + 7) G 1 170 0 [some (.ref (ad 0 0)), some (.int m), some (.int l), none, none] [] h post
  refine J.aload_n 1 dX11_hang_0 rfl rfl ?_
  refine J.iload_n 2 dX11_hang_1 rfl rfl ?_
  refine cv_X11_141 rfl 5 (c_isMachine (m := m) hK (by omega)) dX11_hang_2 rfl (hK.hut) rfl rfl (Nat.le_of_ble_eq_true rfl) (Nat.zero_le _) (Nat.zero_le _) (fun r h2 hp => ?_)
  obtain ⟨rfl, rfl⟩ := hp
  refine J.if_eq 16 8 dX11_hang_5 (by decide) rfl (fun c1 => ?_) (fun c1 => ?_)
  · skip
    refine J.iconst (-1) 17 dX11_hang_16 rfl (by decide) ?_
    exact J.iret dX11_hang_17 rfl (by rw [← hpost]; exact ⟨by simp [a_hang, c1, ib_0.mp c1], by rw [show a_hangS S L m l = S from by simp [a_hangS, c1, ib_0.mp c1], show a_hangL S L m l = L from by simp [a_hangL, c1, ib_0.mp c1]]; exact hK, hF⟩)
  · skip
    have im := idx_of (ib_n.mp c1) (show (L 1).length ≤ 100000 by omega)
    refine J.aload_n 9 dX11_hang_8 rfl rfl ?_
    refine J.iload_n 10 dX11_hang_9 rfl rfl ?_
    refine cv_X11_144 rfl 13 (c_isLoad (l := l) hK (by omega)) dX11_hang_10 rfl (hK.hut) rfl rfl (Nat.le_of_ble_eq_true rfl) (Nat.zero_le _) (Nat.zero_le _) (fun r h2 hp => ?_)
    obtain ⟨rfl, rfl⟩ := hp
    refine J.if_ne 18 16 dX11_hang_13 (by decide) rfl (fun c2 => ?_) (fun c2 => ?_)
    · skip
      have il := idx_of (ib_n.mp c2) (show (L 3).length ≤ 100000 by omega)
      refine J.aload_n 19 dX11_hang_18 rfl rfl ?_
      refine gf_X11_16 rfl 22 dX11_hang_19 rfl (hK.hut) (v := .ref (ad 1 1)) rfl ?_
      refine J.iload_n 23 dX11_hang_22 rfl rfl ?_
      have kg := hK.get (d := d + 4) (r := 1) (i := m.toNatClampNeg) (by omega) (rng_get h1r im.1)
      rw [im.2] at kg
      refine cv_X11_132 rfl 26 kg dX11_hang_23 rfl (hK.listOb (by omega)).choose_spec rfl rfl (Nat.le_of_ble_eq_true rfl) (Nat.zero_le _) (Nat.zero_le _) (fun r h2 hp => ?_)
      obtain ⟨rfl, rfl⟩ := hp
      refine cc_X11_83 rfl 29 dX11_hang_26 rfl (hK.mach im.1) ?_
      refine J.ast_3 30 dX11_hang_29 rfl (by decide) ?_
      refine J.aload_n 31 dX11_hang_30 rfl rfl ?_
      refine gf_X11_22 rfl 34 dX11_hang_31 rfl (hK.hut) (v := .ref (ad 1 3)) rfl ?_
      refine J.iload_n 35 dX11_hang_34 rfl rfl ?_
      have kg := hK.get (d := d + 4) (r := 3) (i := l.toNatClampNeg) (by omega) (rng_get h3r il.1)
      rw [il.2] at kg
      refine cv_X11_132 rfl 38 kg dX11_hang_35 rfl (hK.listOb (by omega)).choose_spec rfl rfl (Nat.le_of_ble_eq_true rfl) (Nat.zero_le _) (Nat.zero_le _) (fun r h2 hp => ?_)
      obtain ⟨rfl, rfl⟩ := hp
      refine cc_X11_95 rfl 41 dX11_hang_38 rfl (hK.load il.1) ?_
      refine J.ast_4 43 dX11_hang_41 rfl (by decide) ?_
      refine J.aload_n 44 dX11_hang_43 rfl rfl ?_
      refine gf_X11_147 rfl 47 dX11_hang_44 rfl (hK.mach im.1) (v := .int (S.2 10 m.toNatClampNeg)) rfl ?_
      refine J.aload_n 48 dX11_hang_47 rfl rfl ?_
      refine gf_X11_150 rfl 51 dX11_hang_48 rfl (hK.hut) (v := .int (S.1 0)) rfl ?_
      refine J.icmp_gt 75 54 dX11_hang_51 (by decide) rfl (fun c3 => ?_) (fun c3 => ?_)
      · skip
        refine J.bipush (-3) 77 dX11_hang_75 rfl (by decide) ?_
        exact J.iret dX11_hang_77 rfl (by rw [← hpost]; exact ⟨by simp [a_hang, c1, ib_n.mp c1, c2, ib_n.mp c2, c3, Int32.not_le.mpr c3], by rw [show a_hangS S L m l = S from by simp [a_hangS, c1, ib_n.mp c1, c2, ib_n.mp c2, c3, Int32.not_le.mpr c3], show a_hangL S L m l = L from by simp [a_hangL, c1, ib_n.mp c1, c2, ib_n.mp c2, c3, Int32.not_le.mpr c3]]; exact hK, hF⟩)
      · skip
        refine J.aload 56 dX11_hang_54 rfl rfl ?_
        refine J.aload_n 57 dX11_hang_56 rfl rfl ?_
        refine gf_X11_150 rfl 60 dX11_hang_57 rfl (hK.hut) (v := .int (S.1 0)) rfl ?_
        refine cv_X11_153 rfl 63 (c_canHang (i := l.toNatClampNeg) (t := S.1 0) hK il.1) dX11_hang_60 rfl (hK.load il.1) rfl rfl (Nat.le_of_ble_eq_true rfl) (Nat.zero_le _) (Nat.zero_le _) (fun r h2 hp => ?_)
        obtain ⟨rfl, rfl⟩ := hp
        refine J.if_eq 75 66 dX11_hang_63 (by decide) rfl (fun c4 => ?_) (fun c4 => ?_)
        · skip
          refine J.bipush (-3) 77 dX11_hang_75 rfl (by decide) ?_
          exact J.iret dX11_hang_77 rfl (by rw [← hpost]; exact ⟨by simp [a_hang, c1, ib_n.mp c1, c2, ib_n.mp c2, c3, Int32.not_lt.mp c3, c4, ib_0.mp c4], by rw [show a_hangS S L m l = S from by simp [a_hangS, c1, ib_n.mp c1, c2, ib_n.mp c2, c3, Int32.not_lt.mp c3, c4, ib_0.mp c4], show a_hangL S L m l = L from by simp [a_hangL, c1, ib_n.mp c1, c2, ib_n.mp c2, c3, Int32.not_lt.mp c3, c4, ib_0.mp c4]]; exact hK, hF⟩)
        · skip
          refine J.aload_n 67 dX11_hang_66 rfl rfl ?_
          refine J.aload 69 dX11_hang_67 rfl rfl ?_
          refine cv_X11_156 rfl 72 (c_takes (m := m.toNatClampNeg) (i := l.toNatClampNeg) hK im.1 (by have := hlen _ im.1; omega) il.1) dX11_hang_69 rfl (hK.mach im.1) rfl rfl (Nat.le_of_ble_eq_true rfl) (Nat.zero_le _) (Nat.zero_le _) (fun r h2 hp => ?_)
          obtain ⟨rfl, rfl⟩ := hp
          refine J.if_ne 78 75 dX11_hang_72 (by decide) rfl (fun c5 => ?_) (fun c5 => ?_)
          · skip
            refine J.aload_n 79 dX11_hang_78 rfl rfl ?_
            refine gf_X11_160 rfl 82 dX11_hang_79 rfl (hK.mach im.1) (v := .ref (ad 1 (8 + m.toNatClampNeg))) rfl ?_
            refine J.aload 84 dX11_hang_82 rfl rfl ?_
            have ka := hK.add (M := 170) (d := d) (h0 := h0) (r := 8 + m.toNatClampNeg) (x := l.toNatClampNeg) hF (by have := im.1; omega) (by omega) (by have := hlen _ im.1; omega) (by have := hlen _ im.1; omega) (by rw [ek8]; exact (show cs _ _ _ _ _ _ _ 6 _ ≠ none from by rw [cs_load il.1]; exact fun z => by cases z))
            rw [ek8] at ka
            refine cv_X11_71 rfl 87 ka dX11_hang_84 rfl (hK.listOb (by have := im.1; omega)).choose_spec rfl rfl (Nat.le_of_ble_eq_true rfl) (by decide) (by decide) (fun r h hp => ?_)
            obtain ⟨rfl, hK, hF⟩ := hp
            have im2 : m.toNatClampNeg < ((lset L (8 + m.toNatClampNeg) ((L (8 + m.toNatClampNeg)) ++ [l.toNatClampNeg])) 1).length := by rw [lset_n (by omega)]; exact im.1
            have il2 : l.toNatClampNeg < ((lset L (8 + m.toNatClampNeg) ((L (8 + m.toNatClampNeg)) ++ [l.toNatClampNeg])) 3).length := by rw [lset_n (by omega)]; exact il.1
            refine J.pop 88 dX11_hang_87 rfl rfl ?_
            refine J.aload 90 dX11_hang_88 rfl rfl ?_
            refine J.iconst 1 91 dX11_hang_90 rfl (by decide) ?_
            refine pf_X11_163 rfl 94 dX11_hang_91 rfl (hK.load il2) (Nat.le_of_ble_eq_true rfl) ?_
            refine ks_6_7 il2 hK hF (fun h hK hF => ?_)
            refine J.aload 96 dX11_hang_94 rfl rfl ?_
            refine J.iload_n 97 dX11_hang_96 rfl rfl ?_
            refine pf_X11_166 rfl 100 dX11_hang_97 rfl (hK.load il2) (Nat.le_of_ble_eq_true rfl) ?_
            refine ks_6_8 il2 hK hF (fun h hK hF => ?_)
            refine J.aload_n 101 dX11_hang_100 rfl rfl ?_
            refine gf_X11_160 rfl 104 dX11_hang_101 rfl (hK.mach im2) (v := .ref (ad 1 (8 + m.toNatClampNeg))) rfl ?_
            have ks := hK.size (d := d + 6) (r := 8 + m.toNatClampNeg) (by have := im2; omega)
            rw [lset_s] at ks
            refine cv_X11_79 rfl 107 ks dX11_hang_104 rfl (hK.listOb (r := 8 + m.toNatClampNeg) (by have := im2; omega)).choose_spec rfl rfl (Nat.le_of_ble_eq_true rfl) (Nat.zero_le _) (Nat.zero_le _) (fun r h2 hp => ?_)
            obtain ⟨rfl, rfl⟩ := hp
            exact J.iret dX11_hang_107 rfl (by rw [← hpost]; exact ⟨by simp [a_hang, c1, ib_n.mp c1, c2, ib_n.mp c2, c3, Int32.not_lt.mp c3, c4, ib_n.mp c4, c5, ib_n.mp c5], by rw [show a_hangS S L m l = (S.1, u2 (u2 S.2 23 l.toNatClampNeg 1) 24 l.toNatClampNeg m) from by simp [a_hangS, c1, ib_n.mp c1, c2, ib_n.mp c2, c3, Int32.not_lt.mp c3, c4, ib_n.mp c4, c5, ib_n.mp c5], show a_hangL S L m l = lset L (8 + m.toNatClampNeg) (L (8 + m.toNatClampNeg) ++ [l.toNatClampNeg]) from by simp [a_hangL, c1, ib_n.mp c1, c2, ib_n.mp c2, c3, Int32.not_lt.mp c3, c4, ib_n.mp c4, c5, ib_n.mp c5]]; exact hK, hF⟩)
          · skip
            refine J.bipush (-3) 77 dX11_hang_75 rfl (by decide) ?_
            exact J.iret dX11_hang_77 rfl (by rw [← hpost]; exact ⟨by simp [a_hang, c1, ib_n.mp c1, c2, ib_n.mp c2, c3, Int32.not_lt.mp c3, c4, ib_n.mp c4, c5, ib_0.mp c5], by rw [show a_hangS S L m l = S from by simp [a_hangS, c1, ib_n.mp c1, c2, ib_n.mp c2, c3, Int32.not_lt.mp c3, c4, ib_n.mp c4, c5, ib_0.mp c5], show a_hangL S L m l = L from by simp [a_hangL, c1, ib_n.mp c1, c2, ib_n.mp c2, c3, Int32.not_lt.mp c3, c4, ib_n.mp c4, c5, ib_0.mp c5]]; exact hK, hF⟩)
    · skip
      refine J.iconst (-1) 17 dX11_hang_16 rfl (by decide) ?_
      exact J.iret dX11_hang_17 rfl (by rw [← hpost]; exact ⟨by simp [a_hang, c1, ib_n.mp c1, c2, ib_0.mp c2], by rw [show a_hangS S L m l = S from by simp [a_hangS, c1, ib_n.mp c1, c2, ib_0.mp c2], show a_hangL S L m l = L from by simp [a_hangL, c1, ib_n.mp c1, c2, ib_0.mp c2]]; exact hK, hF⟩)
