/-! ===== why a flight may not be; may ===== -/
theorem opS_33 {n : Nat} {t p m f c : Int32} {Y : MS} : (opS n t p m f Y c).1 33 = Y.1 33 := by
  rw [opS]
  (repeat' split) <;> rfl
theorem wN_33 {T : MS} {n : Nat} {i t p m f : Int32} : ∀ k, (wN T n i t p m f k).1.1 33 = T.1 33
  | 0 => rfl
  | k + 1 => by
    have ih := wN_33 (T := T) (n := n) (i := i) (t := t) (p := p) (m := m) (f := f) k
    rw [wN_s, wStep_eq]
    split
    · exact ih
    · show (opS n t p m f _ _).1 33 = _
      rw [opS_33]
      split <;> exact ih
theorem sW_33 {S : MS} {n : Nat} {i t p m f : Int32} : (sW S n i t p m f).1 33 = S.1 33 := by
  rw [sW, s_work]
  split
  · exact wN_33 _
  · exact wN_33 (T := (vf_upd S.1 35 0, S.2)) _
section WY
variable {G : Nat → Nat} {x0 m0 : Nat} {adm : Nat → Nat} {S X : MS} {L : Nat → List Nat} {wn : Nat → Option Nat} {sl : Nat → Nat} {fl : Nat} {ad : Nat → Nat → Nat} {h : AH}
/-- the rules one after the other, on the model's side -/
theorem wSt_p {F : MS} {n u : Nat} {y m p : Int32} (hr : rOK F u) (hu : u ≤ 10) : ∀ k, k ≤ u → pR F (wSt F n y m p k)
  | 0, _ => pR.refl
  | k + 1, hk => by
    have ih := wSt_p (n := n) (y := y) (m := m) (p := p) hr hu k (by omega)
    obtain ⟨q, h1, h2, h3⟩ := (hr.of ih) k (by omega)
    rw [wSt]
    exact ih.trans (rW_ev (show k < 10 by omega) h1 h2 h3).2
theorem wV_ev {F : MS} {n u k : Nat} {y m p : Int32} (hr : rOK F u) (hu : u ≤ 10) (hk : k < u) : wV F n y m p k = rEv F n k (F.1 0) p m (F.2 14 y.toNatClampNeg) := by
  have ih := wSt_p (n := n) (y := y) (m := m) (p := p) hr hu k (by omega)
  obtain ⟨q, h1, h2, h3⟩ := (hr.of ih) k hk
  rw [wV, (rW_ev (show k < 10 by omega) h1 h2 h3).1, ← rEv_of ih, rEv, ih.1 0 (by decide), ih.2 14 (by decide), show rlen (wSt F n y m p k) k = q from by rw [rlen, h2]; exact nI_clamp (by omega)]
theorem rF_fb {F Y : MS} {n u : Nat} {y m p : Int32} (hr : rOK F u) (hu : u ≤ 10) (hev : ∀ i, i < u → wV F n y m p i = evC Y i) : ∀ j k, k + j = u → (rF F n y m p j k).1 = (if 0 ≤ fbN Y j k then 10 + fbN Y j k else 0) ∧ pR F (rF F n y m p j k).2
  | 0, k, hk => by
    rw [rF, fbN]
    exact ⟨rfl, wSt_p hr hu k (by omega)⟩
  | j + 1, k, hk => by
    rw [rF, fbN, hev k (by omega)]
    by_cases h0 : evC Y k = 0
    · have hz : (0 : Int32) ≤ nI k := (nI_leI (a := 0) (by decide) (by omega)).mpr (Nat.zero_le _)
      rw [if_pos h0, if_pos h0, if_pos hz]
      exact ⟨rfl, wSt_p hr hu (k + 1) (by omega)⟩
    · rw [if_neg h0, if_neg h0]
      exact rF_fb hr hu hev j (k + 1) (by omega)
theorem ask_plan {m y p : Int32} {l : List Nat} : x_ask (a_plan S L m y p) X (lset L 5 l) m y p = x_ask S X L m y p := by
  have e : lset L 5 l (8 + m.toNatClampNeg) = L (8 + m.toNatClampNeg) := lset_n (by omega)
  rw [x_ask, x_ask, e]
  rfl
theorem Inv.mrok (hI : Inv S X L wn sl fl) : rOK S (L 6).length := hI.ru.rok hI.co.b6
theorem Inv.evs {m y p : Int32} (hI : Inv S X L wn sl fl) (hm : 0 ≤ m ∧ m < nI (L 1).length) (hp : 0 < p ∧ p < nI (L 0).length) : ∀ i, i < (L 6).length → evC (x_ask S X L m y p) i = rEv S (L 3).length i (S.1 0) p m (S.2 14 y.toNatClampNeg) := fun i hi =>
  hI.ru.ev hI.co.b6 hi (congrFun (x_ask_r 8 (by decide)) _) (x_ask_r _ (by omega)) (hI.env hm hp)
theorem Inv.why {m y p : Int32} (hI : Inv S X L wn sl fl) (hm : 0 ≤ m ∧ m < nI (L 1).length) (hy : 0 ≤ y ∧ y < nI (L 2).length) (hp : 0 < p ∧ p < nI (L 0).length) : a_why (a_plan S L m y p) X (lset L 5 (a_rid S L m p)) (L 4).length = r_why S (L 3).length (L 6).length m y p ∧ mSc S (s_why S (L 3).length (L 6).length m y p) ∧ pR (s_find S (L 3).length m p) (s_why S (L 3).length (L 6).length m y p) := by
  obtain ⟨t, ht, et⟩ := hI.tm
  obtain ⟨w, hw, ew⟩ := hI.wayr (m := m) hp
  obtain ⟨i1, i2, hpm⟩ := hI.prm hm
  have eh0 : m_hour (S.1 0) = c_hour (S.1 0) := hour_eq et (by omega)
  have eh1 : m_hour (S.1 0 + a_way S L m p) = c_hour (S.1 0 + a_way S L m p) := by
    rw [et, ew, nI_add]
    exact hour_eq rfl (by omega)
  have hfr : ∀ k, k ≠ 49 → (s_find S (L 3).length m p).2 k = S.2 k := fun k hk => find_r hk
  have hmf : mSc S (s_find S (L 3).length m p) := ⟨fun k _ a b c => find_i a b c, fun k _ b => find_r b⟩
  have eLm : lset L 5 (a_rid S L m p) (8 + m.toNatClampNeg) = L (8 + m.toNatClampNeg) := lset_n (by omega)
  have eL6 : lset L 5 (a_rid S L m p) 6 = L 6 := lset_n (by decide)
  rw [a_why, a_plan_36, a_plan_37, a_plan_38, a_plan_39, a_plan_40, a_plan_41, a_plan_42, a_plan_i, eLm, eL6, ask_plan, r_why, s_why, why1]
  rw [show ∀ k x z, a_str (a_plan S L m y p) k x z = a_str S k x z from fun _ _ _ => rfl, show ∀ k x z, a_str (a_plan S L m y p) k x z = a_str S k x z from fun _ _ _ => rfl]
  simp only [a_plan_r (S := S) (L := L) (m := m) (y := y) (p := p) _ (Or.inl (by decide : 10 < 36)), a_plan_r (S := S) (L := L) (m := m) (y := y) (p := p) _ (Or.inl (by decide : 15 < 36)), a_plan_r (S := S) (L := L) (m := m) (y := y) (p := p) _ (Or.inl (by decide : 17 < 36)), a_plan_r (S := S) (L := L) (m := m) (y := y) (p := p) _ (Or.inl (by decide : 5 < 36)), a_plan_r (S := S) (L := L) (m := m) (y := y) (p := p) _ (Or.inl (by decide : 7 < 36)), a_plan_r (S := S) (L := L) (m := m) (y := y) (p := p) _ (Or.inl (by decide : 18 < 36)), a_plan_r (S := S) (L := L) (m := m) (y := y) (p := p) _ (Or.inl (by decide : 1 < 36)), a_plan_r (S := S) (L := L) (m := m) (y := y) (p := p) _ (Or.inl (by decide : 9 < 36)), a_plan_r (S := S) (L := L) (m := m) (y := y) (p := p) _ (Or.inl (by decide : 12 < 36)), a_plan_r (S := S) (L := L) (m := m) (y := y) (p := p) _ (Or.inl (by decide : 14 < 36)), a_plan_r (S := S) (L := L) (m := m) (y := y) (p := p) _ (Or.inl (by decide : 20 < 36)), a_plan_r (S := S) (L := L) (m := m) (y := y) (p := p) _ (Or.inl (by decide : 21 < 36))]
  rw [hfr 10 (by decide), hfr 15 (by decide), hfr 9 (by decide), hfr 12 (by decide), hfr 14 (by decide), find_i (k := 0) (by decide) (by decide) (by decide), find_46, find_47, hI.way hm, hangN_f hfr, (hI.hn hm).2.1, lift_f hfr, lift_f hfr, str_eq, str_eq, eh0, eh1, show (0 : Int32).toNatClampNeg = 0 from rfl, hI.pl.1]
  have e3 : exN (p3 (s_find S (L 3).length m p) m p) (L 3).length = true ↔ (¬ L (8 + m.toNatClampNeg) = [] ∧ ¬ S.2 17 (hd0 (L (8 + m.toNatClampNeg))) = p) := by
    rw [exN_iff]
    constructor
    · rintro ⟨k, hk, e⟩
      rw [p3, decide_eq_true_iff, hfr 23 (by decide), hfr 24 (by decide), hfr 17 (by decide)] at e
      have hin : k ∈ L (8 + m.toNatClampNeg) := (hI.ha.mem _ i1 k).mpr ⟨hk, e.1, by rw [i2]; exact e.2.1⟩
      have hne : ¬ L (8 + m.toNatClampNeg) = [] := fun z => by rw [z] at hin; cases hin
      exact ⟨hne, fun z => e.2.2 ((hI.ha.pl _ i1 k hin _ (hd0_mem hne)).trans z)⟩
    · rintro ⟨hne, e⟩
      obtain ⟨a1, a2, a3⟩ := (hI.ha.mem _ i1 _).mp (hd0_mem hne)
      refine ⟨_, a1, ?_⟩
      rw [p3, decide_eq_true_iff, hfr 23 (by decide), hfr 24 (by decide), hfr 17 (by decide)]
      exact ⟨a2, by rw [a3, i2], e⟩
  have e8 : exN (p8 (s_find S (L 3).length m p) m) (L 3).length = true ↔ (L (8 + m.toNatClampNeg)).any (fun z => decide (S.2 20 z = 2 ∧ 90 < S.1 0 + a_way S L m p - S.2 21 z)) = true := by
    rw [exN_iff, List.any_eq_true]
    constructor
    · rintro ⟨k, hk, e⟩
      rw [p8, decide_eq_true_iff, hfr 23 (by decide), hfr 24 (by decide), hfr 20 (by decide), hfr 21 (by decide), find_46, hI.way hm] at e
      exact ⟨k, (hI.ha.mem _ i1 k).mpr ⟨hk, e.1, by rw [i2]; exact e.2.1⟩, decide_eq_true e.2.2⟩
    · rintro ⟨k, hk, e⟩
      obtain ⟨a1, a2, a3⟩ := (hI.ha.mem _ i1 _).mp hk
      refine ⟨k, a1, ?_⟩
      rw [p8, decide_eq_true_iff, hfr 23 (by decide), hfr 24 (by decide), hfr 20 (by decide), hfr 21 (by decide), find_46, hI.way hm]
      exact ⟨a2, by rw [a3, i2], of_decide_eq_true e⟩
  by_cases c1 : S.1 0 < S.2 10 m.toNatClampNeg
  · rw [if_pos c1, if_pos c1]; exact ⟨rfl, hmf, pR.refl⟩
  rw [if_neg c1, if_neg c1]
  by_cases c2 : S.1 0 < S.2 15 y.toNatClampNeg
  · rw [if_pos c2, if_pos c2]; exact ⟨rfl, hmf, pR.refl⟩
  rw [if_neg c2, if_neg c2]
  by_cases c3 : ¬ L (8 + m.toNatClampNeg) = [] ∧ ¬ S.2 17 (hd0 (L (8 + m.toNatClampNeg))) = p
  · rw [if_pos c3, if_pos (e3.mpr c3)]; exact ⟨rfl, hmf, pR.refl⟩
  rw [if_neg c3, if_neg (fun z => c3 (e3.mp z))]
  by_cases c4 : 720 < S.1 0 + a_way S L m p + 2 + a_way S L m p
  · rw [if_pos c4, if_pos c4]; exact ⟨rfl, hmf, pR.refl⟩
  rw [if_neg c4, if_neg c4]
  have e47 : ¬ 720 < (s_find S (L 3).length m p).1 47 := by rw [find_47, hI.way hm]; exact c4
  rw [(hI.find hm hp e47).1]
  by_cases c5 : a_str S m.toNatClampNeg 0 (S.2 5 (c_hour (S.1 0)).toNatClampNeg) < lsum (S.2 18) (L (8 + m.toNatClampNeg)) ∨ a_str S m.toNatClampNeg (S.2 1 p.toNatClampNeg) (S.2 5 (c_hour (S.1 0 + a_way S L m p)).toNatClampNeg) < lsum (S.2 18) (L (8 + m.toNatClampNeg))
  · rw [if_pos c5, if_pos c5]; exact ⟨rfl, hmf, pR.refl⟩
  rw [if_neg c5, if_neg c5]
  by_cases c6 : S.2 9 m.toNatClampNeg < a_burn S L m p + 10
  · rw [if_pos c6, if_pos c6]; exact ⟨rfl, hmf, pR.refl⟩
  rw [if_neg c6, if_neg c6]
  by_cases c7 : S.2 12 y.toNatClampNeg < S.2 14 y.toNatClampNeg + (S.1 0 + a_way S L m p + 2 + a_way S L m p) - S.1 0
  · rw [if_pos c7, if_pos c7]; exact ⟨rfl, hmf, pR.refl⟩
  rw [if_neg c7, if_neg c7]
  by_cases c8 : (L (8 + m.toNatClampNeg)).any (fun z => decide (S.2 20 z = 2 ∧ 90 < S.1 0 + a_way S L m p - S.2 21 z)) = true
  · rw [if_pos c8, if_pos (e8.mpr c8)]; exact ⟨rfl, hmf, pR.refl⟩
  rw [if_neg c8, if_neg (fun z => c8 (e8.mp z))]
  have hrf : rOK (s_find S (L 3).length m p) (L 6).length := rOK_f hfr hI.mrok
  obtain ⟨z1, z2⟩ := rF_fb (n := (L 3).length) (y := y) (m := m) (p := p) (Y := x_ask S X L m y p) hrf hI.co.b6 (fun i hi => by
    rw [wV_ev hrf hI.co.b6 hi, rEv_f hfr, find_i (k := 0) (by decide) (by decide) (by decide), hfr 14 (by decide), hI.evs hm hp i hi]) (L 6).length 0 (Nat.zero_add _)
  exact ⟨z1.symm, hmf.thn z2, z2⟩
theorem Inv.yh {m y p : Int32} (hI : Inv S X L wn sl fl) (hm : 0 ≤ m ∧ m < nI (L 1).length) (hy : 0 ≤ y ∧ y < nI (L 2).length) (hp : 0 < p ∧ p < nI (L 0).length) : yHyp S (L 3).length (L 6).length m y p := by
  obtain ⟨t, ht, et⟩ := hI.tm
  obtain ⟨w, hw, ew⟩ := hI.wayr (m := m) hp
  have b6 := hI.co.b6
  have hfr : ∀ k, k ≠ 49 → (s_find S (L 3).length m p).2 k = S.2 k := fun k hk => find_r hk
  have hrf : rOK (s_find S (L 3).length m p) (L 6).length := rOK_f hfr hI.mrok
  have hpv : vp_in p 12 := vp_of (lt0_of hp) rfl hI.co.b0 (by decide)
  have h46 : vp_in (m_hour (S.1 0 + r_wayOf S (L 3).length m p)) 12 := by
    rw [hI.way hm, et, ew, nI_add]
    exact hour_in rfl (by omega)
  have hall : ∀ k, (wSt (s_find S (L 3).length m p) (L 3).length y m p k).1 33 = nI (L 6).length := by
    intro k
    induction k with
    | zero => rw [wSt, find_i (by decide) (by decide) (by decide)]; exact hI.co.n6
    | succ k ih =>
      rw [wSt, sW_33]
      exact ih
  refine ⟨⟨hI.co.n3, hI.co.b3, b6⟩, ⟨vp_of hm rfl hI.co.b1 (by decide), vp_of hy rfl hI.co.b2 (by decide), hpv⟩, h46, by rw [find_i (by decide) (by decide) (by decide)]; exact hI.co.n3, hall, by rw [find_i (by decide) (by decide) (by decide)]; exact hour_in et (by omega), by rw [find_46]; exact h46, fun k hk => ?_⟩
  have hq := wSt_p (n := (L 3).length) (y := y) (m := m) (p := p) hrf b6 k (by omega)
  obtain ⟨q, h1, h2, h3⟩ := (hrf.of hq) k hk
  refine (wHyp_of ?_ hI.co.b3 (by omega) h1 h2 h3 hpv ?_).1
  · rw [hq.1 28 (by decide), find_i (by decide) (by decide) (by decide)]; exact hI.co.n3
  · rw [hq.1 0 (by decide), find_i (by decide) (by decide) (by decide)]; exact hour_in et (by omega)
theorem t_may {m y p : Int32} (hM : MR m0 adm S h) (hK : KR G (OM m0 adm) ad S X L wn sl fl h) (ha : ad 0 0 = x0) (hI : Inv S X L wn sl fl) : Two G x0 m0 adm Y_X11_may Y_X12_may [.int m, .int y, .int p] h := by
  have c := hI.co
  have b3 := c.b3
  have hw : ((0 ≤ m ∧ m < S.1 11) ∧ (0 ≤ y ∧ y < S.1 16) ∧ (0 < p ∧ p < S.1 3)) → yHyp S (L 3).length (L 6).length m y p := by
    rw [c.n1, c.n2, c.n0]
    exact fun z => hI.yh z.1 z.2.1 z.2.2
  have hc := c_may (d := 11) (h0 := h) (m := m) (y := y) (p := p) hK (KF.self hM) c.r0 c.b0 c.r1 c.b1 c.r2 c.b2 c.r3 c.b3 c.r4 c.b4 c.r6 c.b6 hI.ha.len (hI.ru.ruok c.b6) c.hfl c.b5 c_hour_in (fun _ => c_hour_in)
  rw [ha] at hc
  have hv : a_may S X L m y p = r_may S (L 3).length (L 6).length m y p := by
    rw [a_may, r_may, c.n1, c.n2, c.n0]
    by_cases z : (0 ≤ m ∧ m < nI (L 1).length) ∧ (0 ≤ y ∧ y < nI (L 2).length) ∧ (0 < p ∧ p < nI (L 0).length)
    · rw [if_pos z, if_pos z, (hI.why z.1 z.2.1 z.2.2).1]
    · rw [if_neg z, if_neg z]
  refine two_of (Q := fun S2 => S2 = s_may S (L 3).length (L 6).length m y p) (v := r_may S (L 3).length (L 6).length m y p) hM (by omega) (by omega) (hc.weaken (fun r h2 hp => ?_)) (k_may (d := 16) hw)
  obtain ⟨e, ad2, X2, l, a1, x1, x2, hl, hK2, hF2⟩ := hp
  refine ⟨by rw [e, hv], S, X2, lset L 5 l, wn, sl, (L 4).length, ad2, hK2, hF2, (a1 0 0 (by decide)).trans ha, fun S2 z => ?_⟩
  subst z
  have hR : mSc S (s_may S (L 3).length (L 6).length m y p) := by
    rw [s_may, c.n1, c.n2, c.n0]
    by_cases z : (0 ≤ m ∧ m < nI (L 1).length) ∧ (0 ≤ y ∧ y < nI (L 2).length) ∧ (0 < p ∧ p < nI (L 0).length)
    · rw [if_pos z]; exact (hI.why z.1 z.2.1 z.2.2).2.1
    · rw [if_neg z]; exact mSc.refl
  refine ⟨sS.msc hR, ?_⟩
  have := (hI.scr (X2 := X2) (l5 := l) (l7 := L 7) (fl2 := (L 4).length) (x1 3 (by decide)) (x1 4 (by decide)) (fun k a b _ => x2 k a b) hl c.b7 (Nat.le_refl _)).msc hR
  rw [show L 7 = lset L 5 l 7 from (lset_n (by decide)).symm, lset_id] at this
  exact this
end WY
