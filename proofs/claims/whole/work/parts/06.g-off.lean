/-! ===== off, list, feed ===== -/
theorem lsum_cons {f : Nat → Int32} {l : List Nat} {a : Nat} : lsum f (a :: l) = lsum f l + f a := by
  rw [← lsum_s]
  exact lsum_perm (List.perm_append_singleton a l).symm
theorem lsum_nat {f : Nat → Int32} {B : Nat} : ∀ {l : List Nat}, (∀ x ∈ l, ∃ r, f x = nI r ∧ 1 ≤ r ∧ r ≤ B) → ∃ s, lsum f l = nI s ∧ l.length ≤ s ∧ s ≤ B * l.length
  | [], _ => ⟨0, rfl, Nat.le_refl _, Nat.zero_le _⟩
  | a :: l, h => by
    obtain ⟨s, e, h1, h2⟩ := lsum_nat (l := l) (fun x hx => h x (List.mem_cons_of_mem _ hx))
    obtain ⟨r, er, r1, r2⟩ := h a List.mem_cons_self
    refine ⟨s + r, by rw [lsum_cons, e, er, nI_add], by rw [List.length_cons]; omega, ?_⟩
    rw [List.length_cons, Nat.mul_succ]
    omega
theorem IHa.del {pl ro ki st on : Nat → Int32} {H : Nat → List Nat} {nm nl m l : Nat} (h : IHa pl ro ki st on H nm nl) (hm : m < nm) (hb : nm ≤ 100000) (hl : l < nl) (h1 : st l = 1) (ho : on l = nI m) (hr : ∀ i, i < nl → ∃ r, ro i = nI r ∧ 1 ≤ r ∧ r ≤ 9) : IHa pl ro ki (upd st l 0) (upd on l (-1)) (fun k => if k = m then (H m).erase l else H k) nm nl := by
  have hin : l ∈ H m := (h.mem m hm l).mpr ⟨hl, h1, ho⟩
  have hno : ∀ k, k < nm → k ≠ m → l ∉ H k := fun k hk hkm z => by
    have := ((h.mem k hk l).mp z).2.2
    rw [ho, nI_eq (by omega) (by omega)] at this
    exact hkm this.symm
  refine ⟨fun k hk => ?_, fun k hk x => ?_, fun x hx hst => ?_, fun k hk x hx y hy => ?_, fun k hk x hx y hy hxy => ?_, fun k hk x hx => ?_, fun k hk => ?_⟩
  · by_cases e : k = m
    · simp only [if_pos e]; exact (h.nd m hm).erase _
    · simp only [if_neg e]; exact h.nd k hk
  · by_cases e : k = m
    · simp only [if_pos e]
      rw [(h.nd m hm).mem_erase_iff, h.mem m hm x, e]
      by_cases q : x = l
      · subst q
        rw [pk_us]
        exact ⟨fun z => absurd rfl z.1, fun z => absurd z.2.1 (by decide)⟩
      · rw [pk_un q, pk_un q]
        exact ⟨fun z => z.2, fun z => ⟨q, z⟩⟩
    · simp only [if_neg e]
      by_cases q : x = l
      · subst q
        rw [pk_us]
        exact ⟨fun z => absurd z (hno k hk e), fun z => absurd z.2.1 (by decide)⟩
      · rw [pk_un q, pk_un q]
        exact h.mem k hk x
  · by_cases q : x = l
    · subst q
      rw [pk_us] at hst
      exact absurd hst (by decide)
    · rw [pk_un q] at hst ⊢
      exact h.on x hx hst
  · by_cases e : k = m
    · simp only [if_pos e] at hx hy; exact h.pl m hm x (List.mem_of_mem_erase hx) y (List.mem_of_mem_erase hy)
    · simp only [if_neg e] at hx hy; exact h.pl k hk x hx y hy
  · by_cases e : k = m
    · simp only [if_pos e] at hx hy; exact h.al m hm x (List.mem_of_mem_erase hx) y (List.mem_of_mem_erase hy) hxy
    · simp only [if_neg e] at hx hy; exact h.al k hk x hx y hy hxy
  · by_cases e : k = m
    · simp only [if_pos e] at hx; exact h.dn m hm x (List.mem_of_mem_erase hx)
    · simp only [if_neg e] at hx; exact h.dn k hk x hx
  · by_cases e : k = m
    · simp only [if_pos e]
      obtain ⟨j, j9, ej, jl⟩ := h.ro m hm
      obtain ⟨s, es, s1, s2⟩ := lsum_nat (f := ro) (B := 9) (l := (H m).erase l) (fun x hx => hr x ((h.mem m hm x).mp (List.mem_of_mem_erase hx)).1)
      obtain ⟨r, er, r1, r9⟩ := hr l hl
      have hlen : ((H m).erase l).length ≤ 9 := by rw [List.length_erase_of_mem hin]; omega
      have := lsum_perm (f := ro) (List.perm_cons_erase hin)
      rw [ej, lsum_cons, es, er, nI_add, nI_eq (by omega) (by omega)] at this
      exact ⟨s, by omega, es, s1⟩
    · simp only [if_neg e]; exact h.ro k hk
theorem upd_upd {f : Nat → Int32} {i : Nat} {x y : Int32} : upd (upd f i x) i y = upd f i y := by
  funext j
  by_cases q : j = i
  · rw [q, pk_us, pk_us]
  · rw [pk_un q, pk_un q, pk_un q]
section OF
variable {G : Nat → Nat} {x0 m0 : Nat} {adm : Nat → Nat} {S X : MS} {L : Nat → List Nat} {wn : Nat → Option Nat} {sl : Nat → Nat} {fl : Nat} {ad : Nat → Nat → Nat} {h : AH}
theorem t_off {l : Int32} (hM : MR m0 adm S h) (hK : KR G (OM m0 adm) ad S X L wn sl fl h) (ha : ad 0 0 = x0) (hI : Inv S X L wn sl fl) : Two G x0 m0 adm Y_X11_off Y_X12_off [.int l] h := by
  have hb1 := hI.co.b1
  have hb3 := hI.co.b3
  have key : (0 ≤ l ∧ l < nI (L 3).length) → S.2 23 l.toNatClampNeg = 1 → ∃ m, m < (L 1).length ∧ S.2 24 l.toNatClampNeg = nI m ∧ (S.2 24 l.toNatClampNeg).toNatClampNeg = m ∧ l.toNatClampNeg < (L 3).length ∧ (0 ≤ S.2 24 l.toNatClampNeg ∧ S.2 24 l.toNatClampNeg < nI (L 1).length) := by
    intro z1 z2
    obtain ⟨j1, j2⟩ := idx_of z1 (show (L 3).length ≤ 100000 by omega)
    obtain ⟨m, hm, em⟩ := hI.ha.on _ j1 z2
    refine ⟨m, hm, em, by rw [em]; exact nI_clamp (by omega), j1, ?_⟩
    rw [em]
    exact ⟨(nI_leI (a := 0) (by decide) (by omega)).mpr (Nat.zero_le _), (nI_ltI (by omega) (by omega)).mpr hm⟩
  have hv : a_off S L l = r_off S (L 3).length l := by
    rw [a_off, r_off, hI.co.n3]
    by_cases h1 : 0 ≤ l ∧ l < nI (L 3).length
    · rw [if_neg (not_not_intro h1), if_neg (not_not_intro h1)]
      by_cases h2 : S.2 23 l.toNatClampNeg = 1
      · obtain ⟨m, hm, em, ec, j1, hr⟩ := key h1 h2
        rw [if_pos ⟨h2, hr⟩, if_neg (not_not_intro h2), ec]
        have hd := hI.ha.del hm (by omega) j1 h2 em hI.lo.ro
        have hp := hd.perm hm
        simp only [if_true] at hp
        rw [em, hang_n (nI_pos (by omega))]
        exact congrArg nI hp.length_eq
      · rw [if_neg (fun z => h2 z.1), if_pos h2]
    · rw [if_pos h1, if_pos h1]
  have hc := c_off (d := 16) (h0 := h) (l := l) hK (KF.self hM) hI.co.r1 hI.co.b1 hI.co.r3 hI.co.b3 hI.ha.len
  rw [ha] at hc
  refine two_of (Q := fun S2 => S2 = s_off S l) (v := r_off S (L 3).length l) hM (Nat.zero_le _) (Nat.zero_le _) (hc.weaken (fun r h2 hp => ?_)) (k_off (d := 19) hI.co.n3 hI.co.b3 (fun z => vp_of z hI.co.n3 hI.co.b3 (by decide)))
  obtain ⟨e, hK2, hF2⟩ := hp
  refine ⟨by rw [e, hv], _, _, _, _, _, _, _, hK2, hF2, ha, fun S2 z => ?_⟩
  subst z
  by_cases hcn : (0 ≤ l ∧ l < nI (L 3).length) ∧ S.2 23 l.toNatClampNeg = 1
  · obtain ⟨m, hm, em, ec, j1, hr⟩ := key hcn.1 hcn.2
    have h3 : (0 ≤ l ∧ l < nI (L 3).length) ∧ S.2 23 l.toNatClampNeg = 1 ∧ 0 ≤ S.2 24 l.toNatClampNeg ∧ S.2 24 l.toNatClampNeg < nI (L 1).length := ⟨hcn.1, hcn.2, hr⟩
    have hn : ¬ (¬ (0 ≤ l ∧ l < S.1 28) ∨ ¬ S.2 23 l.toNatClampNeg = 1) := by
      rw [hI.co.n3]
      exact fun z => z.elim (fun q => q hcn.1) (fun q => q hcn.2)
    rw [a_offS, a_offL, if_pos h3, if_pos h3, s_off, if_neg hn, ec]
    refine ⟨sS.same0, ?_⟩
    have eL : ∀ r, r < 8 → lset L (8 + m) ((L (8 + m)).erase l.toNatClampNeg) r = L r := fun r hr => lset_n (by omega)
    unfold Inv
    rw [hagS, eL 0 (by decide), eL 1 (by decide), eL 2 (by decide), eL 3 (by decide), eL 4 (by decide), eL 5 (by decide), eL 6 (by decide), eL 7 (by decide)]
    refine ⟨hI.co, hI.tm, hI.tp, hI.tb, hI.pl, hI.ma, hI.pi, hI.lo, ⟨fun i hi => ?_, hI.st.by_⟩, ?_, ?_, hI.ru, hI.li, hI.be, hI.sc⟩
    · exact ⟨(pk_un (show i ≠ l.toNatClampNeg by omega)).trans (hI.st.nw i hi).1, (hI.st.nw i hi).2⟩
    · exact hI.ha.del hm (by omega) j1 hcn.2 em hI.lo.ro
    · intro i hi hst
      by_cases q : i = l.toNatClampNeg
      · rw [q] at hst
        have : upd (S.2 23) l.toNatClampNeg 0 l.toNatClampNeg = 2 := hst
        rw [pk_us] at this
        exact absurd this (by decide)
      · exact hI.fy i hi ((pk_un q).symm.trans hst)
  · have h3 : ¬ ((0 ≤ l ∧ l < nI (L 3).length) ∧ S.2 23 l.toNatClampNeg = 1 ∧ 0 ≤ S.2 24 l.toNatClampNeg ∧ S.2 24 l.toNatClampNeg < nI (L 1).length) := fun z => hcn ⟨z.1, z.2.1⟩
    have hn : ¬ (0 ≤ l ∧ l < S.1 28) ∨ ¬ S.2 23 l.toNatClampNeg = 1 := by
      rw [hI.co.n3]
      exact Classical.not_and_iff_not_or_not.mp hcn
    rw [a_offS, a_offL, if_neg h3, if_neg h3, s_off, if_pos hn]
    exact ⟨sS.same0, hI⟩
end OF
theorem wf_up {wn : Nat → Option Nat} {k j g : Nat} : wf (va_up wn k (some g)) j = if j = k then g else wf wn j := by
  rw [wf, va_up]
  by_cases h : j = k
  · rw [if_pos h, if_pos h]; rfl
  · rw [if_neg h, if_neg h]; rfl
/-- insertion into the sorted list of the wanted -/
theorem insW_ok {g : Nat} : ∀ (k : Nat) (wn : Nat → Option Nat), (∀ j, j < k → wn j = some (wf wn j)) → (∀ i j, i < j → j < k → wf wn i ≤ wf wn j) →
    (∀ j, j < k + 1 → insW g k wn j = some (wf (insW g k wn) j)) ∧ ((List.range (k + 1)).map (wf (insW g k wn))).Perm ((List.range k).map (wf wn) ++ [g]) ∧ (∀ i j, i < j → j < k + 1 → wf (insW g k wn) i ≤ wf (insW g k wn) j) ∧ (∀ j, k < j → insW g k wn j = wn j)
  | 0, wn, _, _ => by
    rw [insW]
    refine ⟨fun j hj => ?_, ?_, fun i j h1 h2 => by omega, fun j hj => va_up_ne _ _ (by omega)⟩
    · have : j = 0 := by omega
      subst this
      rw [wf_up, if_pos rfl, va_up_self]
    · show List.Perm [wf (va_up wn 0 (some g)) 0] [g]
      rw [wf_up, if_pos rfl]
  | k + 1, wn, h1, h2 => by
    rw [insW]
    by_cases hg : g < wf wn k
    · rw [if_pos hg]
      generalize hw2 : va_up wn (k + 1) (some (wf wn k)) = w2
      have e2 : ∀ j, j ≠ k + 1 → w2 j = wn j := fun j hj => by rw [← hw2]; exact va_up_ne _ _ hj
      have ew : ∀ j, j ≠ k + 1 → wf w2 j = wf wn j := fun j hj => by rw [wf, e2 j hj, wf]
      obtain ⟨i1, i2, i3, i4⟩ := insW_ok (g := g) k w2 (fun j hj => by rw [e2 j (by omega), ew j (by omega)]; exact h1 j (by omega)) (fun i j a b => by rw [ew i (by omega), ew j (by omega)]; exact h2 i j a (by omega))
      have elast : insW g k w2 (k + 1) = some (wf wn k) := by rw [i4 (k + 1) (by omega), ← hw2, va_up_self]
      have ewl : wf (insW g k w2) (k + 1) = wf wn k := by rw [wf, elast]; rfl
      have hmap : (List.range k).map (wf w2) = (List.range k).map (wf wn) := List.map_congr_left (fun x hx => ew x (by have := List.mem_range.mp hx; omega))
      rw [hmap] at i2
      have hle : ∀ j, j < k + 1 → wf (insW g k w2) j ≤ wf wn k := by
        intro j hj
        have hm : wf (insW g k w2) j ∈ (List.range k).map (wf wn) ++ [g] := i2.mem_iff.mp (List.mem_map.mpr ⟨j, List.mem_range.mpr hj, rfl⟩)
        rcases List.mem_append.mp hm with q | q
        · obtain ⟨x, hx, ex⟩ := List.mem_map.mp q
          rw [← ex]
          exact h2 x k (List.mem_range.mp hx) (by omega)
        · rw [List.mem_singleton] at q
          omega
      refine ⟨fun j hj => ?_, ?_, fun i j a b => ?_, fun j hj => ?_⟩
      · by_cases q : j = k + 1
        · rw [q, elast, ewl]
        · exact i1 j (by omega)
      · rw [List.range_succ, List.map_append, List.map_singleton, ewl, List.range_succ (n := k), List.map_append, List.map_singleton] at *
        refine (i2.append_right [wf wn k]).trans ?_
        rw [List.map_append, List.map_singleton, List.append_assoc, List.append_assoc]
        exact List.Perm.append_left _ (List.Perm.swap _ _ [])
      · by_cases q : j = k + 1
        · rw [q, ewl]
          exact hle i (by omega)
        · exact i3 i j a (by omega)
      · rw [i4 j (by omega), e2 j (by omega)]
    · rw [if_neg hg]
      refine ⟨fun j hj => ?_, ?_, fun i j a b => ?_, fun j hj => va_up_ne _ _ (by omega)⟩
      · by_cases q : j = k + 1
        · rw [q, wf_up, if_pos rfl, va_up_self]
        · rw [wf_up, if_neg q, va_up_ne _ _ q]
          exact h1 j (by omega)
      · rw [List.range_succ, List.map_append, List.map_singleton, wf_up, if_pos rfl]
        rw [show (List.range (k + 1)).map (wf (va_up wn (k + 1) (some g))) = (List.range (k + 1)).map (wf wn) from List.map_congr_left (fun x hx => by rw [wf_up, if_neg (by have := List.mem_range.mp hx; omega)])]
      · rw [wf_up, wf_up, if_neg (show i ≠ k + 1 by omega)]
        by_cases q : j = k + 1
        · rw [if_pos q]
          by_cases q2 : i = k
          · rw [q2]; omega
          · have := h2 i k (by omega) (by omega)
            omega
        · rw [if_neg q]
          exact h2 i j a (by omega)
theorem getD_app_l {l : List Nat} {x j : Nat} (h : j < l.length) : (l ++ [x]).getD j 0 = l.getD j 0 := by
  rw [List.getD_eq_getElem?_getD, List.getElem?_append_left h, ← List.getD_eq_getElem?_getD]
theorem getD_app_r {l : List Nat} {x : Nat} : (l ++ [x]).getD l.length 0 = x := by simp
section LI
variable {G : Nat → Nat} {x0 m0 : Nat} {adm : Nat → Nat} {S X : MS} {L : Nat → List Nat} {wn : Nat → Option Nat} {sl : Nat → Nat} {fl : Nat} {ad : Nat → Nat → Nat} {h : AH}
theorem t_list {p : Int32} (hM : MR m0 adm S h) (hK : KR G (OM m0 adm) ad S X L wn sl fl h) (ha : ad 0 0 = x0) (hI : Inv S X L wn sl fl) : Two G x0 m0 adm Y_X11_list Y_X12_list [.int p] h := by
  obtain ⟨n, l, n5, hl, en, ex, hli, hlp, hw1, hw2, hw3, hw4⟩ := hI.li
  have e5 : (S.1 51 = 5) ↔ ¬ n < 5 := eq_cap en n5 (by decide)
  have x5 : (X.1 3 < 5) ↔ n < 5 := by rw [ex]; exact nI_ltI (b := 5) (by omega) (by decide)
  have hb0 := hI.co.b0
  have hwl : ∀ i, i < n → wn i = some (wf wn i) ∧ wf wn i < (L 0).length := fun i hi => ⟨hw1 i hi, hw4 i _ (hw1 i hi)⟩
  have hv : a_list X L p = r_list S p := by
    rw [a_list, r_list, hI.co.n0]
    by_cases h1 : 0 < p ∧ p < nI (L 0).length
    · rw [if_pos h1, if_neg (not_not_intro h1)]
      by_cases h2 : n < 5
      · rw [if_pos (x5.mpr h2), if_neg (fun z => e5.mp z h2), ex, en]
      · rw [if_neg (fun z => h2 (x5.mp z)), if_pos (e5.mpr h2)]
    · rw [if_neg h1, if_pos h1]
  have hc := c_list (d := 17) (h0 := h) (p := p) hK (KF.self hM) hI.co.r0 hI.co.b0 ex n5 hwl
  rw [ha] at hc
  refine two_of (Q := fun S2 => S2 = s_list S p) (v := r_list S p) hM (Nat.zero_le _) (Nat.zero_le _) (hc.weaken (fun r h2 hp => ?_)) (k_list (d := 19) (fun z => by rw [en]; exact vp_in_nI (Nat.not_le.mp (fun q => z (e5.mpr (by omega)))) (by decide)))
  obtain ⟨e, hp⟩ := hp
  refine ⟨by rw [e, hv], ?_⟩
  rcases hp with ⟨⟨h1, h2⟩, hK2, hF2⟩ | ⟨hno, hK2, hF2⟩
  · refine ⟨_, _, _, _, _, _, _, hK2, hF2, ha, fun S2 z => ?_⟩
    subst z
    have hn : ¬ (¬ (0 < p ∧ p < S.1 3) ∨ S.1 51 = 5) := by
      rw [hI.co.n0]
      exact fun z => z.elim (fun q => q h1) (fun q => e5.mp q (x5.mp h2))
    have hn5 := x5.mp h2
    obtain ⟨i1, i2⟩ := idx_of1 h1 (show (L 0).length ≤ 100000 by omega)
    have hp0 : 0 < p.toNatClampNeg := Nat.pos_of_ne_zero (fun q => by rw [q] at i2; rw [← i2] at h1; exact absurd h1.1 (by decide))
    obtain ⟨k1, k2, k3, k4⟩ := insW_ok (g := p.toNatClampNeg) n wn hw1 hw3
    rw [s_list, if_neg hn, show (S.1 51).toNatClampNeg = n from by rw [en]; exact nI_clamp (by omega)]
    refine ⟨sS.of rfl rfl (fun k hk _ _ _ _ _ _ _ _ _ _ => (u2_n (by omega)).symm), ?_⟩
    refine ⟨hI.co, hI.tm, hI.tp, hI.tb, hI.pl, hI.ma, hI.pi, hI.lo, hI.st, hI.ha, hI.fy, hI.ru, ?_, hI.be, hI.sc⟩
    refine ⟨n + 1, l ++ [p.toNatClampNeg], by omega, by rw [List.length_append, List.length_singleton, hl], ?_, ?_, fun j hj => ?_, fun q hq => ?_, k1, ?_, k3, fun j q hj => ?_⟩
    · show S.1 51 + 1 = _
      rw [en, nI_1]
    · show X.1 3 + 1 = _
      rw [ex, nI_1]
    · show upd (S.2 50) n p j = _
      by_cases q : j = n
      · rw [q, pk_us, ← hl, getD_app_r]
        exact i2.symm
      · rw [pk_un q, getD_app_l (by omega)]
        exact hli j (by omega)
    · rcases List.mem_append.mp hq with z | z
      · exact hlp q z
      · rw [List.mem_singleton.mp z]; exact ⟨hp0, i1⟩
    · exact k2.trans (hw2.append_right _)
    · by_cases q2 : j < n + 1
      · rw [k1 j q2] at hj
        have hm : wf (insW p.toNatClampNeg n wn) j ∈ (List.range n).map (wf wn) ++ [p.toNatClampNeg] := k2.mem_iff.mp (List.mem_map.mpr ⟨j, List.mem_range.mpr q2, rfl⟩)
        cases hj
        rcases List.mem_append.mp hm with z | z
        · obtain ⟨y, hy, ey⟩ := List.mem_map.mp z
          rw [← ey]
          exact (hwl y (List.mem_range.mp hy)).2
        · rw [List.mem_singleton.mp z]; exact i1
      · rw [k4 j (by omega)] at hj
        exact hw4 j q hj
  · refine ⟨S, X, L, wn, sl, fl, ad, hK2, hF2, ha, fun S2 z => ?_⟩
    subst z
    have hn : ¬ (0 < p ∧ p < S.1 3) ∨ S.1 51 = 5 := by
      rw [hI.co.n0]
      exact Classical.byContradiction (fun z => hno ⟨Classical.byContradiction (fun q => z (Or.inl q)), x5.mpr (Classical.byContradiction (fun q => z (Or.inr (e5.mpr q))))⟩)
    rw [s_list, if_pos hn]
    exact ⟨sS.same0, hI⟩
end LI
