/-! ===== order ===== -/
theorem mxI {b c : Nat} (hb : b < 2 ^ 31) (hc : c < 2 ^ 31) : (if nI b < nI c then nI c else nI b) = nI (max b c) := by
  by_cases h : b < c
  · rw [if_pos ((nI_ltI hb hc).mpr h)]
    congr 1; omega
  · rw [if_neg (fun z => h ((nI_ltI hb hc).mp z))]
    congr 1; omega
theorem mxJ {b c : Nat} (hb : b < 2 ^ 31) (hc : c < 2 ^ 31) : (if nI b ≤ nI c then nI c else nI b) = nI (max b c) := by
  by_cases h : b ≤ c
  · rw [if_pos ((nI_leI hb hc).mpr h)]
    congr 1; omega
  · rw [if_neg (fun z => h ((nI_leI hb hc).mp z))]
    congr 1; omega
theorem getD_mem {l : List Nat} {j : Nat} (h : j < l.length) : l.getD j 0 ∈ l := by
  rw [List.getD_eq_getElem?_getD, List.getElem?_eq_getElem h]
  exact List.getElem_mem h
theorem getD_map {l : List Nat} : (List.range l.length).map (fun j => l.getD j 0) = l := by
  refine List.ext_getElem (by rw [List.length_map, List.length_range]) (fun i h1 h2 => ?_)
  rw [List.getElem_map, List.getElem_range, List.getD_eq_getElem?_getD, List.getElem?_eq_getElem h2]
  rfl
section TO
variable {G : Nat → Nat} {x0 m0 : Nat} {adm : Nat → Nat} {S X : MS} {L : Nat → List Nat} {wn : Nat → Option Nat} {sl : Nat → Nat} {fl : Nat} {ad : Nat → Nat → Nat} {h : AH}
theorem Inv.orr {T Y : MS} (hI : Inv S X L wn sl fl) (g1 : ∀ j, j ≠ 35 → j ≠ 51 → j ≠ 55 → j ≠ 56 → j ≠ 57 → T.1 j = S.1 j) (g2 : ∀ j, j ≠ 34 → j ≠ 52 → j ≠ 53 → j ≠ 54 → j ≠ 61 → T.2 j = S.2 j) (gx : ∀ k, k ≠ 1 → k ≠ 2 → k ≠ 5 → k ≠ 6 → k ≠ 7 → Y.2 k = X.2 k) (hli : ILi (S.2 50) (T.1 51) (Y.1 3) wn (L 0).length) (hbe : IBe (T.1 55) (Y.1 4) (T.2 53) (Y.2 6)) : Inv T Y L wn sl fl := by
  have h1 : ∀ k, k ≠ 35 ∧ k ≠ 51 ∧ k ≠ 55 ∧ k ≠ 56 ∧ k ≠ 57 → T.1 k = S.1 k := fun k a => g1 k a.1 a.2.1 a.2.2.1 a.2.2.2.1 a.2.2.2.2
  have h2 : ∀ k, k ≠ 34 ∧ k ≠ 52 ∧ k ≠ 53 ∧ k ≠ 54 ∧ k ≠ 61 → T.2 k = S.2 k := fun k a => g2 k a.1 a.2.1 a.2.2.1 a.2.2.2.1 a.2.2.2.2
  have hr : ∀ k, k ≠ 1 ∧ k ≠ 2 ∧ k ≠ 5 ∧ k ≠ 6 ∧ k ≠ 7 → Y.2 k = X.2 k := fun k a => gx k a.1 a.2.1 a.2.2.1 a.2.2.2.1 a.2.2.2.2
  unfold Inv
  rw [h1 3 (by decide), h1 11 (by decide), h1 16 (by decide), h1 28 (by decide), h1 45 (by decide), h1 33 (by decide), h1 0 (by decide), h1 30 (by decide), h2 29 (by decide), h2 1 (by decide), h2 2 (by decide), h2 8 (by decide), h2 9 (by decide), h2 10 (by decide), h2 12 (by decide), h2 13 (by decide), h2 14 (by decide), h2 15 (by decide), h2 17 (by decide), h2 18 (by decide), h2 19 (by decide), h2 20 (by decide), h2 21 (by decide), h2 23 (by decide), h2 24 (by decide), h2 25 (by decide), h2 27 (by decide), h2 40 (by decide), h2 41 (by decide), h2 31 (by decide), h2 32 (by decide), h2 50 (by decide), hr 0 (by decide), hr 3 (by decide), hr 4 (by decide)]
  exact ⟨hI.co, hI.tm, hI.tp, hI.tb, hI.pl, hI.ma, hI.pi, hI.lo, hI.st, hI.ha, hI.fy, hI.ru.xg (fun k hk => hr k (by omega)), hli, hbe, hI.sc⟩
theorem sS.orr {S T : MS} {L : Nat → List Nat} {fl : Nat} (g1 : ∀ j, j ≠ 35 → j ≠ 51 → j ≠ 55 → j ≠ 56 → j ≠ 57 → T.1 j = S.1 j) (g2 : ∀ j, j ≠ 34 → j ≠ 52 → j ≠ 53 → j ≠ 54 → j ≠ 61 → T.2 j = S.2 j) : sS S T L fl := sS.of (g1 0 (by decide) (by decide) (by decide) (by decide) (by decide)).symm (g1 30 (by decide) (by decide) (by decide) (by decide) (by decide)).symm (fun k hk _ _ _ _ _ _ _ _ k34 _ => (g2 k k34 (by omega) (by omega) (by omega) (by omega)).symm)
/-- how both sides answer, for a machine and a pilot that are there -/
theorem ord_two {m y : Int32} {n rr a : Nat} {l : List Nat} (hI : Inv S X L wn sl fl) (hV : (0 ≤ m ∧ m < nI (L 1).length) ∧ (0 ≤ y ∧ y < nI (L 2).length)) (hn5 : n ≤ 5) (hl : l.length = n) (e51 : S.1 51 = nI n) (ex3 : X.1 3 = nI n) (hli : ∀ j, j < n → S.2 50 j = nI (l.getD j 0)) (hlp : ∀ p ∈ l, 0 < p ∧ p < (L 0).length) (hw1 : ∀ j, j < n → wf wn j < (L 0).length) (hpm : ((List.range n).map (wf wn)).Perm l) (hso : ∀ i j, i < j → j < n → wf wn i ≤ wf wn j) (h13 : S.2 13 y.toNatClampNeg = nI rr) (hrr : rr ≤ 120) (hrd : a_rdy S m y = nI a) (ha : a ≤ 1500) :
    (a_order S X L wn n m y = -3 ∧ r_order S (L 3).length (L 6).length n m y a = -3 ∧ ¬ (oGo S (L 3).length m y ∧ ¬ (oG S (L 3).length (L 6).length n m y a).1 < 0) ∧ (a_ordC S X L wn n m y → ¬ (a_ex S (x_hang S X (L (8 + m.toNatClampNeg))) L wn n y.toNatClampNeg (a_rdy S m y)).1 ≤ 720 ∧ (a_ex S (x_hang S X (L (8 + m.toNatClampNeg))) L wn n y.toNatClampNeg (a_rdy S m y)).2.1 = X.2 6)) ∨
    (a_order S X L wn n m y = r_order S (L 3).length (L 6).length n m y a ∧ (oGo S (L 3).length m y ∧ ¬ (oG S (L 3).length (L 6).length n m y a).1 < 0) ∧ (oG S (L 3).length (L 6).length n m y a).1 = nI n ∧ a_ordC S X L wn n m y ∧ (a_ex S (x_hang S X (L (8 + m.toNatClampNeg))) L wn n y.toNatClampNeg (a_rdy S m y)).1 ≤ 720 ∧ ∀ i, i < n → (oG S (L 3).length (L 6).length n m y a).2.2 i = (a_ex S (x_hang S X (L (8 + m.toNatClampNeg))) L wn n y.toNatClampNeg (a_rdy S m y)).2.1 i) := by
  have b0 := hI.co.b0
  have b1 := hI.co.b1
  have b2 := hI.co.b2
  have hVS : (0 ≤ m ∧ m < S.1 11) ∧ (0 ≤ y ∧ y < S.1 16) := by rw [hI.co.n1, hI.co.n2]; exact hV
  obtain ⟨i1, i2⟩ := idx_of hV.1 (show (L 1).length ≤ 100000 by omega)
  obtain ⟨j1, j2⟩ := idx_of hV.2 (show (L 2).length ≤ 100000 by omega)
  obtain ⟨-, ⟨le, hle, h9⟩, -⟩ := hI.ma.1 _ i1
  obtain ⟨⟨mo, hmo, h12⟩, -, ⟨hf, hhf, h14⟩, -⟩ := hI.pi.1 _ j1
  have hlen := hI.ha.len _ i1
  have hn1 := (hI.hn hV.1).1
  rw [a_order, r_order, if_pos hV, if_neg (show ¬ ¬ ((0 ≤ m ∧ m < S.1 11) ∧ (0 ≤ y ∧ y < S.1 16)) from fun z => z hVS)]
  have eX : (X.1 3 = 0) ↔ n = 0 := by rw [ex3]; exact nI_eq (b := 0) (by omega) (by decide)
  have eS : (S.1 51 = 0) ↔ n = 0 := by rw [e51]; exact nI_eq (b := 0) (by omega) (by decide)
  have eH : (0 < r_hangN S m 110 (L 3).length) ↔ ¬ L (8 + m.toNatClampNeg) = [] := by
    rw [hn1]
    have : (0 < nI (L (8 + m.toNatClampNeg)).length) ↔ 0 < (L (8 + m.toNatClampNeg)).length := nI_ltI (a := 0) (by decide) (by omega)
    rw [this, List.length_pos_iff]
  by_cases c1 : n = 0
  · refine Or.inl ⟨if_neg (fun z => z.1 (eX.mpr c1)), if_pos (Or.inl (eS.mpr c1)), fun z => z.1.2.1 (eS.mpr c1), fun z => absurd (eX.mpr c1) z.1⟩
  · by_cases c2 : L (8 + m.toNatClampNeg) = []
    · have key : ∀ p, p < (L 0).length → p < 1000 ∧ S.2 2 p = nI (wyN S p) ∧ wyN S p ≤ 60 := fun p hp => by
        obtain ⟨w, hw, ew⟩ := (hI.pl.2 p hp).2
        have : wyN S p = w := by rw [wyN, ew, nI_clamp (by omega)]
        rw [this]
        exact ⟨by omega, ew, hw⟩
      have hoH : oH S n y (fun j => l.getD j 0) rr mo := ⟨fun j hj => ⟨hli j hj, key _ (hlp _ (getD_mem (by omega))).2⟩, h13, hrr, h12, hmo⟩
      have hcH : cH S X (x_ord S (x_hang S X []) y.toNatClampNeg) wn n rr := by
        refine ⟨fun k hk => x_hang_r k (by omega), ?_, ?_, ?_, ?_, hrr, fun j hj => key _ (hw1 j hj), hn5⟩
        · simp only [x_ord, x_hang, u2_s]
          rw [pk_un (by decide), pk_un (by decide), pk_us]
          rfl
        · simp only [x_ord, x_hang, u2_s]
          rw [pk_un (by decide), pk_us]
          rfl
        · simp only [x_ord, x_hang, u2_s]
          rw [pk_us]
          rfl
        · exact h13
      obtain ⟨q1, q2⟩ := ord_eq (nl := (L 3).length) (X1 := x_hang S X []) (m := m) (lp := fun j => l.getD j 0) (by omega) hoH hcH hI.ru hI.co.b6 hso (by rw [← hl, getD_map, hl]; exact hpm) h14 hhf h9 hle ha
      have o1 : ¬ (S.1 51 = 0 ∨ 0 < r_hangN S m 110 (L 3).length) := fun z => z.elim (fun z => c1 (eS.mp z)) (fun z => eH.mp z c2)
      have o2 : oGo S (L 3).length m y := ⟨hVS, fun z => o1 (Or.inl z), fun z => o1 (Or.inr z)⟩
      rw [if_neg o1]
      have eA : a_ex S (x_hang S X (L (8 + m.toNatClampNeg))) L wn n y.toNatClampNeg (a_rdy S m y) = a_ex S (x_hang S X []) L wn n y.toNatClampNeg (nI a) := by rw [c2, hrd]
      rw [eA]
      by_cases c3 : a_aff S wn n m.toNatClampNeg y.toNatClampNeg
      · have oc : a_ordC S X L wn n m y := ⟨fun z => c1 (eX.mp z), c2, c3⟩
        rw [if_pos oc]
        rcases q1 c3 with ⟨r1, r2, r3⟩ | ⟨e, r1, r2, r3, r4, r5⟩
        · refine Or.inl ⟨if_neg r2, if_pos r1, fun z => z.2 r1, fun _ => ⟨r2, ?_⟩⟩
          rw [r3, x_hang_r 6 (by decide)]
        · have hneg : ¬ (oG S (L 3).length (L 6).length n m y a).1 < 0 := by rw [r1]; exact nI_pos (by omega)
          have hle7 : (a_ex S (x_hang S X []) L wn n y.toNatClampNeg (nI a)).1 ≤ 720 := by
            rw [r4]
            exact (nI_leI (b := 720) (by omega) (by decide)).mpr r3
          rw [if_neg hneg, if_pos hle7]
          exact Or.inr ⟨r4.trans r2.symm, ⟨o2, hneg⟩, r1, oc, hle7, r5⟩
      · have oc : ¬ a_ordC S X L wn n m y := fun z => c3 z.2.2
        rw [if_neg oc, if_pos (q2 c3)]
        exact Or.inl ⟨rfl, rfl, fun z => z.2 (q2 c3), fun z => absurd z oc⟩
    · refine Or.inl ⟨if_neg (fun z => c2 z.2.1), if_pos (Or.inr (eH.mpr c2)), fun z => z.1.2.2 (eH.mpr c2), fun z => absurd z.2.1 c2⟩
theorem t_order {m y : Int32} (hM : MR m0 adm S h) (hK : KR G (OM m0 adm) ad S X L wn sl fl h) (ha : ad 0 0 = x0) (hI : Inv S X L wn sl fl) : Two G x0 m0 adm Y_X11_order Y_X12_order [.int m, .int y] h := by
  have b0 := hI.co.b0
  have b1 := hI.co.b1
  have b2 := hI.co.b2
  obtain ⟨n, l, hn5, hl, e51, ex3, hli, hlp, hwn, hpm, hso, hw4⟩ := id hI.li
  have hw1 : ∀ j, j < n → wf wn j < (L 0).length := fun j hj => hw4 j _ (hwn j hj)
  have hwy : wyOK S wn n := fun i hi => (hI.pl.2 _ (hw1 i hi)).2
  have hex : ∃ rr a, rr ≤ 120 ∧ a ≤ 1500 ∧ (((0 ≤ m ∧ m < nI (L 1).length) ∧ (0 ≤ y ∧ y < nI (L 2).length)) → S.2 13 y.toNatClampNeg = nI rr ∧ a_rdy S m y = nI a ∧ frI S m y = nI a) := by
    by_cases hV : (0 ≤ m ∧ m < nI (L 1).length) ∧ (0 ≤ y ∧ y < nI (L 2).length)
    · obtain ⟨i1, i2⟩ := idx_of hV.1 (show (L 1).length ≤ 100000 by omega)
      obtain ⟨j1, j2⟩ := idx_of hV.2 (show (L 2).length ≤ 100000 by omega)
      obtain ⟨-, -, ⟨b, hb, e10⟩⟩ := hI.ma.1 _ i1
      obtain ⟨-, ⟨rr, hrr, h13⟩, -, ⟨c, hc, e15⟩⟩ := hI.pi.1 _ j1
      obtain ⟨t, ht, et⟩ := hI.tm
      refine ⟨rr, max t (max b c), hrr, by omega, fun _ => ⟨h13, ?_, ?_⟩⟩
      · rw [a_rdy, e10, e15, et, mxI (by omega) (by omega), mxI (by omega) (by omega)]
      · rw [frI, e10, e15, et, mxJ (by omega) (by omega), mxJ (by omega) (by omega)]
        congr 1; omega
    · exact ⟨0, 0, by omega, by omega, fun z => absurd z hV⟩
  obtain ⟨rr, a, hrr, ha15, hVa⟩ := hex
  have hc := c_order (d := 7) (h0 := h) (m := m) (y := y) hK (KF.self hM) hI.co.r1 hI.co.b1 hI.co.r2 hI.co.b2 ex3 hn5 (fun i hi => ⟨hwn i hi, hw1 i hi⟩) hI.ha.len hI.co.b0 hI.co.r6 hI.co.b6 (hI.ru.ruok hI.co.b6) hwy (fun z => (hVa z).1) hrr (fun z => (hVa z).2.1) ha15
  rw [ha] at hc
  have hk := k_order (S := S) (m := m) (y := y) (d := 10) (n := (L 3).length) (u := (L 6).length) (L := n) (a := a) hI.co.b3 (fun _ => hI.co.n3) (fun z => vp_of z hI.co.n1 hI.co.b1 (by decide))
    (fun z => by
      have z' := z
      rw [hI.co.n1, hI.co.n2] at z'
      refine ⟨⟨hI.co.n3, hI.co.b3⟩, ⟨hI.co.n6, hI.co.b6⟩, hI.ru.rok hI.co.b6, ⟨e51, hn5⟩, vp_of z.2 hI.co.n2 hI.co.b2 (by decide), ⟨rr, hrr, (hVa z').1⟩, fun j hj => ?_⟩
      have hp := (hlp _ (getD_mem (l := l) (j := j) (by omega))).2
      rw [hli j hj, nI_clamp (by omega)]
      exact ⟨vp_in_nI (by omega) (by decide), (hI.pl.2 _ hp).2⟩)
    (fun z => by
      rw [hI.co.n1, hI.co.n2] at z
      exact ⟨(hVa z).2.2, by omega⟩)
  by_cases hV : (0 ≤ m ∧ m < nI (L 1).length) ∧ (0 ≤ y ∧ y < nI (L 2).length)
  · obtain ⟨v13, vrd, vfr⟩ := hVa hV
    rcases ord_two hI hV hn5 hl e51 ex3 hli hlp hw1 hpm hso v13 hrr vrd ha15 with ⟨o1, o2, o3, o4⟩ | ⟨o1, o2, o3, o4, o5, o6⟩
    · rw [o1] at hc
      rw [o2] at hk
      refine two_of hM (Nat.zero_le _) (Nat.zero_le _) (hc.weaken (fun r h2 hp => ?_)) hk
      obtain ⟨e, hp⟩ := hp
      refine ⟨e, ?_⟩
      have keep : ∀ Y : MS, (∀ k, k ≠ 1 → k ≠ 2 → k ≠ 5 → k ≠ 6 → k ≠ 7 → Y.2 k = X.2 k) → Y.1 3 = X.1 3 → Y.1 4 = X.1 4 → Y.2 6 = X.2 6 → ∀ S2, orR S (L 3).length (L 6).length n m y a S2 → sS S S2 L fl ∧ Inv S2 Y L wn sl fl := fun Y y1 y2 y3 y4 S2 hR => by
        obtain ⟨g1, g2, -, g4⟩ := hR
        obtain ⟨k1, k2, k3⟩ := g4 o3
        refine ⟨sS.orr g1 g2, hI.orr g1 g2 y1 (by rw [k2, y2]; exact hI.li) ?_⟩
        rw [k1, y3, y4]
        exact ⟨hI.be.1, fun j z1 z2 => by rw [k3 j z2]; exact hI.be.2 j z1 z2⟩
      rcases hp with ⟨-, oc, Y, y1, y2, y3, y4, y5, hK2, hF2⟩ | ⟨-, hK2, hF2⟩
      · obtain ⟨w1, w2⟩ := o4 oc
        rw [if_neg w1] at y4 y5
        exact ⟨S, Y, L, wn, sl, fl, ad, hK2, hF2, ha, keep Y y2 (by rw [y4, ex3]) y5 (by rw [y3, w2])⟩
      · exact ⟨S, X, L, wn, sl, fl, ad, hK2, hF2, ha, keep X (fun _ _ _ _ _ _ => rfl) rfl rfl rfl⟩
    · rw [o1] at hc
      refine two_of hM (Nat.zero_le _) (Nat.zero_le _) (hc.weaken (fun r h2 hp => ?_)) hk
      obtain ⟨e, hp⟩ := hp
      refine ⟨e, ?_⟩
      rcases hp with ⟨-, oc, Y, y1, y2, y3, y4, y5, hK2, hF2⟩ | ⟨z, -⟩
      · rw [if_pos o5] at y4 y5
        refine ⟨S, Y, L, wn, sl, fl, ad, hK2, hF2, ha, fun S2 hR => ?_⟩
        obtain ⟨g1, g2, g3, -⟩ := hR
        obtain ⟨k1, k2, k3⟩ := g3 o2
        refine ⟨sS.orr g1 g2, hI.orr g1 g2 y2 ?_ ?_⟩
        · rw [k2, y4]
          exact ⟨0, [], by decide, rfl, rfl, rfl, fun j hj => absurd hj (Nat.not_lt_zero _), fun p hp => (by cases hp), fun j hj => absurd hj (Nat.not_lt_zero _), List.Perm.refl _, fun i j _ hj => absurd hj (Nat.not_lt_zero _), hw4⟩
        · rw [k1, y5, k3, y3, o3]
          refine ⟨Or.inr ⟨n, hn5, rfl, rfl⟩, fun j z1 z2 => o6 j ((nI_ltI (by omega) (by omega)).mp z1)⟩
      · exact absurd ⟨hV, o4⟩ z
  · have hV2 : ¬ ((0 ≤ m ∧ m < S.1 11) ∧ (0 ≤ y ∧ y < S.1 16)) := by rw [hI.co.n1, hI.co.n2]; exact hV
    rw [a_order, if_neg hV] at hc
    rw [r_order, if_pos hV2] at hk
    refine two_of hM (Nat.zero_le _) (Nat.zero_le _) (hc.weaken (fun r h2 hp => ?_)) hk
    obtain ⟨e, hp⟩ := hp
    refine ⟨e, ?_⟩
    rcases hp with ⟨z, -⟩ | ⟨-, hK2, hF2⟩
    · exact absurd z hV
    · refine ⟨S, X, L, wn, sl, fl, ad, hK2, hF2, ha, fun S2 hR => ?_⟩
      obtain ⟨g1, g2, -, g4⟩ := hR
      obtain ⟨k1, k2, k3⟩ := g4 (fun z => hV2 z.1.1)
      refine ⟨sS.orr g1 g2, hI.orr g1 g2 (fun _ _ _ _ _ _ => rfl) (by rw [k2]; exact hI.li) ?_⟩
      rw [k1]
      exact ⟨hI.be.1, fun j z1 z2 => by rw [k3 j z2]; exact hI.be.2 j z1 z2⟩
end TO
