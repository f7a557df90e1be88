/-! ===== pack ===== -/
theorem pH_x {X g : Nat → Int32} {n x : Int32} : ∀ a, pH X g n x a = pH X g n 0 a + x
  | 0 => (Int32.zero_add x).symm
  | a + 1 => by
    rw [pH, pH, pH_x (X := X) (g := g) (n := n) (x := x) a]
    by_cases e : g a = n
    · rw [if_pos e, if_pos e, Int32.add_assoc, Int32.add_assoc, Int32.add_comm x]
    · rw [if_neg e, if_neg e]
theorem pH_nat {W g : Nat → Int32} {n : Int32} {B : Nat} : ∀ a, (∀ i, i < a → ∃ x, W i = nI x ∧ x ≤ B) → ∃ s, pH W g n 0 a = nI s ∧ s ≤ B * a
  | 0, _ => ⟨0, rfl, Nat.zero_le _⟩
  | a + 1, h => by
    obtain ⟨s, e, hs⟩ := pH_nat (g := g) (n := n) a (fun i hi => h i (by omega))
    obtain ⟨x, ex, hx⟩ := h a (Nat.lt_succ_self a)
    rw [pH, Nat.mul_succ]
    by_cases q : g a = n
    · rw [if_pos q, e, ex, nI_add]; exact ⟨_, rfl, by omega⟩
    · rw [if_neg q]; exact ⟨s, e, by omega⟩
theorem net_R {M A R g : Nat → Int32} {n : Int32} : ∀ a, (∀ i, i < a → (∃ x, M i = nI x ∧ 1 ≤ x ∧ x ≤ 9) ∧ R i = if A i = 0 then M i else 9) → ∃ s, pH R g n 0 a = nI s ∧ s ≤ 9 * a ∧ (pAl g n a = 0 → 1 ≤ s) ∧ (¬ pAl g n a = 0 → s = 0) ∧ (pFt A g n a = 0 → 9 ≤ s) ∧ (¬ pFt A g n a = 0 → pH M g n 0 a = nI s)
  | 0, _ => ⟨0, rfl, Nat.zero_le _, fun z => absurd (show (1 : Int32) = 0 from z) (by decide), fun _ => rfl, fun z => absurd (show (1 : Int32) = 0 from z) (by decide), fun _ => rfl⟩
  | a + 1, h => by
    obtain ⟨s, e, hs, h1, h2, h3, h4⟩ := net_R (g := g) (n := n) a (fun i hi => h i (by omega))
    obtain ⟨⟨x, ex, x1, x9⟩, er⟩ := h a (Nat.lt_succ_self a)
    rw [pH, pAl, pFt, pH]
    by_cases q : g a = n
    · rw [if_pos q, if_pos q, if_pos q, if_pos q, e, er]
      by_cases qa : A a = 0
      · rw [if_pos qa, ex, nI_add]
        refine ⟨s + x, rfl, by omega, fun _ => by omega, fun z => absurd rfl z, fun z => ?_, fun z => ?_⟩
        · by_cases qf : pFt A g n a = 0
          · have := h3 qf; omega
          · rw [if_neg qf, if_pos qa] at z; exact absurd z (by decide)
        · by_cases qf : pFt A g n a = 0
          · rw [if_pos qf] at z; exact absurd rfl z
          · rw [h4 qf, nI_add]
      · rw [if_neg qa, show (9 : Int32) = nI 9 from rfl, nI_add]
        refine ⟨s + 9, rfl, by omega, fun _ => by omega, fun z => absurd rfl z, fun _ => by omega, fun z => ?_⟩
        by_cases qf : pFt A g n a = 0
        · rw [if_pos qf] at z; exact absurd rfl z
        · rw [if_neg qf, if_neg qa] at z; exact absurd rfl z
    · rw [if_neg q, if_neg q, if_neg q, if_neg q]
      exact ⟨s, e, by omega, h1, h2, h3, h4⟩
theorem fit_iff {W M A R g : Nat → Int32} {n lift : Int32} {a : Nat} (ha : a < 100) (hM : ∀ i, i < a + 1 → (∃ x, M i = nI x ∧ 1 ≤ x ∧ x ≤ 9) ∧ R i = if A i = 0 then M i else 9) : (pH W g n 0 a + W a ≤ lift ∧ pH R g n 0 a + R a ≤ 9) ↔ ¬ fitS W M A g a n lift = 0 := by
  obtain ⟨s, e, hs, h1, h2, h3, h4⟩ := net_R (g := g) (n := n) a (fun i hi => hM i (by omega))
  obtain ⟨⟨x, ex, x1, x9⟩, er⟩ := hM a (Nat.lt_succ_self a)
  have le9 : ∀ k : Nat, k < 2000 → ((nI k ≤ 9) ↔ k ≤ 9) := fun k hk => nI_leI (b := 9) (by omega) (by decide)
  have lt9 : ∀ k : Nat, k < 2000 → ((9 < nI k) ↔ 9 < k) := fun k hk => nI_ltI (a := 9) (by decide) (by omega)
  rw [fitS, pH_x (X := W) (x := W a), pH_x (X := M) (x := M a), fitI, e, er]
  by_cases qf : pFt A g n a = 0
  · rw [if_pos qf]
    refine ⟨fun z => ?_, fun z => absurd rfl z⟩
    have := h3 qf
    exfalso
    have z2 := z.2
    by_cases qa : A a = 0
    · rw [if_pos qa, ex, nI_add, le9 _ (by omega)] at z2; omega
    · rw [if_neg qa, show (9 : Int32) = nI 9 from rfl, nI_add] at z2
      have := (le9 _ (by omega)).mp z2; omega
  · rw [if_neg qf, h4 qf, ex, nI_add]
    by_cases qal : pAl g n a = 0
    · rw [if_pos qal]
      have := h1 qal
      by_cases qa : A a = 0
      · rw [if_pos qa, if_pos qa, nI_add]
        by_cases c1 : lift < pH W g n 0 a + W a
        · rw [if_pos c1]; exact ⟨fun z => absurd c1 (Int32.not_lt.mpr z.1), fun z => absurd rfl z⟩
        · rw [if_neg c1]
          by_cases c2 : 9 < nI (s + x)
          · rw [if_pos c2]; exact ⟨fun z => absurd c2 (Int32.not_lt.mpr z.2), fun z => absurd rfl z⟩
          · rw [if_neg c2]; exact ⟨fun _ => by decide, fun _ => ⟨Int32.not_lt.mp c1, Int32.not_lt.mp c2⟩⟩
      · rw [if_neg qa, if_neg qa]
        refine ⟨fun z => ?_, fun z => absurd rfl z⟩
        exfalso
        have z2 := z.2
        rw [show (9 : Int32) = nI 9 from rfl, nI_add] at z2
        have := (le9 _ (by omega)).mp z2; omega
    · rw [if_neg qal]
      have s0 := h2 qal
      subst s0
      rw [Nat.zero_add, if_neg (show ¬ 9 < nI x from fun z => by have := (lt9 x (by omega)).mp z; omega)]
      have hra : nI 0 + (if A a = 0 then nI x else 9) ≤ 9 := by
        by_cases qa : A a = 0
        · rw [if_pos qa, nI_add]; exact (le9 _ (by omega)).mpr (by omega)
        · rw [if_neg qa]; decide
      by_cases c1 : lift < pH W g n 0 a + W a
      · rw [if_pos c1]; exact ⟨fun z => absurd c1 (Int32.not_lt.mpr z.1), fun z => absurd rfl z⟩
      · rw [if_neg c1]; exact ⟨fun _ => by decide, fun _ => ⟨Int32.not_lt.mp c1, hra⟩⟩
theorem ptL_mn {rc1 : Nat → Int32 → Int32} {rc2 : (Nat → Int32) → Nat} {ft1 ft2 : Nat → Prop} [DecidablePred ft1] [DecidablePred ft2] {g : Nat → Int32} {a u : Nat} (hft : ∀ v, v < u → (ft1 v ↔ ft2 v)) (hrc : ∀ v, v < u → ft2 v → ∀ F : Nat, F ≤ 900 → rc1 v (nI F) = nI (min F (rc2 (upd g a (nI v))))) {F : Nat} (hF : F ≤ 900) : ∀ k, k ≤ u → ptL rc1 ft1 (nI F) k = nI (min F (mnL rc2 ft2 g a k))
  | 0, _ => by rw [ptL, mnL, Nat.min_eq_left (by omega)]
  | k + 1, hk => by
    have ih := ptL_mn hft hrc hF k (by omega)
    rw [ptL, mnL]
    by_cases c : ft2 k
    · rw [if_pos c, if_pos ((hft k (by omega)).mpr c), ih, hrc k (by omega) c _ (by omega), Nat.min_assoc]
    · rw [if_neg c, if_neg (fun z => c ((hft k (by omega)).mp z)), ih]
theorem pH_new {X g : Nat → Int32} {a v v2 : Nat} (hv : v < 1000) (hv2 : v2 < 1000) : pH X (upd g a (nI v)) (nI v2) 0 (a + 1) = if v2 = v then pH X g (nI v2) 0 a + X a else pH X g (nI v2) 0 a := by
  rw [pH, pk_us, pH_ext (fun i hi => pk_un (show i ≠ a by omega))]
  by_cases e : v2 = v
  · rw [if_pos e, if_pos (by rw [e])]
  · rw [if_neg e, if_neg (fun z => e ((nI_eq (by omega) (by omega)).mp z).symm)]
/-- both searches find the same -/
theorem ptF_mn {W M A R : Nat → Int32} {pm : Nat} {lift : Int32} (hp : pm ≤ 9) (hM : ∀ i, i < pm → (∃ x, M i = nI x ∧ 1 ≤ x ∧ x ≤ 9) ∧ R i = if A i = 0 then M i else 9) : ∀ {f u : Nat} {g w r : Nat → Int32} {F : Nat}, f ≤ pm → can g (pm - f) u → F ≤ 900 → (∀ v, v < 100 → w v = pH W g (nI v) 0 (pm - f) ∧ r v = pH R g (nI v) 0 (pm - f)) → ptF W R pm lift f w r u (nI F) = nI (min F (mnF W M A pm lift f g u))
  | 0, u, g, w, r, F, hf, hc, hF, hr => by
    have hu := hc.1
    rw [ptF, mnF]
    have e : (nI u < nI F) ↔ u < F := nI_ltI (by omega) (by omega)
    by_cases c : u < F
    · rw [if_pos (e.mpr c), Nat.min_eq_right (by omega)]
    · rw [if_neg (fun z => c (e.mp z)), Nat.min_eq_left (by omega)]
  | f + 1, u, g, w, r, F, hf, hc, hF, hr => by
    have hu := hc.1
    have e : (nI u < nI F) ↔ u < F := nI_ltI (by omega) (by omega)
    have hge := mnF_ge (W := W) (M := M) (A := A) (pm := pm) (lift := lift) (f := f + 1) (u := u) (g := g) (by omega)
    rw [ptF]
    by_cases c : u < F
    · rw [if_pos (e.mpr c)]
      have hft : ∀ v, v < u + 1 → ((w v + W (pm - (f + 1)) ≤ lift ∧ r v + R (pm - (f + 1)) ≤ 9) ↔ ¬ fitS W M A g (pm - (f + 1)) (nI v) lift = 0) := fun v hv => by
        rw [(hr v (by omega)).1, (hr v (by omega)).2]
        exact fit_iff (by omega) (fun i hi => hM i (by omega))
      have hrel : ∀ v, v < u + 1 → ∀ v2, v2 < 100 → upd w v (w v + W (pm - (f + 1))) v2 = pH W (upd g (pm - (f + 1)) (nI v)) (nI v2) 0 (pm - f) ∧ upd r v (r v + R (pm - (f + 1))) v2 = pH R (upd g (pm - (f + 1)) (nI v)) (nI v2) 0 (pm - f) := fun v hv v2 hv2 => by
        have ea : pm - f = pm - (f + 1) + 1 := by omega
        rw [ea, pH_new (by omega) (by omega), pH_new (by omega) (by omega)]
        by_cases q : v2 = v
        · rw [q, pk_us, pk_us, if_pos rfl, if_pos rfl, (hr v (by omega)).1, (hr v (by omega)).2]
          exact ⟨rfl, rfl⟩
        · rw [pk_un q, pk_un q, if_neg q, if_neg q]
          exact hr v2 hv2
      have hrc : ∀ v, v < u → ¬ fitS W M A g (pm - (f + 1)) (nI v) lift = 0 → ∀ F : Nat, F ≤ 900 → ptF W R pm lift f (upd w v (w v + W (pm - (f + 1)))) (upd r v (r v + R (pm - (f + 1)))) (if v = u then u + 1 else u) (nI F) = nI (min F (mnF W M A pm lift f (upd g (pm - (f + 1)) (nI v)) u)) := fun v hv _ F hF => by
        rw [if_neg (show v ≠ u by omega)]
        have c2 := can_old hc hv
        rw [show pm - (f + 1) + 1 = pm - f from by omega] at c2
        exact ptF_mn hp hM (by omega) c2 hF (hrel v (by omega))
      rw [show min (u + 1) 9 = u + 1 by omega, ptL]
      have key := ptL_mn (rc1 := fun v fw => ptF W R pm lift f (upd w v (w v + W (pm - (f + 1)))) (upd r v (r v + R (pm - (f + 1)))) (if v = u then u + 1 else u) fw) (rc2 := fun g2 => mnF W M A pm lift f g2 u) (ft1 := fun v => w v + W (pm - (f + 1)) ≤ lift ∧ r v + R (pm - (f + 1)) ≤ 9) (ft2 := fun v => ¬ fitS W M A g (pm - (f + 1)) (nI v) lift = 0) (g := g) (a := pm - (f + 1)) (u := u) (fun v hv => hft v (by omega)) hrc hF u (Nat.le_refl _)
      rw [key, mnF]
      by_cases cu : ¬ fitS W M A g (pm - (f + 1)) (nI u) lift = 0
      · have c2 := can_new hc
        rw [show pm - (f + 1) + 1 = pm - f from by omega] at c2
        rw [if_pos ((hft u (by omega)).mpr cu), if_pos cu]
        simp only [if_true]
        rw [ptF_mn hp hM (f := f) (by omega) c2 (by omega) (hrel u (by omega)), Nat.min_assoc]
      · rw [if_neg (fun z => cu ((hft u (by omega)).mp z)), if_neg cu]
        congr 1
        omega
    · rw [if_neg (fun z => c (e.mp z)), Nat.min_eq_left (by omega)]
section PA
variable {G : Nat → Nat} {x0 m0 : Nat} {adm : Nat → Nat} {S X : MS} {L : Nat → List Nat} {wn : Nat → Option Nat} {sl : Nat → Nat} {fl : Nat} {ad : Nat → Nat → Nat} {h : AH}
theorem Inv.pz {T : MS} (hI : Inv S X L wn sl fl) (hR : pzR S T) : Inv T X L wn sl fl := by
  obtain ⟨g1, g2⟩ := hR
  have h1 : ∀ k, k ≠ 60 → T.1 k = S.1 k := g1
  have h2 : ∀ k, k ≠ 58 ∧ k ≠ 59 → T.2 k = S.2 k := fun k a => g2 k a.1 a.2
  unfold Inv
  rw [h1 3 (by decide), h1 11 (by decide), h1 16 (by decide), h1 28 (by decide), h1 45 (by decide), h1 33 (by decide), h1 0 (by decide), h1 30 (by decide), h1 51 (by decide), h1 55 (by decide), h2 29 (by decide), h2 1 (by decide), h2 2 (by decide), h2 8 (by decide), h2 9 (by decide), h2 10 (by decide), h2 12 (by decide), h2 13 (by decide), h2 14 (by decide), h2 15 (by decide), h2 17 (by decide), h2 18 (by decide), h2 19 (by decide), h2 20 (by decide), h2 21 (by decide), h2 23 (by decide), h2 24 (by decide), h2 25 (by decide), h2 27 (by decide), h2 40 (by decide), h2 41 (by decide), h2 31 (by decide), h2 32 (by decide), h2 50 (by decide), h2 53 (by decide)]
  exact hI
theorem t_pack {p q : Int32} (hM : MR m0 adm S h) (hK : KR G (OM m0 adm) ad S X L wn sl fl h) (ha : ad 0 0 = x0) (hI : Inv S X L wn sl fl) : Two G x0 m0 adm Y_X11_pack Y_X12_pack [.int p, .int q] h := by
  have c := hI.co
  have b3 := c.b3
  have hlt : ∀ i, i < (psel S p (L 3).length).length → (psel S p (L 3).length).getD i 0 < (L 3).length := fun i hi => by
    rw [List.getD_eq_getElem?_getD, List.getElem?_eq_getElem hi]
    exact psel_lt (List.getElem_mem hi)
  have hv : a_pack S X L p q = r_pack S (L 3).length p q := by
    rw [a_pack, r_pack, c.n0]
    by_cases z : (0 < p ∧ p < nI (L 0).length) ∧ (0 ≤ q ∧ q ≤ 400)
    · rw [if_pos z, if_neg (not_not_intro z)]
      by_cases z9 : (psel S p (L 3).length).length ≤ 9
      · rw [if_pos z9, if_neg (by omega), a_few]
        by_cases zh : (psel S p (L 3).length).any (fun l => decide (q < S.2 18 l)) = true
        · rw [if_pos zh, if_pos zh]
        · rw [if_neg zh, if_neg zh, mnP, nI_1]
          rw [ptF_mn (M := iM S (psel S p (L 3).length)) (A := iA S (psel S p (L 3).length)) (g := fun _ => 0) z9 (fun i hi => ⟨hI.lo.ro _ (hlt i hi), ?_⟩) (Nat.le_refl _) (by rw [Nat.sub_self]; exact can_0) (by omega) (fun v _ => ?_)]
          · congr 1
            have hW : ∀ i, i < (psel S p (L 3).length).length → ¬ q < iW S (psel S p (L 3).length) i ∧ ¬ 9 < iM S (psel S p (L 3).length) i := fun i hi => by
              refine ⟨fun y => zh (List.any_eq_true.mpr ⟨(psel S p (L 3).length).getD i 0, ?_, decide_eq_true y⟩), fun y => ?_⟩
              · rw [List.getD_eq_getElem?_getD, List.getElem?_eq_getElem hi]
                exact List.getElem_mem hi
              · obtain ⟨r, er, r1, r9⟩ := hI.lo.ro _ (hlt i hi)
                have y : 9 < S.2 19 ((psel S p (L 3).length).getD i 0) := y
                rw [er] at y
                have := (nI_ltI (a := 9) (by decide) (by omega)).mp y
                omega
            have := mnF_own (W := iW S (psel S p (L 3).length)) (M := iM S (psel S p (L 3).length)) (A := iA S (psel S p (L 3).length)) (lift := q) (by omega) hW (Nat.le_refl _) (u := 0) (g := fun _ => 0) (by rw [Nat.sub_self]; exact can_0)
            omega
          · show (if S.2 20 _ = 3 ∨ S.2 20 _ = 1 then 9 else S.2 19 _) = if ib (S.2 20 _ = 1 ∨ S.2 20 _ = 3) = 0 then S.2 19 _ else 9
            by_cases y : S.2 20 ((psel S p (L 3).length).getD i 0) = 3 ∨ S.2 20 ((psel S p (L 3).length).getD i 0) = 1
            · rw [if_pos y, if_neg (fun z => ib_0.mp z y.symm)]
            · rw [if_neg y, if_pos (by rw [ib_0]; exact fun z => y z.symm)]
          · rw [Nat.sub_self, (hI.sc v).1, (hI.sc v).2]
            exact ⟨rfl, rfl⟩
      · rw [if_neg z9, if_pos (by omega)]
    · rw [if_neg z, if_pos z]
  have hc := c_pack (d := 5) (h0 := h) (p := p) (q := q) hK (KF.self hM) c.r0 c.b0 c.r3 c.b3 c.b7
  rw [ha] at hc
  refine two_of (Q := fun S2 => pzR S S2) (v := r_pack S (L 3).length p q) hM (by omega) (by omega) (hc.weaken (fun r h2 hp => ?_)) (k_pack (d := 9) c.n3 c.b3 (fun l hl => ?_))
  · obtain ⟨e, X2, l, x1, x2, hl, hK2, hF2⟩ := hp
    refine ⟨by rw [e, hv], S, X2, lset L 7 l, wn, sl, fl, ad, hK2, hF2, ha, fun S2 z => ⟨sS.of (z.1 0 (by decide)).symm (z.1 30 (by decide)).symm (fun k hk _ _ _ _ _ _ _ _ _ _ => (z.2 k (by omega) (by omega)).symm), ?_⟩⟩
    have := (hI.scr (X2 := X2) (l5 := L 5) (l7 := l) (fl2 := fl) (x1 3 (by decide) (by decide)) (x1 4 (by decide) (by decide)) (fun k _ _ _ => congrFun x2 k) c.b5 hl c.hfl).pz z
    rw [lset_id] at this
    exact this
  · obtain ⟨r, er, r1, r9⟩ := hI.lo.ro l hl
    rw [er]
    exact fun z => by have := (nI_ltI (a := 9) (by decide) (by omega)).mp z; omega
end PA
