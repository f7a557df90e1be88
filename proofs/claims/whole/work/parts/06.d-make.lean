/-! ===== machine, load, drop, minute ===== -/
theorem nI_divG {q k : Nat} (h : q < 2 ^ 31) (hk : 0 < k) (hk2 : k < 2 ^ 31) : nI q / nI k = nI (q / k) := by
  have h3 : q / k ≤ q := Nat.div_le_self _ _
  have hd : ((q : Int) / (k : Int)) = ((q / k : Nat) : Int) := rfl
  apply Int32.toInt_inj.mp
  rw [Int32.toInt_div, nI_toInt h, nI_toInt hk2, nI_toInt (by omega), Int.tdiv_eq_ediv_of_nonneg (by omega), hd]
  generalize q / k = w at h3
  rw [Int.bmod_eq_of_le (by omega) (by omega)]
theorem IRu.xg {tx mn : Nat → Int32} {xg xg' : Nat → Nat → Int32} {sl : Nat → Nat} {n : Nat} (h : IRu tx mn xg sl n) (hx : ∀ k, 8 ≤ k → xg' k = xg k) : IRu tx mn xg' sl n := by
  intro i hi
  obtain ⟨q, g, h1, h2, h3, h4, h5, h6, h7, h8, h9, h10⟩ := h i hi
  exact ⟨q, g, h1, h2, h3, h4, h5, h6, by rw [hx 8 (by decide)]; exact h7, by rw [hx 9 (by decide)]; exact h8, by rw [hx 10 (by decide)]; exact h9, by rw [hx (100 + i) (by omega)]; exact h10⟩
theorem lsum_congr {f g : Nat → Int32} {l : List Nat} (h : ∀ x ∈ l, f x = g x) : lsum f l = lsum g l := by
  have key : ∀ (l : List Nat) (a : Int32), (∀ x ∈ l, f x = g x) → l.foldl (fun a x => a + f x) a = l.foldl (fun a x => a + g x) a := by
    intro l
    induction l with
    | nil => intro a _; rfl
    | cons y l ih =>
      intro a hl
      rw [List.foldl_cons, List.foldl_cons, hl y List.mem_cons_self]
      exact ih _ (fun x hx => hl x (List.mem_cons_of_mem _ hx))
  exact key l 0 h
theorem IHa.congr {pl ro ki st on pl' ro' ki' st' on' : Nat → Int32} {H : Nat → List Nat} {nm nl nl' : Nat} (h : IHa pl ro ki st on H nm nl) (hs : ∀ x, x < nl → pl' x = pl x ∧ ro' x = ro x ∧ ki' x = ki x ∧ (st' x = 1 ↔ st x = 1) ∧ on' x = on x) (hle : nl ≤ nl') (hn : ∀ x, nl ≤ x → x < nl' → st' x ≠ 1) : IHa pl' ro' ki' st' on' H nm nl' := by
  have hin : ∀ m, m < nm → ∀ x ∈ H m, x < nl := fun m hm x hx => ((h.mem m hm x).mp hx).1
  refine ⟨h.nd, fun m hm x => ?_, fun x hx hst => ?_, fun m hm x hx y hy => ?_, fun m hm x hx y hy => ?_, fun m hm x hx => ?_, fun m hm => ?_⟩
  · rw [h.mem m hm x]
    constructor
    · rintro ⟨a, b, c⟩
      obtain ⟨-, -, -, s4, s5⟩ := hs x a
      exact ⟨by omega, s4.mpr b, by rw [s5]; exact c⟩
    · rintro ⟨a, b, c⟩
      by_cases e : x < nl
      · obtain ⟨-, -, -, s4, s5⟩ := hs x e
        exact ⟨e, s4.mp b, by rw [← s5]; exact c⟩
      · exact absurd b (hn x (by omega) a)
  · by_cases e : x < nl
    · obtain ⟨-, -, -, s4, s5⟩ := hs x e
      rw [s5]
      exact h.on x e (s4.mp hst)
    · exact absurd hst (hn x (by omega) hx)
  · rw [(hs x (hin m hm x hx)).1, (hs y (hin m hm y hy)).1]
    exact h.pl m hm x hx y hy
  · rw [(hs x (hin m hm x hx)).2.2.1]
    exact h.al m hm x hx y hy
  · rw [(hs x (hin m hm x hx)).2.2.1]
    exact h.dn m hm x hx
  · obtain ⟨k, a, b, c⟩ := h.ro m hm
    exact ⟨k, a, by rw [← b]; exact lsum_congr (fun x hx => (hs x (hin m hm x hx)).2.1), c⟩
theorem IHa.gm {pl ro ki st on : Nat → Int32} {H : Nat → List Nat} {nm nl : Nat} (h : IHa pl ro ki st on H nm nl) (hb : nm ≤ 100000) : IHa pl ro ki st on (fun m => if m = nm then [] else H m) (nm + 1) nl := by
  refine ⟨fun m hm => ?_, fun m hm x => ?_, fun x hx hst => ?_, fun m hm x hx y hy => ?_, fun m hm x hx y hy => ?_, fun m hm x hx => ?_, fun m hm => ?_⟩
  · by_cases e : m = nm
    · simp only [if_pos e]; exact List.nodup_nil
    · simp only [if_neg e]; exact h.nd m (by omega)
  · by_cases e : m = nm
    · simp only [if_pos e]
      refine ⟨fun z => (by cases z), fun z => ?_⟩
      obtain ⟨m2, g1, g2⟩ := h.on x z.1 z.2.1
      rw [g2, nI_eq (by omega) (by omega)] at z
      omega
    · simp only [if_neg e]; exact h.mem m (by omega) x
  · obtain ⟨m2, g1, g2⟩ := h.on x hx hst
    exact ⟨m2, by omega, g2⟩
  · by_cases e : m = nm
    · simp only [if_pos e] at hx; cases hx
    · simp only [if_neg e] at hx hy; exact h.pl m (by omega) x hx y hy
  · by_cases e : m = nm
    · simp only [if_pos e] at hx; cases hx
    · simp only [if_neg e] at hx hy; exact h.al m (by omega) x hx y hy
  · by_cases e : m = nm
    · simp only [if_pos e] at hx; cases hx
    · simp only [if_neg e] at hx; exact h.dn m (by omega) x hx
  · by_cases e : m = nm
    · simp only [if_pos e]; exact ⟨0, by omega, rfl, Nat.le_refl _⟩
    · simp only [if_neg e]; exact h.ro m (by omega)
theorem IMa.grow {t f b : Nat → Int32} {n : Nat} {y : Int32} (h : IMa t f b n) (hy : rg y 2000) : IMa (upd t n y) (upd f n y) b (n + 1) := by
  refine ⟨fun i hi => ?_, fun i hi => h.2 i (by omega)⟩
  by_cases e : i = n
  · subst e
    rw [pk_us, pk_us, h.2 i (Nat.le_refl _)]
    exact ⟨hy, hy, rg0⟩
  · rw [pk_un e, pk_un e]
    exact h.1 i (by omega)
section MK2
variable {G : Nat → Nat} {x0 m0 : Nat} {adm : Nat → Nat} {S X : MS} {L : Nat → List Nat} {wn : Nat → Option Nat} {sl : Nat → Nat} {fl : Nat} {ad : Nat → Nat → Nat} {h : AH}
theorem t_machine {x y : Int32} (hM : MR m0 adm S h) (hK : KR G (OM m0 adm) ad S X L wn sl fl h) (ha : ad 0 0 = x0) (hI : Inv S X L wn sl fl) : Two G x0 m0 adm Y_X11_machine Y_X12_machine [.int x, .int y] h := by
  have e12 : (S.1 11 = 4) ↔ ¬ (L 1).length < 4 := eq_cap hI.co.n1 hI.co.b1 (by decide)
  have hv : a_machine L x y = r_machine S x y := by
    rw [a_machine, r_machine]
    by_cases h1 : (1 ≤ x ∧ x ≤ 200) ∧ (1 ≤ y ∧ y ≤ 2000)
    · rw [if_pos h1, if_neg (show ¬ (¬ (1 ≤ x ∧ x ≤ 200) ∨ ¬ (1 ≤ y ∧ y ≤ 2000)) from fun z => z.elim (fun q => q h1.1) (fun q => q h1.2))]
      by_cases h2 : (L 1).length < 4
      · rw [if_pos h2, if_neg (fun z => e12.mp z h2), hI.co.n1, nI_1, nI_m1]
      · rw [if_neg h2, if_pos (e12.mpr h2)]
    · rw [if_neg h1, if_pos (show ¬ (1 ≤ x ∧ x ≤ 200) ∨ ¬ (1 ≤ y ∧ y ≤ 2000) from Classical.not_and_iff_not_or_not.mp h1)]
  have hc := c_machine (d := 13) (h0 := h) (x := x) (y := y) hK (KF.self hM) hI.co.r1 hI.co.b1
  rw [ha] at hc
  refine two_of (Q := fun S2 => S2 = s_machine S x y) (v := r_machine S x y) hM (by decide) (by decide) (hc.weaken (fun r h2 hp => ?_)) (k_machine (d := 19) (fun z => by rw [hI.co.n1]; exact vp_in_nI (Nat.not_le.mp (fun q => z (e12.mpr (by omega)))) (by decide)))
  obtain ⟨e, hp⟩ := hp
  refine ⟨by rw [e, hv], ?_⟩
  rcases hp with ⟨⟨h1, h2⟩, l, q, hK2, hF2⟩ | ⟨hno, hK2, hF2⟩
  · refine ⟨_, _, _, _, _, _, _, hK2, hF2, ha, fun S2 z => ?_⟩
    subst z
    have hn : ¬ ((¬ (1 ≤ x ∧ x ≤ 200) ∨ ¬ (1 ≤ y ∧ y ≤ 2000)) ∨ S.1 11 = 4) := fun z => z.elim (fun q => q.elim (fun q => q h1.1) (fun q => q h1.2)) (fun q => e12.mp q h2)
    have hnl : (L 1).length ≤ (L 1).length := Nat.le_refl _
    rw [s_machine, if_neg hn, show (S.1 11).toNatClampNeg = (L 1).length from by rw [hI.co.n1]; exact nI_clamp (by omega)]
    refine ⟨sS.of rfl rfl (fun k hk _ _ _ _ _ _ _ _ _ _ => ?_), ?_⟩
    · show u2 (u2 (u2 (u2 S.2 7 (L 1).length x) 8 (L 1).length y) 9 (L 1).length y) 10 (L 1).length 0 k = u2 (u2 (u2 S.2 7 (L 1).length x) 8 (L 1).length y) 9 (L 1).length y k
      by_cases k10 : k = 10
      · subst k10
        rw [u2_s]
        exact upd_0 (hI.ma.2 _ hnl)
      · rw [u2_n k10]
    have eH : (fun m => lset (lset L (8 + (L 1).length) []) 1 (L 1 ++ [(L 1).length]) (8 + m)) = (fun m => if m = (L 1).length then [] else (fun m => L (8 + m)) m) := by
      funext m
      rw [lset_n (show 8 + m ≠ 1 by omega)]
      by_cases e : m = (L 1).length
      · rw [if_pos e, e, lset_s]
      · rw [if_neg e, lset_n (by omega)]
    unfold Inv
    rw [eH, lsM_1, lsM_n (show 0 < 8 by decide) (by decide), lsM_n (show 2 < 8 by decide) (by decide), lsM_n (show 3 < 8 by decide) (by decide), lsM_n (show 4 < 8 by decide) (by decide), lsM_n (show 5 < 8 by decide) (by decide), lsM_n (show 6 < 8 by decide) (by decide), lsM_n (show 7 < 8 by decide) (by decide)]
    have hlen : (L 1 ++ [(L 1).length]).length = (L 1).length + 1 := by rw [List.length_append, List.length_singleton]
    refine ⟨hI.co.g1 h2, hI.tm, hI.tp, hI.tb, hI.pl, ?_, hI.pi, hI.lo, hI.st, ?_, hI.fy, hI.ru, hI.li, hI.be, hI.sc⟩
    · rw [hlen]
      exact hI.ma.grow (rg_of (Int32.le_trans (by decide) h1.2.1) h1.2.2 (by decide))
    · rw [hlen]
      exact hI.ha.gm (by omega)
  · refine ⟨S, X, L, wn, sl, fl, ad, hK2, hF2, ha, fun S2 z => ?_⟩
    subst z
    have hn : (¬ (1 ≤ x ∧ x ≤ 200) ∨ ¬ (1 ≤ y ∧ y ≤ 2000)) ∨ S.1 11 = 4 := Classical.byContradiction (fun z => hno ⟨⟨Classical.byContradiction (fun q => z (Or.inl (Or.inl q))), Classical.byContradiction (fun q => z (Or.inl (Or.inr q)))⟩, Classical.byContradiction (fun q => z (Or.inr (e12.mpr q)))⟩)
    rw [s_machine, if_pos hn]
    exact ⟨sS.same0, hI⟩
theorem rg1_of {x : Int32} {B : Nat} (h0 : 1 ≤ x) (h1 : x ≤ nI B) (hB : B ≤ 100000) : ∃ w, x = nI w ∧ 1 ≤ w ∧ w ≤ B := by
  obtain ⟨j, hj, rfl⟩ := nI_of (Int32.not_lt.mpr (Int32.le_trans (by decide) h0))
  exact ⟨j, rfl, (nI_leI (a := 1) (by decide) hj).mp h0, (nI_leI hj (by omega)).mp h1⟩
theorem ILo.grow {pl we ro ki re : Nat → Int32} {n np : Nat} {a b c d e : Int32} (h : ILo pl we ro ki re n np) (h1 : ∃ p, a = nI p ∧ 0 < p ∧ p < np) (h2 : ∃ w, b = nI w ∧ 1 ≤ w ∧ w ≤ 99) (h3 : ∃ r, c = nI r ∧ 1 ≤ r ∧ r ≤ 9) (h4 : rg d 4) (h5 : rg e 720) : ILo (upd pl n a) (upd we n b) (upd ro n c) (upd ki n d) (upd re n e) (n + 1) np := by
  refine ⟨fun i hi => ?_, fun i hi => ?_, fun i hi => ?_, fun i hi => ?_, fun i hi => ?_⟩
  all_goals by_cases z : i = n
  · subst z; rw [pk_us]; exact h1
  · rw [pk_un z]; exact h.pl i (by omega)
  · subst z; rw [pk_us]; exact h2
  · rw [pk_un z]; exact h.we i (by omega)
  · subst z; rw [pk_us]; exact h3
  · rw [pk_un z]; exact h.ro i (by omega)
  · subst z; rw [pk_us]; exact h4
  · rw [pk_un z]; exact h.ki i (by omega)
  · subst z; rw [pk_us]; exact h5
  · rw [pk_un z]; exact h.re i (by omega)
theorem t_load {x w y z : Int32} (hM : MR m0 adm S h) (hK : KR G (OM m0 adm) ad S X L wn sl fl h) (ha : ad 0 0 = x0) (hI : Inv S X L wn sl fl) : Two G x0 m0 adm Y_X11_load Y_X12_load [.int x, .int w, .int y, .int z] h := by
  have e12 : (S.1 28 = 80) ↔ ¬ (L 3).length < 80 := eq_cap hI.co.n3 hI.co.b3 (by decide)
  have hdv : 0 ≤ x → 0 ≤ x / 10000 := by
    intro h0
    obtain ⟨j, hj, rfl⟩ := nI_of (Int32.not_lt.mpr h0)
    have h3 : j / 10000 ≤ j := Nat.div_le_self _ _
    rw [show (10000 : Int32) = nI 10000 from rfl, nI_divG hj (by decide) (by decide)]
    exact (nI_leI (a := 0) (by decide) (by omega)).mpr (Nat.zero_le _)
  have hok : (((0 ≤ x ∧ x / 10000 ≤ 4 ∧ (0 < x / 100 - x / 100 / 100 * 100 ∧ x / 100 - x / 100 / 100 * 100 < nI (L 0).length) ∧ (1 ≤ x - x / 100 * 100 ∧ x - x / 100 * 100 ≤ 9)) ∧ (1 ≤ w ∧ w ≤ 99) ∧ (0 ≤ y ∧ y ≤ 720) ∧ (0 ≤ z ∧ z ≤ 720))) ↔ ¬ (x < 0 ∨ ¬ (0 ≤ x / 10000 ∧ x / 10000 ≤ 4) ∨ ¬ (0 < x / 100 - x / 100 / 100 * 100 ∧ x / 100 - x / 100 / 100 * 100 < S.1 3) ∨ ¬ (1 ≤ x - x / 100 * 100 ∧ x - x / 100 * 100 ≤ 9) ∨ ¬ (1 ≤ w ∧ w ≤ 99) ∨ ¬ (0 ≤ y ∧ y ≤ 720) ∨ ¬ (0 ≤ z ∧ z ≤ 720)) := by
    rw [hI.co.n0]
    constructor
    · rintro ⟨⟨a1, a2, a3, a4⟩, a5, a6, a7⟩ q
      rcases q with q | q | q | q | q | q | q
      · exact Int32.not_lt.mpr a1 q
      · exact q ⟨hdv a1, a2⟩
      · exact q a3
      · exact q a4
      · exact q a5
      · exact q a6
      · exact q a7
    · intro q
      refine ⟨⟨Int32.not_lt.mp (fun p => q (Or.inl p)), ?_, ?_, ?_⟩, ?_, ?_, ?_⟩
      · exact (Classical.byContradiction (fun p => q (Or.inr (Or.inl p))) : 0 ≤ x / 10000 ∧ x / 10000 ≤ 4).2
      · exact Classical.byContradiction (fun p => q (Or.inr (Or.inr (Or.inl p))))
      · exact Classical.byContradiction (fun p => q (Or.inr (Or.inr (Or.inr (Or.inl p)))))
      · exact Classical.byContradiction (fun p => q (Or.inr (Or.inr (Or.inr (Or.inr (Or.inl p))))))
      · exact Classical.byContradiction (fun p => q (Or.inr (Or.inr (Or.inr (Or.inr (Or.inr (Or.inl p)))))))
      · exact Classical.byContradiction (fun p => q (Or.inr (Or.inr (Or.inr (Or.inr (Or.inr (Or.inr p)))))))
  have hv : a_load L x w y z = r_load S x w y z := by
    rw [a_load, r_load]
    by_cases h1 : ((0 ≤ x ∧ x / 10000 ≤ 4 ∧ (0 < x / 100 - x / 100 / 100 * 100 ∧ x / 100 - x / 100 / 100 * 100 < nI (L 0).length) ∧ (1 ≤ x - x / 100 * 100 ∧ x - x / 100 * 100 ≤ 9)) ∧ (1 ≤ w ∧ w ≤ 99) ∧ (0 ≤ y ∧ y ≤ 720) ∧ (0 ≤ z ∧ z ≤ 720))
    · rw [if_pos h1, if_neg (hok.mp h1)]
      by_cases h2 : (L 3).length < 80
      · rw [if_pos h2, if_neg (fun z => e12.mp z h2), hI.co.n3, nI_1, nI_m1]
      · rw [if_neg h2, if_pos (e12.mpr h2)]
    · rw [if_neg h1, if_pos (Classical.byContradiction (fun q => h1 (hok.mpr q)))]
  have hc := c_load (d := 13) (h0 := h) (x := x) (w := w) (y := y) (z := z) hK (KF.self hM) hI.co.b0 hI.co.r3 hI.co.b3
  rw [ha] at hc
  refine two_of (Q := fun S2 => S2 = s_load S x w y z) (v := r_load S x w y z) hM (by decide) (by decide) (hc.weaken (fun r h2 hp => ?_)) (k_load (d := 19) (fun z => by rw [hI.co.n3]; exact vp_in_nI (Nat.not_le.mp (fun q => z (e12.mpr (by omega)))) (by decide)))
  obtain ⟨e, hp⟩ := hp
  refine ⟨by rw [e, hv], ?_⟩
  rcases hp with ⟨⟨h1, h2⟩, q, hK2, hF2⟩ | ⟨hno, hK2, hF2⟩
  · refine ⟨_, _, _, _, _, _, _, hK2, hF2, ha, fun S2 zz => ?_⟩
    subst zz
    have hn : ¬ ((x < 0 ∨ ¬ (0 ≤ x / 10000 ∧ x / 10000 ≤ 4) ∨ ¬ (0 < x / 100 - x / 100 / 100 * 100 ∧ x / 100 - x / 100 / 100 * 100 < S.1 3) ∨ ¬ (1 ≤ x - x / 100 * 100 ∧ x - x / 100 * 100 ≤ 9) ∨ ¬ (1 ≤ w ∧ w ≤ 99) ∨ ¬ (0 ≤ y ∧ y ≤ 720) ∨ ¬ (0 ≤ z ∧ z ≤ 720)) ∨ S.1 28 = 80) := fun q => q.elim (hok.mp h1) (fun q => e12.mp q h2)
    have hnl : (L 3).length ≤ (L 3).length := Nat.le_refl _
    have e23 := upd_0 (hI.st.nw _ hnl).1
    have e27 := upd_0 (hI.st.nw _ hnl).2
    rw [s_load, if_neg hn, show (S.1 28).toNatClampNeg = (L 3).length from by rw [hI.co.n3]; exact nI_clamp (by omega)]
    refine ⟨sS.of rfl rfl (fun k hk k3 k11 k16 k28 k30 k31 k32 k33 k34 k35 => ?_), ?_⟩
    · by_cases k23 : k = 23
      · subst k23
        exact e23
      · by_cases k27 : k = 27
        · subst k27
          exact e27
        · rw [s_loadC]
          show u2 _ 27 _ 0 k = _
          rw [u2_n k27]
          by_cases k26 : k = 26
          · subst k26; rfl
          · rw [u2_n k26]
            by_cases k25 : k = 25
            · subst k25; rfl
            · rw [u2_n k25]
              by_cases k24 : k = 24
              · subst k24; rfl
              · rw [u2_n k24, u2_n k23]
                show _ = u2 (u2 (u2 _ 24 _ _) 25 _ _) 26 _ _ k
                rw [u2_n k26, u2_n k25, u2_n k24]
    have hlen : (lset L 3 (L 3 ++ [(L 3).length]) 3).length = (L 3).length + 1 := by rw [lset_s, List.length_append, List.length_singleton]
    obtain ⟨⟨a1, a2, a3, a4⟩, a5, a6, a7⟩ := h1
    refine ⟨hI.co.g3 h2, hI.tm, hI.tp, hI.tb, hI.pl, hI.ma, hI.pi, ?_, ?_, ?_, ?_, hI.ru.xg (fun k hk => u2_n (by omega)), hI.li, hI.be, hI.sc⟩
    · rw [hlen]
      refine hI.lo.grow ?_ (rg1_of a5.1 a5.2 (by decide)) (rg1_of a4.1 a4.2 (by decide)) (rg_of (hdv a1) a2 (by decide)) (rg_of a6.1 a6.2 (by decide))
      obtain ⟨i1, i2⟩ := idx_of1 a3 (show (L 0).length ≤ 100000 by have := hI.co.b0; omega)
      refine ⟨_, i2.symm, Nat.pos_of_ne_zero (fun q => ?_), i1⟩
      rw [q] at i2
      rw [← i2] at a3
      exact absurd a3.1 (by decide)
    · rw [hlen]
      refine ⟨fun i hi => hI.st.nw i (by omega), fun i hi => ?_⟩
      show upd (S.2 25) (L 3).length (-1) i = -1 ∨ ∃ f, f < (L 4).length ∧ upd (S.2 25) (L 3).length (-1) i = nI f
      by_cases q : i = (L 3).length
      · left; rw [q, pk_us]
      · rw [pk_un q]; exact hI.st.by_ i (by omega)
    · rw [hlen, hagL (by decide)]
      refine hI.ha.congr (fun i hi => ⟨pk_un (by omega), pk_un (by omega), pk_un (by omega), Iff.rfl, pk_un (by omega)⟩) (Nat.le_succ _) (fun i h1 h2 h3 => ?_)
      rw [show i = (L 3).length by omega] at h3
      exact absurd ((hI.st.nw _ hnl).1.symm.trans h3) (by decide)
    · rw [hlen]
      intro i hi hst
      by_cases q : i = (L 3).length
      · rw [q] at hst
        exact absurd ((hI.st.nw _ hnl).1.symm.trans hst) (by decide)
      · obtain ⟨f, f1, f2, f3⟩ := hI.fy i (by omega) hst
        refine ⟨f, f1, (pk_un q).trans f2, ?_⟩
        show upd (X.2 0) (L 3).length 0 i = if upd (S.2 20) (L 3).length (x / 10000) i = 4 then _ else _
        rw [pk_un q, pk_un q]
        exact f3
  · refine ⟨S, X, L, wn, sl, fl, ad, hK2, hF2, ha, fun S2 zz => ?_⟩
    subst zz
    have hn : (x < 0 ∨ ¬ (0 ≤ x / 10000 ∧ x / 10000 ≤ 4) ∨ ¬ (0 < x / 100 - x / 100 / 100 * 100 ∧ x / 100 - x / 100 / 100 * 100 < S.1 3) ∨ ¬ (1 ≤ x - x / 100 * 100 ∧ x - x / 100 * 100 ≤ 9) ∨ ¬ (1 ≤ w ∧ w ≤ 99) ∨ ¬ (0 ≤ y ∧ y ≤ 720) ∨ ¬ (0 ≤ z ∧ z ≤ 720)) ∨ S.1 28 = 80 := Classical.byContradiction (fun q => hno ⟨hok.mpr (fun p => q (Or.inl p)), Classical.byContradiction (fun p => q (Or.inr (e12.mpr p)))⟩)
    rw [s_load, if_pos hn]
    exact ⟨sS.same0, hI⟩
end MK2
