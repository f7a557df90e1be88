/-! ===== fly ===== -/
theorem why0 {F : MS} {n u : Nat} {m y p : Int32} (h0 : (why1 F n u m y p).1 = 0) : ¬ 720 < F.1 47 ∧ ¬ F.2 9 m.toNatClampNeg < F.1 48 + 10 ∧ ¬ F.2 12 y.toNatClampNeg < F.2 14 y.toNatClampNeg + F.1 47 - F.1 0 := by
  rw [why1] at h0
  by_cases c1 : F.1 0 < F.2 10 m.toNatClampNeg
  · rw [if_pos c1] at h0; exact absurd (show (1 : Int32) = 0 from h0) (by decide)
  rw [if_neg c1] at h0
  by_cases c2 : F.1 0 < F.2 15 y.toNatClampNeg
  · rw [if_pos c2] at h0; exact absurd (show (2 : Int32) = 0 from h0) (by decide)
  rw [if_neg c2] at h0
  by_cases c3 : exN (p3 F m p) n = true
  · rw [if_pos c3] at h0; exact absurd (show (3 : Int32) = 0 from h0) (by decide)
  rw [if_neg c3] at h0
  by_cases c4 : 720 < F.1 47
  · rw [if_pos c4] at h0; exact absurd (show (4 : Int32) = 0 from h0) (by decide)
  rw [if_neg c4] at h0
  by_cases c5 : r_liftOf F m 0 (m_hour (F.1 0)) < r_hangN F m 108 n ∨ r_liftOf F m p (m_hour (F.1 46)) < r_hangN F m 108 n
  · rw [if_pos c5] at h0; exact absurd (show (5 : Int32) = 0 from h0) (by decide)
  rw [if_neg c5] at h0
  by_cases c6 : F.2 9 m.toNatClampNeg < F.1 48 + 10
  · rw [if_pos c6] at h0; exact absurd (show (6 : Int32) = 0 from h0) (by decide)
  rw [if_neg c6] at h0
  by_cases c7 : F.2 12 y.toNatClampNeg < F.2 14 y.toNatClampNeg + F.1 47 - F.1 0
  · rw [if_pos c7] at h0; exact absurd (show (7 : Int32) = 0 from h0) (by decide)
  exact ⟨c4, c6, c7⟩
theorem nI_mul (a b : Nat) : nI a * nI b = nI (a * b) := (Int32.ofNat_mul a b).symm
theorem IHa.fly {pl ro ki st on st' on' : Nat → Int32} {H : Nat → List Nat} {R : List Nat} {nm nl m : Nat} (h : IHa pl ro ki st on H nm nl) (hm : m < nm) (hb : nm ≤ 100000) (hR : ∀ x, x ∈ R → st x = 0) (h1 : ∀ x, st' x = if x ∈ H m ∨ x ∈ R then 2 else st x) (h2 : ∀ x, on' x = if x ∈ H m ∨ x ∈ R then -1 else on x) : IHa pl ro ki st' on' (fun k => if k = m then [] else H k) nm nl := by
  have keep : ∀ k, k < nm → k ≠ m → ∀ x ∈ H k, ¬ (x ∈ H m ∨ x ∈ R) := fun k hk hkm x hx z => by
    obtain ⟨-, a, b⟩ := (h.mem k hk x).mp hx
    rcases z with z | z
    · have := ((h.mem m hm x).mp z).2.2
      rw [b, nI_eq (by omega) (by omega)] at this
      exact hkm this
    · exact absurd ((hR x z).symm.trans a) (by decide)
  have st1 : ∀ x, st' x = 1 → ¬ (x ∈ H m ∨ x ∈ R) ∧ st x = 1 := fun x hx => by
    rw [h1] at hx
    by_cases c : x ∈ H m ∨ x ∈ R
    · rw [if_pos c] at hx; exact absurd hx (by decide)
    · rw [if_neg c] at hx; exact ⟨c, hx⟩
  refine ⟨fun k hk => ?_, fun k hk x => ?_, fun x hx hst => ?_, fun k hk x hx y hy => ?_, fun k hk x hx y hy => ?_, fun k hk x hx => ?_, fun k hk => ?_⟩
  · by_cases e : k = m
    · simp only [if_pos e]; exact List.nodup_nil
    · simp only [if_neg e]; exact h.nd k hk
  · by_cases e : k = m
    · simp only [if_pos e]
      refine ⟨fun z => (by cases z), fun ⟨a, b, c⟩ => ?_⟩
      obtain ⟨d, e1⟩ := st1 x b
      rw [h2, if_neg d] at c
      exact absurd (Or.inl ((h.mem m hm x).mpr ⟨a, e1, by rw [← e]; exact c⟩)) d
    · simp only [if_neg e]
      constructor
      · intro hx
        obtain ⟨a, b, c⟩ := (h.mem k hk x).mp hx
        have q := keep k hk e x hx
        rw [h1, h2, if_neg q, if_neg q]
        exact ⟨a, b, c⟩
      · rintro ⟨a, b, c⟩
        obtain ⟨d, e1⟩ := st1 x b
        rw [h2, if_neg d] at c
        exact (h.mem k hk x).mpr ⟨a, e1, c⟩
  · obtain ⟨d, e1⟩ := st1 x hst
    rw [h2, if_neg d]
    exact h.on x hx e1
  · by_cases e : k = m
    · simp only [if_pos e] at hx; cases hx
    · simp only [if_neg e] at hx hy; exact h.pl k hk x hx y hy
  · by_cases e : k = m
    · simp only [if_pos e] at hx; cases hx
    · simp only [if_neg e] at hx hy; exact h.al k hk x hx y hy
  · by_cases e : k = m
    · simp only [if_pos e] at hx; cases hx
    · simp only [if_neg e] at hx; exact h.dn k hk x hx
  · by_cases e : k = m
    · simp only [if_pos e]; exact ⟨0, by omega, rfl, Nat.le_refl _⟩
    · simp only [if_neg e]; exact h.ro k hk
theorem ICo.g4 {c0 c1 c2 c3 c4 c6 : Int32} {l0 l1 l2 l3 l4 l5 l6 l7 l5' : List Nat} {fl : Nat} (h : ICo c0 c1 c2 c3 c4 c6 l0 l1 l2 l3 l4 l5 l6 l7 fl) (hl : l4.length < 200) (h5 : l5'.length ≤ 80) : ICo c0 c1 c2 c3 (nI (l4.length + 1)) c6 l0 l1 l2 l3 (l4 ++ [l4.length]) l5' l6 l7 (l4.length + 1) :=
  ⟨h.r0, h.r1, h.r2, h.r3, rng_s h.r4, h.r6, h.p0, h.b0, h.b1, h.b2, h.b3, by rw [List.length_append, List.length_singleton]; omega, h5, h.b6, h.b7, h.n0, h.n1, h.n2, h.n3, by rw [List.length_append, List.length_singleton], h.n6, by rw [List.length_append, List.length_singleton]; exact Nat.le_refl _⟩
section FY
variable {G : Nat → Nat} {x0 m0 : Nat} {adm : Nat → Nat} {S X W : MS} {L : Nat → List Nat} {wn : Nat → Option Nat} {sl : Nat → Nat} {fl : Nat} {ad : Nat → Nat → Nat} {h : AH} {m y p : Int32}
theorem Inv.fw (hI : Inv S X L wn sl fl) (hm : 0 ≤ m ∧ m < nI (L 1).length) (hy : 0 ≤ y ∧ y < nI (L 2).length) (hp : 0 < p ∧ p < nI (L 0).length) (h0 : r_why S (L 3).length (L 6).length m y p = 0) : FW S L m p (s_why S (L 3).length (L 6).length m y p) ∧ ¬ 720 < BKw S L m p ∧ ¬ S.2 9 m.toNatClampNeg < a_burn S L m p + 10 ∧ ¬ S.2 12 y.toNatClampNeg < S.2 14 y.toNatClampNeg + BKw S L m p - S.1 0 := by
  obtain ⟨-, hms, hpr⟩ := hI.why hm hy hp
  obtain ⟨c4, c6, c7⟩ := why0 h0
  obtain ⟨f1, f2⟩ := hI.find hm hp c4
  have e47 : (s_find S (L 3).length m p).1 47 = BKw S L m p := by rw [find_47, hI.way hm]
  have e46 : (s_find S (L 3).length m p).1 46 = S.1 0 + a_way S L m p := by rw [find_46, hI.way hm]
  refine ⟨⟨hms, ?_, ?_, ?_, fun j hj => ?_⟩, ?_, ?_, ?_⟩
  · rw [hpr.1 46 (by decide), e46]
  · rw [hpr.1 47 (by decide), e47]
  · rw [hpr.1 48 (by decide), f1]
  · rw [hpr.2 49 (by decide)]; exact f2 j hj
  · rw [← e47]; exact c4
  · rw [find_r (by decide), f1] at c6; exact c6
  · rw [find_r (by decide), find_r (by decide), e47, find_i (by decide) (by decide) (by decide)] at c7; exact c7
theorem Inv.burnr (hI : Inv S X L wn sl fl) (hm : 0 ≤ m ∧ m < nI (L 1).length) (hp : 0 < p ∧ p < nI (L 0).length) : rg (a_burn S L m p) 1000000 := by
  obtain ⟨i1, i2, -⟩ := hI.prm hm
  obtain ⟨w, hw, ew⟩ := hI.wayr (m := m) hp
  have b3 := hI.co.b3
  have hl1 := hI.ha.len _ i1
  have hl2 : (a_rid S L m p).length ≤ 80 := Nat.le_trans (rid_len _ _ _ _ _) b3
  obtain ⟨s1, e1, -, u1⟩ := lsum_nat (f := S.2 18) (B := 99) (l := L (8 + m.toNatClampNeg)) (fun x hx => hI.lo.we x ((hI.ha.mem _ i1 x).mp hx).1)
  obtain ⟨s2, e2, -, u2_⟩ := lsum_nat (f := S.2 18) (B := 99) (l := a_rid S L m p) (fun x hx => hI.lo.we x (rid_in hx).1)
  have hl1' : (L (8 + m.toNatClampNeg)).length ≤ 80 := hl1
  have d1 : s1 / 20 ≤ 396 := by omega
  have d2 : s2 / 20 ≤ 396 := by omega
  refine ⟨w * (2 + s1 / 20) + w * (2 + s2 / 20), ?_, ?_⟩
  · have a1 : w * (2 + s1 / 20) ≤ 120 * 398 := Nat.mul_le_mul hw (by omega)
    have a2 : w * (2 + s2 / 20) ≤ 120 * 398 := Nat.mul_le_mul hw (by omega)
    omega
  · rw [a_burn, ew, e1, e2, show (20 : Int32) = nI 20 from rfl, show (2 : Int32) = nI 2 from rfl, nI_divG (by omega) (by decide) (by decide), nI_divG (by omega) (by decide) (by decide), nI_add, nI_add, nI_mul, nI_mul, nI_add]
theorem fl_sS (hW : FW S L m p W) (hI : Inv S X L wn sl fl) (hm : 0 ≤ m ∧ m < nI (L 1).length) {L2 : Nat → List Nat} {fl2 : Nat} : sS (a_flS S L m y p) (s_fly4 W (L 3).length m y p) L2 fl2 := by
  refine sS.of ?_ ?_ (fun k hk k3 k11 k16 k28 k30 k31 k32 k33 k34 k35 => ?_)
  · rw [cfl_1, mfl_1 (by decide), hW.i0]
  · rw [cfl_1, mfl_1 (by decide), hW.1.1 30 (by decide) (by decide) (by decide) (by decide)]
  · by_cases q9 : k = 9
    · subst q9; rw [cfl_9, mfl_9 hW]
    by_cases q10 : k = 10
    · subst q10; rw [cfl_10, mfl_10 hW]
    by_cases q14 : k = 14
    · subst q14; rw [cfl_14, mfl_14 hW]
    by_cases q15 : k = 15
    · subst q15; rw [cfl_15, mfl_15 hW]
    by_cases q23 : k = 23
    · subst q23; funext x; rw [(cfl_x x).1, mfl_r (by decide), (T2_x hW hI hm x).1]
    by_cases q24 : k = 24
    · subst q24; funext x; rw [(cfl_x x).2.1, mfl_r (by decide), (T2_x hW hI hm x).2.1]
    by_cases q25 : k = 25
    · subst q25; funext x; rw [(cfl_x x).2.2, mfl_r (by decide), (T2_x hW hI hm x).2.2]
    by_cases q27 : k = 27
    · subst q27; funext x; exact (mfl_27 hW hI hm x).symm
    by_cases qf : 36 ≤ k
    · rw [cfl_f qf, mfl_f hW hI hm qf (by omega)]
    · rw [cfl_r q23 q24 q25 q27, b1_low (by omega) q9 q10 q14 q15, mfl_low hW (Or.inl (by omega)) q23 q24 q25 q27 q9 q10 q15 q14 k34 (by omega)]
theorem fl_inv {X2 : MS} (hW : FW S L m p W) (hI : Inv S X L wn sl fl) (hm : 0 ≤ m ∧ m < nI (L 1).length) (hy : 0 ≤ y ∧ y < nI (L 2).length) (hp : 0 < p ∧ p < nI (L 0).length) (hf : (L 4).length < 200) (c4 : ¬ 720 < BKw S L m p) (c6 : ¬ S.2 9 m.toNatClampNeg < a_burn S L m p + 10) (c7 : ¬ S.2 12 y.toNatClampNeg < S.2 14 y.toNatClampNeg + BKw S L m p - S.1 0) (x1 : ∀ k, k ≠ 0 → X2.1 k = X.1 k) (x2 : ∀ k, k ≠ 0 → k ≠ 1 → k ≠ 2 → X2.2 k = X.2 k) (x3 : X2.2 0 = (a_b4 (a_plan S L m y p) X (lset L 5 (a_rid S L m p)) (L 4).length).2.2 0) :
    Inv (s_fly4 W (L 3).length m y p) X2 (lset (lset (lset L 5 (a_rid S L m p)) (8 + m.toNatClampNeg) []) 4 (L 4 ++ [(L 4).length])) wn sl ((L 4).length + 1) := by
  obtain ⟨t, ht, et⟩ := hI.tm
  obtain ⟨w, hw, ew⟩ := hI.wayr (m := m) hp
  obtain ⟨b, hb, eb⟩ := hI.burnr hm hp
  obtain ⟨i1, i2, hpm⟩ := hI.prm hm
  obtain ⟨j1, j2⟩ := idx_of hy (show (L 2).length ≤ 100000 by have := hI.co.b2; omega)
  have b1 := hI.co.b1
  have eBK : BKw S L m p = nI (t + w + 2 + w) := by rw [BKw, et, ew, nI_add, show (2 : Int32) = nI 2 from rfl, nI_add, nI_add]
  have hBK : t + w + 2 + w ≤ 720 := by
    rw [eBK] at c4
    exact Nat.not_lt.mp (fun z => c4 ((nI_ltI (a := 720) (by decide) (by omega)).mpr z))
  have eL : ∀ r, r < 8 → r ≠ 4 → r ≠ 5 → lset (lset (lset L 5 (a_rid S L m p)) (8 + m.toNatClampNeg) []) 4 (L 4 ++ [(L 4).length]) r = L r := fun r a b c => by rw [lset_n b, lset_n (by omega), lset_n c]
  have e4 : lset (lset (lset L 5 (a_rid S L m p)) (8 + m.toNatClampNeg) []) 4 (L 4 ++ [(L 4).length]) 4 = L 4 ++ [(L 4).length] := lset_s
  have e5 : lset (lset (lset L 5 (a_rid S L m p)) (8 + m.toNatClampNeg) []) 4 (L 4 ++ [(L 4).length]) 5 = a_rid S L m p := by rw [lset_n (by decide), lset_n (by omega), lset_s]
  have eH : (fun k => lset (lset (lset L 5 (a_rid S L m p)) (8 + m.toNatClampNeg) []) 4 (L 4 ++ [(L 4).length]) (8 + k)) = (fun k => if k = m.toNatClampNeg then [] else (fun k => L (8 + k)) k) := by
    funext k
    rw [lset_n (by omega)]
    by_cases q : k = m.toNatClampNeg
    · rw [if_pos q, q, lset_s]
    · rw [if_neg q, lset_n (by omega), lset_n (by omega)]
  have lo : ∀ j, (j < 36 ∨ 44 < j) ∧ j ≠ 23 ∧ j ≠ 24 ∧ j ≠ 25 ∧ j ≠ 27 ∧ j ≠ 9 ∧ j ≠ 10 ∧ j ≠ 15 ∧ j ≠ 14 ∧ j ≠ 34 ∧ j ≠ 49 → (s_fly4 W (L 3).length m y p).2 j = S.2 j := fun j a => mfl_low hW a.1 a.2.1 a.2.2.1 a.2.2.2.1 a.2.2.2.2.1 a.2.2.2.2.2.1 a.2.2.2.2.2.2.1 a.2.2.2.2.2.2.2.1 a.2.2.2.2.2.2.2.2.1 a.2.2.2.2.2.2.2.2.2.1 a.2.2.2.2.2.2.2.2.2.2
  have ii : ∀ k, k ≠ 35 ∧ k ≠ 45 ∧ k ≠ 46 ∧ k ≠ 47 ∧ k ≠ 48 → (s_fly4 W (L 3).length m y p).1 k = S.1 k := fun k a => by rw [mfl_1 a.2.1, hW.1.1 k a.1 a.2.2.1 a.2.2.2.1 a.2.2.2.2]
  have r23 : ∀ x, (s_fly4 W (L 3).length m y p).2 23 x = if x ∈ L (8 + m.toNatClampNeg) ∨ x ∈ a_rid S L m p then 2 else S.2 23 x := fun x => by rw [mfl_r (by decide), (T2_x hW hI hm x).1]
  have r24 : ∀ x, (s_fly4 W (L 3).length m y p).2 24 x = if x ∈ L (8 + m.toNatClampNeg) ∨ x ∈ a_rid S L m p then -1 else S.2 24 x := fun x => by rw [mfl_r (by decide), (T2_x hW hI hm x).2.1]
  have r25 : ∀ x, (s_fly4 W (L 3).length m y p).2 25 x = if x ∈ L (8 + m.toNatClampNeg) ∨ x ∈ a_rid S L m p then nI (L 4).length else S.2 25 x := fun x => by rw [mfl_r (by decide), (T2_x hW hI hm x).2.2]
  have hin : ∀ x, (x ∈ L (8 + m.toNatClampNeg) ∨ x ∈ a_rid S L m p) → x < (L 3).length := fun x c => by
    rcases c with c | c
    · exact ((hI.ha.mem _ i1 x).mp c).1
    · exact (rid_in c).1
  have hlen4 : (L 4 ++ [(L 4).length]).length = (L 4).length + 1 := by rw [List.length_append, List.length_singleton]
  unfold Inv
  rw [eH, eL 0 (by decide) (by decide) (by decide), eL 1 (by decide) (by decide) (by decide), eL 2 (by decide) (by decide) (by decide), eL 3 (by decide) (by decide) (by decide), eL 6 (by decide) (by decide) (by decide), eL 7 (by decide) (by decide) (by decide), e4, e5, ii 3 (by decide), ii 11 (by decide), ii 16 (by decide), ii 28 (by decide), ii 33 (by decide), ii 0 (by decide), ii 30 (by decide), ii 51 (by decide), ii 55 (by decide), mfl_45 hW hI, lo 29 (by decide), lo 1 (by decide), lo 2 (by decide), lo 8 (by decide), lo 12 (by decide), lo 13 (by decide), lo 17 (by decide), lo 18 (by decide), lo 19 (by decide), lo 20 (by decide), lo 21 (by decide), lo 31 (by decide), lo 32 (by decide), lo 50 (by decide), lo 53 (by decide), mfl_9 hW, mfl_10 hW, mfl_14 hW, mfl_15 hW, mfl_f hW hI hm (show 36 ≤ 40 by decide) (by decide), mfl_f hW hI hm (show 36 ≤ 41 by decide) (by decide), hlen4, x1 3 (by decide), x1 4 (by decide), x2 3 (by decide) (by decide) (by decide), x2 4 (by decide) (by decide) (by decide), x2 6 (by decide) (by decide) (by decide)]
  refine ⟨hI.co.g4 hf (Nat.le_trans (rid_len _ _ _ _ _) hI.co.b3), hI.tm, hI.tp, hI.tb, hI.pl, ⟨fun i hi => ?_, fun i hi => ?_⟩, ⟨fun i hi => ?_, fun i hi => ?_⟩, hI.lo, ⟨fun i hi => ?_, fun i hi => ?_⟩, ?_, fun x hx hst => ?_, hI.ru.xg (fun k hk => x2 k (by omega) (by omega) (by omega)), hI.li, hI.be, hI.sc⟩
  · obtain ⟨a1, a2, a3⟩ := hI.ma.1 i hi
    refine ⟨a1, ?_, ?_⟩
    · by_cases q : i = m.toNatClampNeg
      · rw [q, pk_us, ← q]
        rw [← q] at c6
        obtain ⟨fu, hfu, ef⟩ := a2
        rw [ef, eb, show (10 : Int32) = nI 10 from rfl, nI_add] at c6
        have : ¬ fu < b + 10 := fun z => c6 ((nI_ltI (by omega) (by omega)).mpr z)
        rw [ef, eb, nI_sub (by omega)]
        exact ⟨fu - b, by omega, rfl⟩
      · rw [pk_un q]; exact a2
    · by_cases q : i = m.toNatClampNeg
      · rw [q, pk_us, eBK]; exact ⟨_, hBK, rfl⟩
      · rw [pk_un q]; exact a3
  · rw [pk_un (by omega)]; exact hI.ma.2 i hi
  · obtain ⟨a1, a2, a3, a4⟩ := hI.pi.1 i hi
    refine ⟨a1, a2, ?_, ?_⟩
    · by_cases q : i = y.toNatClampNeg
      · rw [q, pk_us, ← q]
        rw [← q] at c7
        obtain ⟨fo, hfo, ef⟩ := a3
        obtain ⟨mo, hmo, em⟩ := a1
        rw [ef, em, eBK, et, nI_add, nI_sub (by omega)] at c7
        have : ¬ mo < fo + (t + w + 2 + w) - t := fun z => c7 ((nI_ltI (by omega) (by omega)).mpr z)
        rw [ef, eBK, et, nI_sub (by omega), nI_add]
        exact ⟨_, by omega, rfl⟩
      · rw [pk_un q]; exact a3
    · by_cases q : i = y.toNatClampNeg
      · rw [q, pk_us, ← q, eBK]
        obtain ⟨re, hre, er⟩ := a2
        rw [er, nI_add]
        exact ⟨_, by omega, rfl⟩
      · rw [pk_un q]; exact a4
  · rw [pk_un (show i ≠ y.toNatClampNeg by omega), pk_un (show i ≠ y.toNatClampNeg by omega)]; exact hI.pi.2 i hi
  · have c : ¬ (i ∈ L (8 + m.toNatClampNeg) ∨ i ∈ a_rid S L m p) := fun z => by have := hin i z; omega
    rw [r23, if_neg c]
    refine ⟨(hI.st.nw i hi).1, ?_⟩
    rw [mfl_27 hW hI hm]
    obtain ⟨s, es, s8, s0⟩ := byF_wt (y := y) hW hI hm
    by_cases e0 : byF (s_fly1 W (L 3).length m y p) (nI (L 4).length) (L 3).length = []
    · rw [cfl_27n i (by rw [es, s0.mpr e0]; decide)]
      exact (hI.st.nw i hi).2
    · have hpos : 0 < s := Nat.pos_of_ne_zero (fun z => e0 (s0.mp z))
      have hpos2 : (0 : Int32) < nI s := (nI_ltI (a := 0) (by decide) (by omega)).mpr hpos
      rw [cfl_27 i (by rw [es]; exact hpos2), lst_eq (g := byF (s_fly1 W (L 3).length m y p) (nI (L 4).length) (L 3).length) e0 (byF_mem hW hI hm) (fun z hz => byF_hd hz)]
      have hb : hd0 (byF (s_fly1 W (L 3).length m y p) (nI (L 4).length) (L 3).length) < (L 3).length := hin _ ((byF_mem hW hI hm _).mp (hd0_mem e0))
      rw [pk_un (by omega), if_neg c]
      exact (hI.st.nw i hi).2
  · rw [r25]
    by_cases c : i ∈ L (8 + m.toNatClampNeg) ∨ i ∈ a_rid S L m p
    · rw [if_pos c]; exact Or.inr ⟨_, Nat.lt_succ_self _, rfl⟩
    · rw [if_neg c]
      rcases hI.st.by_ i hi with q | ⟨g, hg, q⟩
      · exact Or.inl q
      · exact Or.inr ⟨g, by omega, q⟩
  · exact hI.ha.fly i1 (by omega) (fun x hx => (rid_in hx).2.1) r23 r24
  · rw [r23] at hst
    rw [x3, cfl_la, r25]
    by_cases c : x ∈ L (8 + m.toNatClampNeg) ∨ x ∈ a_rid S L m p
    · rw [if_pos c]
      refine ⟨_, Nat.lt_succ_self _, rfl, ?_⟩
      rw [a_plan_40, a_plan_41]
      by_cases c2 : x ∈ a_rid S L m p
      · rw [if_pos c2, if_pos (rid_in c2).2.2]
      · have c1 : x ∈ L (8 + m.toNatClampNeg) := c.resolve_right c2
        rw [if_neg c2, if_pos c1, if_neg (hI.ha.dn _ i1 x c1)]
    · rw [if_neg c] at hst
      obtain ⟨g, g1, g2, g3⟩ := hI.fy x hx hst
      rw [if_neg c, if_neg (fun z => c (Or.inr z)), if_neg (fun z => c (Or.inl z))]
      refine ⟨g, by omega, g2, ?_⟩
      rw [a_plan_n 40 g (by omega), a_plan_n 41 g (by omega)]
      exact g3
theorem t_fly (hM : MR m0 adm S h) (hK : KR G (OM m0 adm) ad S X L wn sl fl h) (ha : ad 0 0 = x0) (hI : Inv S X L wn sl fl) : Two G x0 m0 adm Y_X11_fly Y_X12_fly [.int m, .int y, .int p] h := by
  have c := hI.co
  have b3 := c.b3
  have b4 := c.b4
  have hw : ((0 ≤ m ∧ m < S.1 11) ∧ (0 ≤ y ∧ y < S.1 16) ∧ (0 < p ∧ p < S.1 3)) → yHyp S (L 3).length (L 6).length m y p := by
    rw [c.n1, c.n2, c.n0]
    exact fun z => hI.yh z.1 z.2.1 z.2.2
  have hc := c_fly (d := 11) (h0 := h) (m := m) (y := y) (p := p) hK (KF.self hM) c.r0 c.b0 c.r1 c.b1 c.r2 c.b2 c.r3 c.b3 c.r4 c.b4 c.r6 c.b6 hI.ha.len (hI.ru.ruok c.b6) c.hfl c.b5 c_hour_in (fun _ => c_hour_in)
  rw [ha] at hc
  have w45 : ((0 ≤ m ∧ m < nI (L 1).length) ∧ (0 ≤ y ∧ y < nI (L 2).length) ∧ (0 < p ∧ p < nI (L 0).length)) → (s_why S (L 3).length (L 6).length m y p).1 45 = nI (L 4).length := fun z => by
    rw [(hI.why z.1 z.2.1 z.2.2).2.1.1 45 (by decide) (by decide) (by decide) (by decide)]
    exact c.n4
  have e200 : ((0 ≤ m ∧ m < nI (L 1).length) ∧ (0 ≤ y ∧ y < nI (L 2).length) ∧ (0 < p ∧ p < nI (L 0).length)) → (((s_why S (L 3).length (L 6).length m y p).1 45 = 200) ↔ ¬ (L 4).length < 200) := fun z => eq_cap (w45 z) b4 (by decide)
  have hv : a_fly S X L m y p = r_fly S (L 3).length (L 6).length m y p := by
    rw [a_fly, r_fly, c.n1, c.n2, c.n0]
    by_cases z : (0 ≤ m ∧ m < nI (L 1).length) ∧ (0 ≤ y ∧ y < nI (L 2).length) ∧ (0 < p ∧ p < nI (L 0).length)
    · rw [if_pos z, if_pos z, (hI.why z.1 z.2.1 z.2.2).1]
      by_cases z0 : r_why S (L 3).length (L 6).length m y p = 0
      · rw [if_pos z0, if_pos z0]
        by_cases z2 : (L 4).length < 200
        · rw [if_pos z2, if_neg (fun q => (e200 z).mp q z2), w45 z]
        · rw [if_neg z2, if_pos ((e200 z).mpr z2)]
      · rw [if_neg z0, if_neg z0]
    · rw [if_neg z, if_neg z]
  refine two_of (Q := fun S2 => S2 = s_fly S (L 3).length (L 6).length m y p) (v := r_fly S (L 3).length (L 6).length m y p) hM (by omega) (by omega) (hc.weaken (fun r h2 hp => ?_)) (k_fly (d := 16) hw ?_)
  · obtain ⟨e, hp⟩ := hp
    refine ⟨by rw [e, hv], ?_⟩
    rcases hp with ⟨hfl, ad2, X2, a1, x1, x2, x3, hK2, hF2⟩ | ⟨hnf, ad2, X2, l, a1, x1, x2, hl, hK2, hF2⟩
    · obtain ⟨z, z0, z2⟩ := hfl
      rw [(hI.why z.1 z.2.1 z.2.2).1] at z0
      obtain ⟨hW, c4, c6, c7⟩ := hI.fw z.1 z.2.1 z.2.2 z0
      refine ⟨_, X2, _, wn, sl, _, ad2, hK2, hF2, (a1 0 0 (by decide)).trans ha, fun S2 q => ?_⟩
      subst q
      have e1 : s_fly S (L 3).length (L 6).length m y p = s_fly4 (s_why S (L 3).length (L 6).length m y p) (L 3).length m y p := by
        rw [s_fly, c.n1, c.n2, c.n0, if_pos z, if_pos ⟨z0, fun q => (e200 z).mp q z2⟩]
      rw [e1]
      exact ⟨fl_sS hW hI z.1, fl_inv hW hI z.1 z.2.1 z.2.2 z2 c4 c6 c7 x1 x2 x3⟩
    · refine ⟨S, X2, lset L 5 l, wn, sl, (L 4).length, ad2, hK2, hF2, (a1 0 0 (by decide)).trans ha, fun S2 q => ?_⟩
      subst q
      have hR : mSc S (s_fly S (L 3).length (L 6).length m y p) := by
        rw [s_fly, c.n1, c.n2, c.n0]
        by_cases z : (0 ≤ m ∧ m < nI (L 1).length) ∧ (0 ≤ y ∧ y < nI (L 2).length) ∧ (0 < p ∧ p < nI (L 0).length)
        · rw [if_pos z, if_neg (fun q => hnf ⟨z, by rw [(hI.why z.1 z.2.1 z.2.2).1]; exact q.1, Classical.byContradiction (fun q2 => q.2 ((e200 z).mpr q2))⟩)]
          exact (hI.why z.1 z.2.1 z.2.2).2.1
        · rw [if_neg z]; exact mSc.refl
      refine ⟨sS.msc hR, ?_⟩
      have := (hI.scr (X2 := X2) (l5 := l) (l7 := L 7) (fl2 := (L 4).length) (x1 3 (by decide)) (x1 4 (by decide)) (fun k a b _ => x2 k a b) hl c.b7 (Nat.le_refl _)).msc hR
      rw [show L 7 = lset L 5 l 7 from (lset_n (by decide)).symm, lset_id] at this
      exact this
  · rw [c.n1, c.n2, c.n0]
    intro z
    have e45 := w45 z
    refine ⟨?_, fun z0 z2 => ?_, fun z0 z2 => ⟨fun k hk hb => ?_, fun hl => ?_⟩, b3, vp_of z.1 rfl c.b1 (by decide), vp_of z.2.1 rfl c.b2 (by decide)⟩
    · rw [(hI.why z.1 z.2.1 z.2.2).2.1.1 28 (by decide) (by decide) (by decide) (by decide)]
      exact c.n3
    · rw [e45]
      exact vp_in_nI (Classical.byContradiction (fun q => z2 ((e200 z).mpr q))) (by decide)
    · obtain ⟨hW, -⟩ := hI.fw z.1 z.2.1 z.2.2 z0
      obtain ⟨s, es, s8, s0⟩ := byF_wt (y := y) hW hI z.1
      rw [e45] at hb
      have hk2 : k ∈ byF (s_fly1 (s_why S (L 3).length (L 6).length m y p) (L 3).length m y p) (nI (L 4).length) (L 3).length := by
        rw [byF, List.mem_filter, List.mem_range]
        exact ⟨hk, decide_eq_true hb⟩
      rw [e45, allN_eq, T2_18 hW, byF_sum hW hI z.1, es]
      intro q
      have : s = 0 := (nI_eq (b := 0) (by omega) (by decide)).mp q
      rw [s0.mp this] at hk2
      cases hk2
    · obtain ⟨hW, -⟩ := hI.fw z.1 z.2.1 z.2.2 z0
      rw [e45, leastN_eq _ (by omega)] at hl ⊢
      by_cases e0 : byF (s_fly1 (s_why S (L 3).length (L 6).length m y p) (L 3).length m y p) (nI (L 4).length) (L 3).length = []
      · rw [if_pos e0] at hl
        exact absurd (show (-1 : Int32) < 0 by decide) hl
      · rw [if_neg e0]
        have hlt := (List.mem_range.mp (List.mem_filter.mp (hd0_mem e0)).1)
        exact vp_in_nI (Nat.lt_of_lt_of_le hlt b3) (by decide)
end FY
