/-! ===== orders: the model's search ===== -/
def wyN (S : MS) (p : Nat) : Nat := (S.2 2 p).toNatClampNeg
def miN (S : MS) (p : Nat) : Nat := 2 * wyN S p + 2
def hdN (S : MS) (nl u t p hf : Nat) : Prop := ∀ i, i < u → ¬ rEv S nl i (nI t) (nI p) (-1) (nI hf) = 0
section OM1
variable {S : MS} {nl u n : Nat} {y : Int32} {lp : Nat → Nat} {rr mo : Nat}
/-- what the search stands on -/
def oH (S : MS) (n : Nat) (y : Int32) (lp : Nat → Nat) (rr mo : Nat) : Prop := (∀ j, j < n → S.2 50 j = nI (lp j) ∧ lp j < 1000 ∧ S.2 2 (lp j) = nI (wyN S (lp j)) ∧ wyN S (lp j) ≤ 60) ∧ S.2 13 y.toNatClampNeg = nI rr ∧ rr ≤ 120 ∧ S.2 12 y.toNatClampNeg = nI mo ∧ mo ≤ 720
def affP (S : MS) (mo p hf le : Nat) : Prop := 4 * wyN S p + 10 ≤ le ∧ hf + miN S p ≤ mo
theorem mB_iff {p t hf le : Nat} (h12 : S.2 12 y.toNatClampNeg = nI mo) (hp : p < 1000) (h2 : S.2 2 p = nI (wyN S p)) (hw : wyN S p ≤ 60) (ht : t ≤ 720) (hhf : hf ≤ 720) (hle : le ≤ 2000) (hmo : mo ≤ 720) : mB S nl u y (nI p) (nI t) (nI hf) (nI le) ↔ (t + miN S p ≤ 720 ∧ affP S mo p hf le) ∧ hdN S nl u t p hf := by
  have e0 : (nI p).toNatClampNeg = p := nI_clamp (by omega)
  have e1 : nI t + 2 * nI (wyN S p) + 2 = nI (t + miN S p) := by
    rw [show (2 : Int32) = nI 2 from rfl, nI_mul, nI_add, nI_add, miN]
    rfl
  have e2 : 4 * nI (wyN S p) + 10 = nI (4 * wyN S p + 10) := by
    rw [show (4 : Int32) = nI 4 from rfl, show (10 : Int32) = nI 10 from rfl, nI_mul, nI_add]
  have e3 : nI hf + nI (t + miN S p) - nI t = nI (hf + miN S p) := by
    rw [nI_add, nI_sub (by omega)]
    congr 1
    omega
  have hmi : miN S p ≤ 122 := by rw [miN]; omega
  rw [mB, mB0, e0, h2, e1, e2, e3, h12]
  have l1 : (nI (t + miN S p) ≤ 720) ↔ t + miN S p ≤ 720 := nI_leI (b := 720) (by omega) (by decide)
  have l2 : (nI (4 * wyN S p + 10) ≤ nI le) ↔ 4 * wyN S p + 10 ≤ le := nI_leI (by omega) (by omega)
  have l3 : (nI (hf + miN S p) ≤ nI mo) ↔ hf + miN S p ≤ mo := nI_leI (by omega) (by omega)
  rw [l1, l2, l3]
  rfl
theorem fsA_spec {p hf le : Nat} (h12 : S.2 12 y.toNatClampNeg = nI mo) (hp : p < 1000) (h2 : S.2 2 p = nI (wyN S p)) (hw : wyN S p ≤ 60) (hhf : hf ≤ 720) (hle : le ≤ 2000) (hmo : mo ≤ 720) : ∀ j a, 721 ≤ a + j → (∃ t, fsA S nl u y (nI p) (nI hf) (nI le) j a = t ∧ t ≤ 720 ∧ Fst (hdN S nl u) (miN S) p a hf t ∧ affP S mo p hf le) ∨ (720 < fsA S nl u y (nI p) (nI hf) (nI le) j a ∧ ∀ t, ¬ (Fst (hdN S nl u) (miN S) p a hf t ∧ affP S mo p hf le))
  | 0, a, h => by
    rw [fsA]
    exact Or.inr ⟨by omega, fun t z => by have := z.1.1.1; have := z.1.2; omega⟩
  | j + 1, a, h => by
    rw [fsA]
    by_cases c : 720 < a
    · rw [if_pos c]
      exact Or.inr ⟨c, fun t z => by have := z.1.1.1; have := z.1.2; omega⟩
    · rw [if_neg c]
      have hiff := mB_iff (nl := nl) (u := u) (t := a) (hf := hf) (le := le) h12 hp h2 hw (by omega) hhf hle hmo
      by_cases b : mBi S nl u y (nI p) (nI a) (nI hf) (nI le) = 0
      · rw [if_pos b]
        have nb : ¬ mB S nl u y (nI p) (nI a) (nI hf) (nI le) := fun z => by
          rw [mBi, ib, if_pos z] at b
          exact absurd b (by decide)
        rcases fsA_spec h12 hp h2 hw hhf hle hmo j (a + 1) (by omega) with ⟨t, e, t7, ⟨⟨f1, f2, f3⟩, f4⟩, f5⟩ | ⟨e, f⟩
        · refine Or.inl ⟨t, e, t7, ⟨⟨by omega, f2, fun t' q1 q2 => ?_⟩, f4⟩, f5⟩
          by_cases q : t' = a
          · rw [q]
            exact fun z => nb (hiff.mpr ⟨⟨by omega, f5⟩, z⟩)
          · exact f3 t' (by omega) q2
        · refine Or.inr ⟨e, fun t z => f t ⟨⟨⟨?_, z.1.1.2.1, fun t' q1 q2 => z.1.1.2.2 t' (by omega) q2⟩, z.1.2⟩, z.2⟩⟩
          have := z.1.1.1
          by_cases q : t = a
          · exact absurd (hiff.mpr ⟨⟨by rw [← q]; exact z.1.2, z.2⟩, by rw [← q]; exact z.1.1.2.1⟩) nb
          · omega
      · rw [if_neg b]
        have yb : mB S nl u y (nI p) (nI a) (nI hf) (nI le) := Classical.byContradiction (fun z => b (by rw [mBi, ib, if_neg z]))
        obtain ⟨⟨g1, g2⟩, g3⟩ := hiff.mp yb
        exact Or.inl ⟨a, rfl, by omega, ⟨⟨Nat.le_refl _, g3, fun t' q1 q2 => by omega⟩, g1⟩, g2⟩
/-- the orders that the model's search goes through -/
def FM (S : MS) (nl u n : Nat) (lp : Nat → Nat) (rr mo : Nat) : Nat → (Nat → Int32) → Nat → Nat → Nat → Nat → List Nat → Nat → Prop
  | 0, _, _, _, _, e0, σ, e => σ = [] ∧ e = e0
  | f + 1, fl, a, hf, le, _, σ, e => ∃ j, j < n ∧ fl j = 0 ∧ ∃ t σ', (Fst (hdN S nl u) (miN S) (lp j) a hf t ∧ affP S mo (lp j) hf le) ∧ σ = lp j :: σ' ∧ FM S nl u n lp rr mo f (upd fl j 1) (t + miN S (lp j) + rr) (hf + miN S (lp j)) (le - 4 * wyN S (lp j)) (t + miN S (lp j)) σ' e
/-- B2 is the best of B and of all orders in F -/
def PMr (L : Nat) (o : Nat → Int32) (k : Nat) (F : List Nat → Nat → Prop) (B B2 : GB) : Prop := (B2 = B ∨ ∃ σ e, F σ e ∧ B2.1 = nI L ∧ B2.2.1 = nI e ∧ ∀ i, i < L → B2.2.2 i = ap o k σ i) ∧ (∀ σ e, F σ e → ¬ gC L B2 (ap o k σ) (nI e)) ∧ ∀ o' e', gC L B2 o' e' → gC L B o' e'
theorem PMr.then {L k : Nat} {o : Nat → Int32} {F1 F2 F : List Nat → Nat → Prop} {B B1 B2 : GB} (h1 : PMr L o k F1 B B1) (h2 : PMr L o k F2 B1 B2) (hF : ∀ σ e, F σ e ↔ F1 σ e ∨ F2 σ e) : PMr L o k F B B2 := by
  obtain ⟨a1, a2, a3⟩ := h1
  obtain ⟨b1, b2, b3⟩ := h2
  refine ⟨?_, fun σ e he => ?_, fun o' e' z => a3 _ _ (b3 _ _ z)⟩
  · rcases b1 with rfl | ⟨σ, e, q, r⟩
    · rcases a1 with rfl | ⟨σ, e, q, r⟩
      · exact Or.inl rfl
      · exact Or.inr ⟨σ, e, (hF σ e).mpr (Or.inl q), r⟩
    · exact Or.inr ⟨σ, e, (hF σ e).mpr (Or.inr q), r⟩
  · rcases (hF σ e).mp he with q | q
    · exact fun z => a2 σ e q (b3 _ _ z)
    · exact b2 σ e q
theorem PMr.none {L k : Nat} {o : Nat → Int32} {F : List Nat → Nat → Prop} {B : GB} (hF : ∀ σ e, ¬ F σ e) : PMr L o k F B B := ⟨Or.inl rfl, fun σ e h => absurd h (hF σ e), fun _ _ z => z⟩
theorem PMr.leaf {L : Nat} {o : Nat → Int32} {B : GB} {e0 : Nat} (hL : L ≤ 5) : PMr L o L (fun σ e => σ = [] ∧ e = e0) B (gLeaf L B o (nI e0)) := by
  by_cases c : gC L B o (nI e0)
  · rw [gLeaf_t c]
    have hc : ∀ i, i < L → cpy o B.2.2 L i = o i := fun i hi => if_pos hi
    refine ⟨Or.inr ⟨[], e0, ⟨rfl, rfl⟩, rfl, rfl, hc⟩, fun σ e h => ?_, fun o' e' z => ?_⟩
    · obtain ⟨rfl, rfl⟩ := h
      rintro (z | z | z)
      · exact absurd z (nI_pos (show L < 2 ^ 31 by omega))
      · exact i32irr _ z
      · exact lexLt_irr (fun i hi => (hc i hi).symm) z.2
    · rcases z with z | z | z
      · exact absurd z (nI_pos (show L < 2 ^ 31 by omega))
      · rcases c with q | q | q
        · exact Or.inl q
        · exact Or.inr (Or.inl (Int32.lt_trans z q))
        · exact Or.inr (Or.inl (by rw [← q.1]; exact z))
      · have zl : lexLt o' o L := lexLt_congr (fun _ _ => rfl) hc z.2
        have ze : e' = nI e0 := z.1
        rcases c with q | q | q
        · exact Or.inl q
        · exact Or.inr (Or.inl (by rw [ze]; exact q))
        · exact Or.inr (Or.inr ⟨ze.trans q.1, lexLt_trans zl q.2⟩)
  · rw [gLeaf_f c]
    refine ⟨Or.inl rfl, fun σ e h => ?_, fun _ _ z => z⟩
    obtain ⟨rfl, rfl⟩ := h
    exact c
theorem gF_pm (hn : n ≤ 5) (hH : oH S n y lp rr mo) : ∀ f, f ≤ n → ∀ (B : GB) (o fl : Nat → Int32) (a hf le e0 : Nat), a ≤ 2000 → hf ≤ 720 → le ≤ 2000 → PMr n o (n - f) (FM S nl u n lp rr mo f fl a hf le e0) B (gF S nl u n y f B o fl a (nI hf) (nI le) (nI e0))
  | 0, _, B, o, fl, a, hf, le, e0, _, _, _ => by
    rw [gF, Nat.sub_zero]
    exact PMr.leaf hn
  | f + 1, hf1, B, o, fl, a, hf, le, e0, ha, hhf, hle => by
    have ih := gF_pm hn hH f (by omega)
    obtain ⟨hl, h13, hrr, h12, hmo⟩ := id hH
    have step : ∀ j, j < n → ∀ B1, PMr n o (n - (f + 1)) (fun σ e => fl j = 0 ∧ ∃ t σ', (Fst (hdN S nl u) (miN S) (lp j) a hf t ∧ affP S mo (lp j) hf le) ∧ σ = lp j :: σ' ∧ FM S nl u n lp rr mo f (upd fl j 1) (t + miN S (lp j) + rr) (hf + miN S (lp j)) (le - 4 * wyN S (lp j)) (t + miN S (lp j)) σ' e) B1 (gT S nl u y (gF S nl u n y f) (n - (f + 1)) o fl a (nI hf) (nI le) j B1) := by
      intro j hj B1
      obtain ⟨e50, lpb, e2, w60⟩ := hl j hj
      rw [gT, e50]
      by_cases c0 : fl j = 0
      · rcases fsA_spec (nl := nl) (u := u) (y := y) (hf := hf) (le := le) h12 lpb e2 w60 hhf hle hmo (722 - a) a (by omega) with ⟨t, et, t7, hF, hA⟩ | ⟨e, hno⟩
        · rw [et, if_pos ⟨c0, t7⟩]
          have ec : (nI (lp j)).toNatClampNeg = lp j := nI_clamp (by omega)
          have hmi : miN S (lp j) ≤ 122 := by rw [miN]; omega
          have e1 : nI t + 2 * nI (wyN S (lp j)) + 2 = nI (t + miN S (lp j)) := by
            rw [show (2 : Int32) = nI 2 from rfl, nI_mul, nI_add, nI_add, miN]
            rfl
          have ea : (nI (t + miN S (lp j)) + nI rr).toNatClampNeg = t + miN S (lp j) + rr := by rw [nI_add]; exact nI_clamp (by omega)
          have eh : nI hf + nI (t + miN S (lp j)) - nI t = nI (hf + miN S (lp j)) := by
            rw [nI_add, nI_sub (by omega)]
            congr 1
            omega
          have el : nI le - 4 * nI (wyN S (lp j)) = nI (le - 4 * wyN S (lp j)) := by
            have := hA.1
            rw [show (4 : Int32) = nI 4 from rfl, nI_mul, nI_sub (by omega)]
          rw [ec, e2, e1, h13, ea, eh, el]
          have hp := ih B1 (upd o (n - (f + 1)) (nI (lp j))) (upd fl j 1) (t + miN S (lp j) + rr) (hf + miN S (lp j)) (le - 4 * wyN S (lp j)) (t + miN S (lp j)) (by omega) (by have := hA.2; omega) (by omega)
          rw [show n - f = n - (f + 1) + 1 by omega] at hp
          obtain ⟨p1, p2, p3⟩ := hp
          refine ⟨?_, fun σ e h => ?_, p3⟩
          · rcases p1 with q | ⟨σ, e, q1, q2, q3, q4⟩
            · exact Or.inl q
            · exact Or.inr ⟨lp j :: σ, e, ⟨c0, t, σ, ⟨hF, hA⟩, rfl, q1⟩, q2, q3, q4⟩
          · obtain ⟨-, t2, σ', ⟨g1, g2⟩, rfl, g3⟩ := h
            have : t2 = t := g1.1.un hF.1
            subst this
            exact p2 σ' e g3
        · rw [if_neg (fun z => by have := z.2; omega)]
          exact PMr.none (fun σ e h => by obtain ⟨-, t, σ', g, -⟩ := h; exact hno t g)
      · rw [if_neg (fun z => c0 z.1)]
        exact PMr.none (fun σ e h => c0 h.1)
    have loop : ∀ k, k ≤ n → PMr n o (n - (f + 1)) (fun σ e => ∃ j, j < k ∧ (fl j = 0 ∧ ∃ t σ', (Fst (hdN S nl u) (miN S) (lp j) a hf t ∧ affP S mo (lp j) hf le) ∧ σ = lp j :: σ' ∧ FM S nl u n lp rr mo f (upd fl j 1) (t + miN S (lp j) + rr) (hf + miN S (lp j)) (le - 4 * wyN S (lp j)) (t + miN S (lp j)) σ' e)) B (gL S nl u y (gF S nl u n y f) (n - (f + 1)) o fl a (nI hf) (nI le) B k) := by
      intro k
      induction k with
      | zero => intro _; exact PMr.none (fun σ e h => by obtain ⟨j, hj, -⟩ := h; exact absurd hj (Nat.not_lt_zero _))
      | succ k ihk =>
        intro hk
        rw [gL]
        refine (ihk (by omega)).then (step k (by omega) _) (fun σ e => ?_)
        constructor
        · rintro ⟨j, hj, h⟩
          by_cases q : j = k
          · subst q; exact Or.inr h
          · exact Or.inl ⟨j, by omega, h⟩
        · rintro (⟨j, hj, h⟩ | h)
          · exact ⟨j, by omega, h⟩
          · exact ⟨k, Nat.lt_succ_self k, h⟩
    rw [gF]
    exact loop n (Nat.le_refl _)
end OM1
