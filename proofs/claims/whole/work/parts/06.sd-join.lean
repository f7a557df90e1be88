/-! ===== orders: both searches find the same ===== -/
theorem rem_0 {pl : Nat → Nat} {tk : Nat → Int32} : ∀ n, (∀ i, i < n → tk i = 0) → rem pl tk n = (List.range n).map pl
  | 0, _ => rfl
  | n + 1, h => by
    rw [rem_s, if_pos (h n (Nat.lt_succ_self n)), rem_0 n (fun i hi => h i (by omega)), List.range_succ, List.map_append]
    rfl
theorem sumW_app {S : MS} {p : Nat} {l : List Nat} : sumW S (l ++ [p]) = sumW S l + 4 * wyN S p := by
  rw [sumW_perm (List.perm_append_singleton p l), sumW]
theorem sumM_app {S : MS} {p : Nat} {l : List Nat} : sumM S (l ++ [p]) = sumM S l + miN S p := by
  rw [sumM_perm (List.perm_append_singleton p l), sumM]
section OJ
variable {S X X0 : MS} {sl : Nat → Nat} {nl u n rr : Nat} {wn : Nat → Option Nat}
theorem cH.af (h : cH S X X0 wn n rr) : ∀ k, k ≤ n → (afB S wn k = nI (sumW S ((List.range k).map (wf wn))) ∧ sumW S ((List.range k).map (wf wn)) ≤ 240 * k) ∧ afM S wn k = nI (sumM S ((List.range k).map (wf wn))) ∧ sumM S ((List.range k).map (wf wn)) ≤ 122 * k
  | 0, _ => ⟨⟨rfl, Nat.le_refl _⟩, rfl, Nat.le_refl _⟩
  | k + 1, hk => by
    obtain ⟨⟨i1, i2⟩, i3, i4⟩ := cH.af h k (by omega)
    obtain ⟨m1, m2⟩ := h.mi (show k < n by omega)
    obtain ⟨-, -, -, -, -, -, hp, -⟩ := h
    obtain ⟨-, e2, w⟩ := hp k (by omega)
    have er : (List.range (k + 1)).map (wf wn) = (List.range k).map (wf wn) ++ [wf wn k] := by
      rw [List.range_succ, List.map_append]
      rfl
    rw [er, sumW_app, sumM_app, afB, afM, i1, i3]
    refine ⟨⟨?_, by omega⟩, ?_, by omega⟩
    · rw [e2, show (4 : Int32) = nI 4 from rfl, nI_mul, nI_add]
    · rw [show 2 * S.2 2 (wf wn k) + 2 = nI (miN S (wf wn k)) from m1, nI_add]
theorem ord_eq {X1 : MS} {L : Nat → List Nat} {m y : Int32} {lp : Nat → Nat} {mo a hf le : Nat} (hn : 0 < n) (hoH : oH S n y lp rr mo) (hcH : cH S X (x_ord S X1 y.toNatClampNeg) wn n rr) (hr : IRu (S.2 31) (S.2 32) X.2 sl (L 6).length) (hu : (L 6).length ≤ 10) (hso : ∀ i j, i < j → j < n → wf wn i ≤ wf wn j) (hpm : ((List.range n).map (wf wn)).Perm ((List.range n).map lp)) (h14 : S.2 14 y.toNatClampNeg = nI hf) (hhf : hf ≤ 720) (h9 : S.2 9 m.toNatClampNeg = nI le) (hle : le ≤ 2000) (ha : a ≤ 1500) :
    (a_aff S wn n m.toNatClampNeg y.toNatClampNeg → ((oG S nl (L 6).length n m y a).1 < 0 ∧ ¬ (a_ex S X1 L wn n y.toNatClampNeg (nI a)).1 ≤ 720 ∧ (a_ex S X1 L wn n y.toNatClampNeg (nI a)).2.1 = X1.2 6) ∨ ∃ e, (oG S nl (L 6).length n m y a).1 = nI n ∧ (oG S nl (L 6).length n m y a).2.1 = nI e ∧ e ≤ 720 ∧ (a_ex S X1 L wn n y.toNatClampNeg (nI a)).1 = nI e ∧ ∀ i, i < n → (oG S nl (L 6).length n m y a).2.2 i = (a_ex S X1 L wn n y.toNatClampNeg (nI a)).2.1 i) ∧
    (¬ a_aff S wn n m.toNatClampNeg y.toNatClampNeg → (oG S nl (L 6).length n m y a).1 < 0) := by
  have hn5 := hcH.2.2.2.2.2.2.2
  obtain ⟨⟨b1, b2⟩, b3, b4⟩ := hcH.af n (Nat.le_refl _)
  have h12 := hoH.2.2.2.1
  have hmo := hoH.2.2.2.2
  -- the sets
  have hfl : rem lp (cpy (fun _ => 0) (S.2 54) 5) n = (List.range n).map lp := rem_0 n (fun i hi => if_pos (show i < 5 by omega))
  have htk : rem (wf wn) (tkf 0) n = (List.range n).map (wf wn) := rem_0 n (fun i hi => tkf_0)
  have hlw : ((List.range n).map (wf wn)).length = n := by rw [List.length_map, List.length_range]
  have hA : a_aff S wn n m.toNatClampNeg y.toNatClampNeg ↔ sumW S ((List.range n).map (wf wn)) + 10 ≤ le ∧ hf + sumM S ((List.range n).map (wf wn)) ≤ mo := by
    show (afB S wn n + 10 ≤ S.2 9 m.toNatClampNeg ∧ S.2 14 y.toNatClampNeg + afM S wn n ≤ S.2 12 y.toNatClampNeg) ↔ _
    rw [b1, b3, h9, h14, h12, show (10 : Int32) = nI 10 from rfl, nI_add, nI_add, nI_leI (by omega) (by omega), nI_leI (by omega) (by omega)]
  have hF : ∀ σ e, FM S nl (L 6).length n lp rr mo n (cpy (fun _ => 0) (S.2 54) 5) a hf le 0 σ e ↔ (σ.Perm ((List.range n).map (wf wn)) ∧ SC (hdN S nl (L 6).length) (miN S) rr σ a hf 0 e) ∧ a_aff S wn n m.toNatClampNeg y.toNatClampNeg := by
    intro σ e
    rw [FM_iff n _ a hf le 0 σ e (by rw [hfl, List.length_map, List.length_range]), hfl, hA]
    have key : σ.Perm ((List.range n).map (wf wn)) → (affL S mo σ hf le ↔ sumW S ((List.range n).map (wf wn)) + 10 ≤ le ∧ hf + sumM S ((List.range n).map (wf wn)) ≤ mo) := fun g => by
      cases σ with
      | nil =>
        have := g.length_eq
        rw [hlw] at this
        exact absurd this.symm (by simpa using (by omega : n ≠ 0))
      | cons p σ' => rw [affL_iff, sumW_perm g, sumM_perm g]
    constructor
    · rintro ⟨g1, g2, g3⟩
      exact ⟨⟨g1.trans hpm.symm, g2⟩, (key (g1.trans hpm.symm)).mp g3⟩
    · rintro ⟨⟨g1, g2⟩, g3⟩
      exact ⟨g1.trans hpm, g2, (key g1).mpr g3⟩
  have hne : ∀ σ : List Nat, σ.Perm ((List.range n).map (wf wn)) → ¬ σ = [] ∧ σ.length = n ∧ ∀ p ∈ σ, p < 1000 := fun σ g => by
    have hl := g.length_eq
    rw [hlw] at hl
    refine ⟨fun z => by rw [z] at hl; simp at hl; omega, hl, fun p hp => ?_⟩
    obtain ⟨j, hj, rfl⟩ := List.mem_map.mp (g.mem_iff.mp hp)
    exact (hcH.2.2.2.2.2.2.1 j (List.mem_range.mp hj)).1
  -- the model
  have hM := gF_pm (nl := nl) (u := (L 6).length) hn5 hoH n (Nat.le_refl _) (-1, S.1 56, S.2 53) (S.2 52) (cpy (fun _ => 0) (S.2 54) 5) a hf le 0 (by omega) hhf hle
  rw [← h14, ← h9, Nat.sub_self] at hM
  have hM' : PMr n (S.2 52) 0 (FM S nl (L 6).length n lp rr mo n (cpy (fun _ => 0) (S.2 54) 5) a hf le 0) (-1, S.1 56, S.2 53) (oG S nl (L 6).length n m y a) := hM
  clear hM
  generalize oG S nl (L 6).length n m y a = B2 at hM'
  obtain ⟨p1, p2, -⟩ := hM'
  refine ⟨fun hAf => ?_, fun hAf => ?_⟩
  · -- the component
    obtain ⟨f, rfl⟩ : ∃ f, n = f + 1 := ⟨n - 1, by omega⟩
    have hE0 : EI S nl (L 6).length (f + 1) rr wn (f + 1) (hf + sumM S (rem (wf wn) (tkf 0) (f + 1))) 721 (fil (X1.2 7) 32) := fun T hT _ q fo τ e h1 h2 => by
      rw [fil, if_pos hT] at h2
      exact absurd ((nI_leI (a := 9999) (by decide) (by omega)).mp h2) (by omega)
    have hC := Exists.imp (fun _ z => And.intro z.1 (And.intro z.2.1 (And.intro z.2.2.1 z.2.2.2.1))) (exG_cr (nl := nl) hcH hr hu hso f (Nat.le_refl _) 0 (X1.2 5) a hf (721, X1.2 6, fil (X1.2 7) 32) (by omega) (by rw [htk, hlw]) ha rfl 721 (Nat.le_refl _) rfl hE0)
    rw [← h14, Nat.sub_self, htk] at hC
    have hC' : ∃ b2, b2 ≤ 721 ∧ (a_ex S X1 L wn (f + 1) y.toNatClampNeg (nI a)).1 = nI b2 ∧ ((b2 = 721 ∧ (a_ex S X1 L wn (f + 1) y.toNatClampNeg (nI a)).2.1 = X1.2 6) ∨ (b2 < 721 ∧ ∃ σ, (σ.Perm ((List.range (f + 1)).map (wf wn)) ∧ SC (hdN S nl (L 6).length) (miN S) rr σ a hf 0 b2) ∧ (∀ i, i < f + 1 → (a_ex S X1 L wn (f + 1) y.toNatClampNeg (nI a)).2.1 i = ap (X1.2 5) 0 σ i) ∧ ∀ τ, (τ.Perm ((List.range (f + 1)).map (wf wn)) ∧ SC (hdN S nl (L 6).length) (miN S) rr τ a hf 0 b2) → ¬ lexL τ σ)) ∧ ∀ τ e, (τ.Perm ((List.range (f + 1)).map (wf wn)) ∧ SC (hdN S nl (L 6).length) (miN S) rr τ a hf 0 e) → b2 ≤ e := hC
    clear hC
    generalize a_ex S X1 L wn (f + 1) y.toNatClampNeg (nI a) = s2 at hC'
    obtain ⟨b2, c1, c2, c3, c4⟩ := hC'
    rcases p1 with rfl | ⟨σ, e, q1, q2, q3, q4⟩
    · have hno : ∀ σ e, ¬ (σ.Perm ((List.range (f + 1)).map (wf wn)) ∧ SC (hdN S nl (L 6).length) (miN S) rr σ a hf 0 e) := fun σ e z => p2 σ e ((hF σ e).mpr ⟨z, hAf⟩) (Or.inl (show (-1 : Int32) < 0 by decide))
      refine Or.inl ⟨show (-1 : Int32) < 0 by decide, ?_⟩
      rcases c3 with ⟨c5, c6⟩ | ⟨-, σ, c6, -⟩
      · rw [c2, c5]
        exact ⟨by decide, c6⟩
      · exact absurd c6 (hno σ b2)
    · obtain ⟨⟨r1, r2⟩, -⟩ := (hF σ e).mp q1
      obtain ⟨n1, n2, n3⟩ := hne σ r1
      have e7 : e ≤ 720 := SC.le n1 r2
      have hb := c4 σ e ⟨r1, r2⟩
      rcases c3 with ⟨c5, -⟩ | ⟨c5, σ2, c6, c7, c8⟩
      · omega
      · obtain ⟨k1, k2, k3⟩ := hne σ2 c6.1
        have hg := p2 σ2 b2 ((hF σ2 b2).mpr ⟨c6, hAf⟩)
        have heb : e = b2 := by
          apply Nat.le_antisymm _ hb
          apply Nat.le_of_not_lt
          intro z
          apply hg
          refine Or.inr (Or.inl ?_)
          rw [q3]
          exact nI_lt z (by omega)
        subst heb
        have heq : σ = σ2 := by
          refine lexL_tot (by rw [n2, k2]) (c8 σ ⟨r1, r2⟩) (fun z => hg (Or.inr (Or.inr ⟨q3.symm, ?_⟩)))
          have := lex_L (o := S.2 52) (o2 := S.2 52) (k := 0) (by rw [n2, k2]) k3 n3 (fun _ _ => rfl) z
          rw [Nat.zero_add, k2] at this
          exact lexLt_congr (fun _ _ => rfl) (fun i hi => (q4 i hi).symm) this
        subst heq
        refine Or.inr ⟨e, q2, q3, e7, c2, fun i hi => ?_⟩
        have z1 := ap_0 (σ := σ) (o := S.2 52) (k := 0) (i := i) (by omega)
        have z2 := ap_0 (σ := σ) (o := X1.2 5) (k := 0) (i := i) (by omega)
        rw [Nat.zero_add] at z1 z2
        rw [q4 i hi, c7 i hi, z1, z2]
  · rcases p1 with rfl | ⟨σ, e, q1, -⟩
    · exact show (-1 : Int32) < 0 by decide
    · exact absurd ((hF σ e).mp q1).2 hAf
end OJ
