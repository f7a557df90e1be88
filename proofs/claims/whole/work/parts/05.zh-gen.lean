/-- the picture with any cells C and any roles P of lists -/
def KG (G : Nat → Nat) (O : Nat → Prop) (ad : Nat → Nat → Nat) (C : Nat → Nat → Option AE) (P : Nat → Prop) (L : Nat → List Nat) (h : AH) : Prop := ∃ ed cp : Nat → Nat,
  (∀ c i e, C c i = some e → h (ad c i) = some e ∧ O (ad c i)) ∧
  (∀ c i c2 i2, C c i ≠ none → C c2 i2 ≠ none → ad c i = ad c2 i2 → c = c2 ∧ i = i2) ∧
  (∀ r, P r → LL G h (ad 1 r) ((L r).map (ad (ek r))) (ed r) (cp r) ∧ cp r ≤ 400 ∧ O (ad 1 r) ∧ (0 < cp r → O (ed r))) ∧
  (∀ r r2, P r → P r2 → ad 1 r = ad 1 r2 → r = r2) ∧
  (∀ r r2, P r → P r2 → 0 < cp r → 0 < cp r2 → ed r = ed r2 → r = r2) ∧
  (∀ r, P r → ∀ x ∈ L r, ∃ (ci : Nat) (fs : List Value), C (ek r) x = some (.inr (ci, fs)) ∧ ci < 14) ∧
  (∀ c i e, C c i = some e → nlE e)
def cU (C : Nat → Nat → Option AE) (c0 i0 : Nat) (e : AE) : Nat → Nat → Option AE := fun c i => if c = c0 ∧ i = i0 then some e else C c i
theorem cU_s {C : Nat → Nat → Option AE} {c0 i0 : Nat} {e : AE} : cU C c0 i0 e c0 i0 = some e := if_pos ⟨rfl, rfl⟩
theorem cU_n {C : Nat → Nat → Option AE} {c0 i0 c i : Nat} {e : AE} (h : ¬ (c = c0 ∧ i = i0)) : cU C c0 i0 e c i = C c i := if_neg h
section KGS
variable {G : Nat → Nat} {O : Nat → Prop} {ad : Nat → Nat → Nat} {C : Nat → Nat → Option AE} {P : Nat → Prop} {S X : MS} {L : Nat → List Nat} {wn : Nat → Option Nat} {sl : Nat → Nat} {fl : Nat} {h h0 : AH} {d : Nat}
theorem KR.kg (hK : KR G O ad S X L wn sl fl h) : KG G O ad (cs ad S X L wn sl fl) (fun r => r < 8 + (L 1).length) L h := by
  obtain ⟨ed, cp, h1, h2, h3, h4, h5, h6⟩ := hK
  refine ⟨ed, cp, h1, h2, h3, h4, h5, fun r hr x hx => ?_, fun c i e he => cs_nl he⟩
  cases e : cs ad S X L wn sl fl (ek r) x with
  | none => exact absurd e (h6 r hr x hx)
  | some y =>
    obtain ⟨ci, fs, rfl, hci⟩ := cs_ob e (ek_r r)
    exact ⟨ci, fs, rfl, hci⟩
theorem KG.kr (hK : KG G O ad C P L h) (hC : ∀ c i, cs ad S X L wn sl fl c i = C c i) (hP : ∀ r, r < 8 + (L 1).length → P r) : KR G O ad S X L wn sl fl h := by
  obtain ⟨ed, cp, h1, h2, h3, h4, h5, h6, h7⟩ := hK
  refine ⟨ed, cp, fun c i e he => h1 c i e ((hC c i).symm.trans he), fun c i c2 i2 g1 g2 => h2 c i c2 i2 (by rw [← hC]; exact g1) (by rw [← hC]; exact g2), fun r hr => h3 r (hP r hr), fun r r2 a b => h4 r r2 (hP r a) (hP r2 b), fun r r2 a b => h5 r r2 (hP r a) (hP r2 b), fun r hr x hx => ?_⟩
  obtain ⟨ci, fs, e, -⟩ := h6 r (hP r hr) x hx
  rw [hC, e]
  exact fun z => by cases z
theorem KG.cne (hK : KG G O ad C P L h) {q : Nat} (hq : h q = none) : ∀ c i, C c i ≠ none → ad c i ≠ q := by
  obtain ⟨_, _, g1, -⟩ := hK
  intro c i hz z
  cases e2 : C c i with
  | none => exact hz e2
  | some y => have := (g1 c i y e2).1; rw [z, hq] at this; cases this
theorem KG.fresh {q : Nat} {e : AE} (hK : KG G O ad C P L h) (hq : h q = none) : KG G O ad C P L (hu h q e) := by
  obtain ⟨ed, cp, h1, h2, h3, h4, h5, h6⟩ := hK
  refine ⟨ed, cp, fun c i e2 he => ⟨?_, (h1 c i e2 he).2⟩, h2, fun r hr => ?_, h4, h5, h6⟩
  · have z := (h1 c i e2 he).1
    rw [hu_n (fun y => by rw [y, hq] at z; cases z)]
    exact z
  · obtain ⟨g1, g2, g3, g4⟩ := h3 r hr
    refine ⟨g1.same ?_ (fun hp => ?_), g2, g3, g4⟩
    · obtain ⟨fs, hfs⟩ := g1.ob
      rw [hu_n (fun y => by rw [y, hq] at hfs; cases hfs)]
    · obtain ⟨f, hf⟩ := g1.row hp
      rw [hu_n (fun y => by rw [y, hq] at hf; cases hf)]
theorem KG.cell {q c0 i0 : Nat} {e : AE} (hK : KG G O ad C P L h) (hF : KF O h0 h) (hq : h q = none) (hc1 : c0 ≠ 1) (hd : C c0 i0 = none) (hnl : nlE e) : KG G O (adU ad c0 i0 q) (cU C c0 i0 e) P L (hu h q e) ∧ KF O h0 (hu h q e) := by
  have hO := hF.new hq
  have hqn := hK.cne hq
  obtain ⟨ed, cp, h1, h2, h3, h4, h5, h6, h7⟩ := hK.fresh (e := e) hq
  have hne : ∀ c i, C c i ≠ none → ¬ (c = c0 ∧ i = i0) := fun c i hz z => hz (by rw [z.1, z.2]; exact hd)
  have ha1 : ∀ r, adU ad c0 i0 q 1 r = ad 1 r := fun r => adU_n (fun z => hc1 z.1.symm)
  have h6n : ∀ r, P r → ∀ x ∈ L r, C (ek r) x ≠ none := by
    intro r hr x hx
    obtain ⟨ci, fs, e, -⟩ := h6 r hr x hx
    rw [e]
    exact fun z => by cases z
  have hmap : ∀ r, P r → (L r).map (adU ad c0 i0 q (ek r)) = (L r).map (ad (ek r)) := fun r hr => List.map_congr_left (fun x hx => adU_n (hne _ _ (h6n r hr x hx)))
  refine ⟨⟨ed, cp, fun c i e2 he => ?_, fun c i c2 i2 g1 g2 ee => ?_, fun r hr => ?_, fun r r2 hr hr2 ee => ?_, h5, fun r hr x hx => ?_, fun c i e2 he => ?_⟩, hF.hu hO⟩
  · by_cases z : c = c0 ∧ i = i0
    · rw [z.1, z.2, cU_s] at he
      cases he
      rw [z.1, z.2, adU_s]
      exact ⟨hu_s, hO⟩
    · rw [cU_n z] at he
      rw [adU_n z]
      exact h1 c i e2 he
  · by_cases z : c = c0 ∧ i = i0
    · by_cases z2 : c2 = c0 ∧ i2 = i0
      · exact ⟨z.1.trans z2.1.symm, z.2.trans z2.2.symm⟩
      · rw [cU_n z2] at g2
        rw [z.1, z.2, adU_s, adU_n z2] at ee
        exact absurd ee.symm (hqn c2 i2 g2)
    · rw [cU_n z] at g1
      by_cases z2 : c2 = c0 ∧ i2 = i0
      · rw [z2.1, z2.2, adU_s, adU_n z] at ee
        exact absurd ee (hqn c i g1)
      · rw [cU_n z2] at g2
        rw [adU_n z, adU_n z2] at ee
        exact h2 c i c2 i2 g1 g2 ee
  · rw [ha1, hmap r hr]
    exact h3 r hr
  · rw [ha1, ha1] at ee
    exact h4 r r2 hr hr2 ee
  · rw [cU_n (hne _ _ (h6n r hr x hx))]
    exact h6 r hr x hx
  · by_cases z : c = c0 ∧ i = i0
    · rw [z.1, z.2, cU_s] at he
      cases he
      exact hnl
    · rw [cU_n z] at he
      exact h7 c i e2 he
theorem ek_1 (r : Nat) : ek r ≠ 1 := by
  have := ek_r r
  omega
/-- a new empty list of role r0 -/
theorem KG.list {q r0 : Nat} {mc : Int32} (hK : KG G O ad C P L h) (hF : KF O h0 h) (hq : h q = none) (hr0 : ¬ P r0) (hC1 : ∀ i, C 1 i = none) : KG G O (adU ad 1 r0 q) C (fun r => P r ∨ r = r0) (lset L r0 []) (hu h q (Ob 0 [.int mc, .ref (G 0), .int 0])) ∧ KF O h0 (hu h q (Ob 0 [.int mc, .ref (G 0), .int 0])) := by
  have hO := hF.new hq
  have hqn := hK.cne hq
  have hql : ∀ r, P r → ad 1 r ≠ q := by
    obtain ⟨ed, cp, h1, h2, h3, -⟩ := hK
    intro r hr z
    obtain ⟨fs, hfs⟩ := (h3 r hr).1.ob
    rw [z, hq] at hfs
    cases hfs
  obtain ⟨ed, cp, h1, h2, h3, h4, h5, h6, h7⟩ := hK.fresh (e := Ob 0 [.int mc, .ref (G 0), .int 0]) hq
  have hne : ∀ c i, C c i ≠ none → ¬ (c = 1 ∧ i = r0) := fun c i hz z => hz (by rw [z.1, z.2]; exact hC1 _)
  have hna : ∀ c i, C c i ≠ none → adU ad 1 r0 q c i = ad c i := fun c i hz => adU_n (hne c i hz)
  have hrr : ∀ r, P r → r ≠ r0 := fun r hr z => hr0 (z ▸ hr)
  have hek : ∀ r x, adU ad 1 r0 q (ek r) x = ad (ek r) x := fun r x => adU_n (fun z => ek_1 r z.1)
  refine ⟨⟨fun r => if r = r0 then G 0 else ed r, fun r => if r = r0 then 0 else cp r, fun c i e2 he => ?_, fun c i c2 i2 g1 g2 ee => ?_, fun r hr => ?_, fun r r2 hr hr2 ee => ?_, fun r r2 hr hr2 g1 g2 ee => ?_, fun r hr x hx => ?_, h7⟩, hF.hu hO⟩
  · rw [hna c i (by rw [he]; exact fun z => by cases z)]
    exact h1 c i e2 he
  · rw [hna c i g1, hna c2 i2 g2] at ee
    exact h2 c i c2 i2 g1 g2 ee
  · by_cases z : r = r0
    · subst z
      rw [adU_s, lset_s]
      simp only [if_true]
      exact ⟨⟨mc, fun _ => none, hu_s, Or.inl ⟨rfl, rfl, rfl⟩⟩, by omega, hO, fun z => by omega⟩
    · simp only [if_neg z]
      rw [adU_n (fun y => z y.2), lset_n z, show (L r).map (adU ad 1 r0 q (ek r)) = (L r).map (ad (ek r)) from List.map_congr_left (fun x _ => hek r x)]
      exact h3 r (hr.resolve_right z)
  · by_cases z : r = r0
    · by_cases z2 : r2 = r0
      · rw [z, z2]
      · rw [z, adU_s, adU_n (fun y => z2 y.2)] at ee
        exact absurd ee.symm (hql r2 (hr2.resolve_right z2))
    · by_cases z2 : r2 = r0
      · rw [z2, adU_s, adU_n (fun y => z y.2)] at ee
        exact absurd ee (hql r (hr.resolve_right z))
      · rw [adU_n (fun y => z y.2), adU_n (fun y => z2 y.2)] at ee
        exact h4 r r2 (hr.resolve_right z) (hr2.resolve_right z2) ee
  · by_cases z : r = r0
    · simp only [if_pos z] at g1
      omega
    · by_cases z2 : r2 = r0
      · simp only [if_pos z2] at g2
        omega
      · simp only [if_neg z] at g1
        simp only [if_neg z2] at g2
        simp only [if_neg z, if_neg z2] at ee
        exact h5 r r2 (hr.resolve_right z) (hr2.resolve_right z2) g1 g2 ee
  · by_cases z : r = r0
    · rw [z, lset_s] at hx
      cases hx
    · rw [lset_n z] at hx
      exact h6 r (hr.resolve_right z) x hx
/-- an element is laid into a list -/
theorem KG.add {r x M : Nat} (hK : KG G O ad C P L h) (hF : KF O h0 h) (hr : P r) (hlen : (L r).length ≤ 250) (hM : 10 + 2 * (L r).length ≤ M) (hx : ∃ (ci : Nat) (fs : List Value), C (ek r) x = some (.inr (ci, fs)) ∧ ci < 14) :
    Ct Y_Jx4a65c_add_9ea2d (d + 6) G 1 M [.ref (ad 1 r), .ref (ad (ek r) x)] h (fun v h2 => v = some (.int 1) ∧ KG G O ad C P (lset L r (L r ++ [x])) h2 ∧ KF O h0 h2) := by
  obtain ⟨ed, cp, h1, h2, h3, h4, h5, h6, h7⟩ := id hK
  have hobC : ∀ y, (∃ (ci : Nat) (fs : List Value), C (ek r) y = some (.inr (ci, fs)) ∧ ci < 14) → isOb h (ad (ek r) y) ∧ ad (ek r) y ≠ ad 1 r := by
    rintro y ⟨ci, fs, e, hci⟩
    refine ⟨⟨ci, fs, (h1 _ _ _ e).1, hci⟩, fun z => ?_⟩
    obtain ⟨fs2, hfs⟩ := (h3 r hr).1.ob
    rw [← z, (h1 _ _ _ e).1] at hfs
    exact (h7 _ _ _ e).1 fs2 (Option.some.inj hfs)
  have hob2 : ∀ y ∈ (L r).map (ad (ek r)), isOb h y ∧ y ≠ ad 1 r := by
    intro y hy
    obtain ⟨z, hz, rfl⟩ := List.mem_map.mp hy
    exact hobC z (h6 r hr z hz)
  refine (jl_add (h3 r hr).1 (h3 r hr).2.1 (by rw [List.length_map]; exact hlen) (by rw [List.length_map]; exact hM) (hobC x hx).1 (hobC x hx).2 (fun y hy => (hob2 y hy).1) (fun y hy => (hob2 y hy).2)).weaken (fun v h2' z => ?_)
  obtain ⟨z1, ed2, cap2, z2, z3, z4, z5⟩ := z
  have hcp : 0 < cap2 := by
    obtain ⟨mc, f, -, hd⟩ := z2
    rcases hd with ⟨-, -, w⟩ | ⟨w, -⟩
    · simp at w
    · exact w
  have hO1 := (h3 r hr).2.2.1
  have hO2 : O ed2 := by
    rcases z5 with ⟨e1, e2, e3⟩ | w
    · rw [e1]; exact (h3 r hr).2.2.2 e3
    · exact hF.new w
  have hkeep : ∀ b x, h b = some x → b ≠ ad 1 r → (0 < cp r → b ≠ ed r) → h2' b = some x := by
    intro b x hb b1 b2
    rw [z4 b b1 (fun y => ?_)]
    · exact hb
    · rcases z5 with ⟨e1, e2, e3⟩ | w
      · exact b2 e3 (y.trans e1)
      · rw [y, w] at hb; cases hb
  refine ⟨z1, ⟨fun x => if x = r then ed2 else ed x, fun x => if x = r then cap2 else cp x, fun c i x hx => ?_, h2, fun r2 hr2 => ?_, h4, ?_, ?_, h7⟩, ⟨hF.1, fun b hb => ?_⟩⟩
  · obtain ⟨q1, q2⟩ := h1 c i x hx
    obtain ⟨n1, n2⟩ := h7 _ _ _ hx
    refine ⟨hkeep _ x q1 (fun y => ?_) (fun hp y => ?_), q2⟩
    · obtain ⟨fs, hfs⟩ := (h3 r hr).1.ob
      rw [← y, q1] at hfs
      exact n1 fs (Option.some.inj hfs)
    · obtain ⟨f, hf⟩ := (h3 r hr).1.row hp
      rw [← y, q1] at hf
      exact n2 _ f (Option.some.inj hf)
  · by_cases w : r2 = r
    · subst w
      simp only [if_true, lset_s]
      rw [List.map_append]
      exact ⟨z2, z3, hO1, fun _ => hO2⟩
    · simp only [if_neg w, lset_n w]
      obtain ⟨g1, g2, g3, g4⟩ := h3 r2 hr2
      refine ⟨g1.same ?_ (fun hp => ?_), g2, g3, g4⟩
      · obtain ⟨fs, hfs⟩ := g1.ob
        rw [hkeep _ _ hfs (fun y => w (h4 r2 r hr2 hr y)) (fun hp y => ?_), hfs]
        obtain ⟨f, hf⟩ := (h3 r hr).1.row hp
        rw [← y, hfs] at hf
        cases hf
      · obtain ⟨f, hf⟩ := g1.row hp
        rw [hkeep _ _ hf (fun y => ?_) (fun hp2 y => w (h5 r2 r hr2 hr hp hp2 y)), hf]
        obtain ⟨fs, hfs⟩ := (h3 r hr).1.ob
        rw [← y, hf] at hfs
        cases hfs
  · intro a b ha hb c1 c2 ee
    by_cases e1 : a = r
    · by_cases e2 : b = r
      · rw [e1, e2]
      · exfalso
        subst e1
        simp only [if_true, if_neg e2] at c1 c2 ee
        obtain ⟨f, hf⟩ := (h3 b hb).1.row c2
        rcases z5 with ⟨q1, q2, q3⟩ | w
        · exact e2 (h5 b a hb ha c2 q3 (by rw [← q1]; exact ee.symm))
        · rw [← ee, w] at hf
          cases hf
    · by_cases e2 : b = r
      · exfalso
        subst e2
        simp only [if_true, if_neg e1] at c1 c2 ee
        obtain ⟨f, hf⟩ := (h3 a ha).1.row c1
        rcases z5 with ⟨q1, q2, q3⟩ | w
        · exact e1 (h5 a b ha hb c1 q3 (by rw [← q1]; exact ee))
        · rw [ee, w] at hf
          cases hf
      · simp only [if_neg e1, if_neg e2] at c1 c2 ee
        exact h5 a b ha hb c1 c2 ee
  · intro r2 hr2 y hy
    by_cases w2 : r2 = r
    · subst w2
      rw [lset_s, List.mem_append, List.mem_singleton] at hy
      rcases hy with hy | hy
      · exact h6 r2 hr2 y hy
      · rw [hy]; exact hx
    · rw [lset_n w2] at hy
      exact h6 r2 hr2 y hy
  · rw [z4 b (fun y => hb (by rw [y]; exact hO1)) (fun y => hb (by rw [y]; exact hO2))]
    exact hF.2 b hb
end KGS
