def adU (ad : Nat → Nat → Nat) (c0 i0 q : Nat) : Nat → Nat → Nat := fun c i => if c = c0 ∧ i = i0 then q else ad c i
theorem adU_s {ad : Nat → Nat → Nat} {c0 i0 q : Nat} : adU ad c0 i0 q c0 i0 = q := if_pos ⟨rfl, rfl⟩
theorem adU_n {ad : Nat → Nat → Nat} {c0 i0 q c i : Nat} (h : ¬ (c = c0 ∧ i = i0)) : adU ad c0 i0 q c i = ad c i := if_neg h
section KGR
variable {G : Nat → Nat} {O : Nat → Prop} {ad : Nat → Nat → Nat} {S X : MS} {L : Nat → List Nat} {wn : Nat → Option Nat} {sl : Nat → Nat} {fl : Nat} {h h0 : AH} {d : Nat}
theorem KR.shrink {fl2 : Nat} {S2 : MS} (hK : KR G O ad S X L wn sl fl h) (hcs : ∀ c i e, cs ad S2 X L wn sl fl2 c i = some e → cs ad S X L wn sl fl c i = some e) (hl : ∀ r, r < 8 + (L 1).length → ∀ x ∈ L r, cs ad S2 X L wn sl fl2 (ek r) x ≠ none) : KR G O ad S2 X L wn sl fl2 h := by
  obtain ⟨ed, cp, h1, h2, h3, h4, h5, h6⟩ := hK
  have hn : ∀ c i, cs ad S2 X L wn sl fl2 c i ≠ none → cs ad S X L wn sl fl c i ≠ none := by
    intro c i hz
    cases e : cs ad S2 X L wn sl fl2 c i with
    | none => exact absurd e hz
    | some y => rw [hcs c i y e]; exact fun z => by cases z
  exact ⟨ed, cp, fun c i e he => h1 c i e (hcs c i e he), fun c i c2 i2 g1 g2 => h2 c i c2 i2 (hn _ _ g1) (hn _ _ g2), h3, h4, h5, hl⟩
theorem KR.congr {S2 X2 : MS} {wn2 : Nat → Option Nat} {sl2 : Nat → Nat} {fl2 : Nat} (hK : KR G O ad S X L wn sl fl h) (hcs : ∀ c i, cs ad S2 X2 L wn2 sl2 fl2 c i = cs ad S X L wn sl fl c i) : KR G O ad S2 X2 L wn2 sl2 fl2 h := by
  obtain ⟨ed, cp, h1, h2, h3, h4, h5, h6⟩ := hK
  refine ⟨ed, cp, fun c i e he => h1 c i e ((hcs c i).symm.trans he), fun c i c2 i2 g1 g2 => h2 c i c2 i2 ?_ ?_, h3, h4, h5, fun r hr x hx => ?_⟩
  · rw [← hcs]; exact g1
  · rw [← hcs]; exact g2
  · rw [hcs]; exact h6 r hr x hx
/-- a new cell in the picture -/
theorem KR.grow {S2 X2 : MS} {fl2 q c0 i0 : Nat} {e : AE} (hK : KR G O ad S X L wn sl fl h) (hF : KF O h0 h) (hq : h q = none) (hc1 : c0 ≠ 1) (hd : cs ad S X L wn sl fl c0 i0 = none) (hcs : ∀ c i, cs (adU ad c0 i0 q) S2 X2 L wn sl fl2 c i = if c = c0 ∧ i = i0 then some e else cs ad S X L wn sl fl c i) (hnl : nlE e) : KR G O (adU ad c0 i0 q) S2 X2 L wn sl fl2 (hu h q e) ∧ KF O h0 (hu h q e) := by
  have hO := hF.new hq
  obtain ⟨ed, cp, h1, h2, h3, h4, h5, h6⟩ := hK.fresh (e := e) hq
  have hne : ∀ c i, cs ad S X L wn sl fl c i ≠ none → ¬ (c = c0 ∧ i = i0) := fun c i hz z => hz (by rw [z.1, z.2]; exact hd)
  have hqn : ∀ c i, cs ad S X L wn sl fl c i ≠ none → ad c i ≠ q := by
    obtain ⟨_, _, g1, -⟩ := hK
    intro c i hz z
    cases e2 : cs ad S X L wn sl fl c i with
    | none => exact hz e2
    | some y => have := (g1 c i y e2).1; rw [z, hq] at this; cases this
  have ha1 : ∀ r, adU ad c0 i0 q 1 r = ad 1 r := fun r => adU_n (fun z => hc1 z.1.symm)
  have hmap : ∀ r, r < 8 + (L 1).length → (L r).map (adU ad c0 i0 q (ek r)) = (L r).map (ad (ek r)) := fun r hr => List.map_congr_left (fun x hx => adU_n (hne _ _ (h6 r hr x hx)))
  refine ⟨⟨ed, cp, fun c i e2 he => ?_, fun c i c2 i2 g1 g2 ee => ?_, fun r hr => ?_, fun r r2 hr hr2 ee => ?_, h5, fun r hr x hx => ?_⟩, hF.hu hO⟩
  · rw [hcs] at he
    by_cases z : c = c0 ∧ i = i0
    · rw [if_pos z] at he
      cases he
      rw [z.1, z.2, adU_s]
      exact ⟨hu_s, hO⟩
    · rw [if_neg z] at he
      rw [adU_n z]
      exact h1 c i e2 he
  · rw [hcs] at g1 g2
    by_cases z : c = c0 ∧ i = i0
    · by_cases z2 : c2 = c0 ∧ i2 = i0
      · exact ⟨z.1.trans z2.1.symm, z.2.trans z2.2.symm⟩
      · rw [if_neg z2] at g2
        rw [z.1, z.2, adU_s, adU_n z2] at ee
        exact absurd ee.symm (hqn c2 i2 g2)
    · rw [if_neg z] at g1
      by_cases z2 : c2 = c0 ∧ i2 = i0
      · rw [z2.1, z2.2, adU_s, adU_n z] at ee
        exact absurd ee (hqn c i g1)
      · rw [if_neg z2] at g2
        rw [adU_n z, adU_n z2] at ee
        exact h2 c i c2 i2 g1 g2 ee
  · rw [ha1, hmap r hr]
    exact h3 r hr
  · rw [ha1, ha1] at ee
    exact h4 r r2 hr hr2 ee
  · rw [hcs, if_neg (hne _ _ (h6 r hr x hx))]
    exact h6 r hr x hx
/-- a new cell that is laid into its list -/
theorem KR.growL {S2 X2 : MS} {q c0 r n M : Nat} {e : AE} (hK : KR G O ad S X L wn sl fl h) (hF : KF O h0 h) (hq : h q = none) (hc1 : c0 ≠ 1) (hek : ek r = c0) (hek2 : ∀ r2, r2 < 8 + (L 1).length → ek r2 = c0 → n ∉ L r2) (hr : r < 8 + (L 1).length) (hr1 : r ≠ 1) (hlen : (L r).length ≤ 250) (hM : 10 + 2 * (L r).length ≤ M) (hcs : ∀ c i, cs (adU ad c0 n q) S2 X2 (lset L r (L r ++ [n])) wn sl fl c i = if c = c0 ∧ i = n then some e else cs ad S X L wn sl fl c i) (hdd : cs ad S X L wn sl fl c0 n = none) (hob : ∃ ci fs, e = .inr (ci, fs) ∧ ci < 14) (hnl : nlE e) :
    Ct Y_Jx4a65c_add_9ea2d (d + 6) G 1 M [.ref (ad 1 r), .ref q] (hu h q e) (fun v h2 => v = some (.int 1) ∧ KR G O (adU ad c0 n q) S2 X2 (lset L r (L r ++ [n])) wn sl fl h2 ∧ KF O h0 h2) := by
  have hO := hF.new hq
  have hKq := hK.fresh (e := e) hq
  have hqn : ∀ c i, cs ad S X L wn sl fl c i ≠ none → ad c i ≠ q := by
    obtain ⟨_, _, g1, -⟩ := hK
    intro c i hz z
    cases e2 : cs ad S X L wn sl fl c i with
    | none => exact hz e2
    | some y => have := (g1 c i y e2).1; rw [z, hq] at this; cases this
  have hq1 : ∀ r2, r2 < 8 + (L 1).length → q ≠ ad 1 r2 := by
    intro r2 hr2 z
    obtain ⟨fs, hfs⟩ := hK.listOb hr2
    rw [← z, hq] at hfs
    cases hfs
  have hob2 : ∀ y ∈ (L r).map (ad (ek r)), isOb (hu h q e) y := by
    intro y hy
    obtain ⟨z, hz, rfl⟩ := List.mem_map.mp hy
    obtain ⟨ed, cp, h1, h2, h3, h4, h5, h6⟩ := id hKq
    exact hKq.obj (h6 r hr z hz)
  have hne2 : ∀ y ∈ (L r).map (ad (ek r)), y ≠ ad 1 r := by
    intro y hy
    obtain ⟨z, hz, rfl⟩ := List.mem_map.mp hy
    obtain ⟨ed, cp, h1, h2, h3, h4, h5, h6⟩ := id hKq
    exact hKq.ne1 hr (h6 r hr z hz)
  have hqe : (hu h q e) q = some e := hu_s
  obtain ⟨ed, cp, h1, h2, h3, h4, h5, h6⟩ := id hKq
  refine (jl_add (h3 r hr).1 (h3 r hr).2.1 (by rw [List.length_map]; exact hlen) (by rw [List.length_map]; exact hM) (by obtain ⟨ci, fs, e1, e2⟩ := hob; exact ⟨ci, fs, by rw [hqe, e1], e2⟩) (hq1 r hr) hob2 hne2).weaken (fun v h2' z => ?_)
  obtain ⟨z1, ed2, cap2, z2, z3, z4, z5⟩ := z
  have hcp : 0 < cap2 := by
    obtain ⟨mc, f, -, hd⟩ := z2
    rcases hd with ⟨-, -, w⟩ | ⟨w, -⟩
    · simp at w
    · exact w
  have hO1 := (h3 r hr).2.2.1
  have hO2 : O ed2 := by
    rcases z5 with ⟨e1, e2, e3⟩ | w
    · rw [e1]; exact (h3 r hr).2.2.2 e3
    · exact (hF.hu hO).new w
  have hlen2 : ((lset L r (L r ++ [n])) 1).length = (L 1).length := by rw [lset_n (Ne.symm hr1)]
  have hkeep : ∀ b x, (hu h q e) b = some x → b ≠ ad 1 r → (0 < cp r → b ≠ ed r) → h2' b = some x := by
    intro b x hb b1 b2
    rw [z4 b b1 (fun y => ?_)]
    · exact hb
    · rcases z5 with ⟨e1, e2, e3⟩ | w
      · exact b2 e3 (y.trans e1)
      · rw [y, w] at hb; cases hb
  have hkc : ∀ c i x, cs ad S X L wn sl fl c i = some x → h2' (ad c i) = some x ∧ O (ad c i) := by
    intro c i x hx
    obtain ⟨q1, q2⟩ := h1 c i x hx
    obtain ⟨n1, n2⟩ := cs_nl hx
    refine ⟨hkeep _ x q1 (fun y => ?_) (fun hp y => ?_), q2⟩
    · obtain ⟨fs, hfs⟩ := (h3 r hr).1.ob
      rw [← y, q1] at hfs
      exact n1 fs (Option.some.inj hfs)
    · obtain ⟨f, hf⟩ := (h3 r hr).1.row hp
      rw [← y, q1] at hf
      exact n2 _ f (Option.some.inj hf)
  have ha1 : ∀ r2, adU ad c0 n q 1 r2 = ad 1 r2 := fun r2 => adU_n (fun y => hc1 y.1.symm)
  have hne : ∀ c i, cs ad S X L wn sl fl c i ≠ none → ¬ (c = c0 ∧ i = n) := fun c i hz y => hz (by rw [y.1, y.2]; exact hdd)
  have hmap : ∀ r2, r2 < 8 + (L 1).length → (L r2).map (adU ad c0 n q (ek r2)) = (L r2).map (ad (ek r2)) := fun r2 hr2 => List.map_congr_left (fun x hx => adU_n (hne _ _ (h6 r2 hr2 x hx)))
  refine ⟨z1, ⟨fun x => if x = r then ed2 else ed x, fun x => if x = r then cap2 else cp x, fun c i x he => ?_, fun c i c2 i2 g1 g2 ee => ?_, fun r2 hr2 => ?_, ?_, ?_, ?_⟩, ⟨hF.1, fun b hb => ?_⟩⟩
  · rw [hcs] at he
    by_cases w : c = c0 ∧ i = n
    · rw [if_pos w] at he
      cases he
      rw [w.1, w.2, adU_s]
      refine ⟨hkeep q _ hqe (hq1 r hr) (fun hp y => ?_), hO⟩
      obtain ⟨f, hf⟩ := (h3 r hr).1.row hp
      rw [← y, hqe] at hf
      exact hnl.2 _ f (Option.some.inj hf)
    · rw [if_neg w] at he
      rw [adU_n w]
      exact hkc c i x he
  · rw [hcs] at g1 g2
    by_cases w : c = c0 ∧ i = n
    · by_cases w2 : c2 = c0 ∧ i2 = n
      · exact ⟨w.1.trans w2.1.symm, w.2.trans w2.2.symm⟩
      · rw [if_neg w2] at g2
        rw [w.1, w.2, adU_s, adU_n w2] at ee
        exact absurd ee.symm (hqn c2 i2 g2)
    · rw [if_neg w] at g1
      by_cases w2 : c2 = c0 ∧ i2 = n
      · rw [w2.1, w2.2, adU_s, adU_n w] at ee
        exact absurd ee (hqn c i g1)
      · rw [if_neg w2] at g2
        rw [adU_n w, adU_n w2] at ee
        exact h2 c i c2 i2 g1 g2 ee
  · rw [hlen2] at hr2
    by_cases w : r2 = r
    · subst w
      simp only [if_true, lset_s]
      rw [ha1, List.map_append, hmap r2 hr]
      refine ⟨?_, z3, hO1, fun _ => hO2⟩
      rw [show List.map (adU ad c0 n q (ek r2)) [n] = [q] from by rw [hek]; show [adU ad c0 n q c0 n] = [q]; rw [adU_s]]
      exact z2
    · simp only [if_neg w, lset_n w]
      rw [ha1, hmap r2 hr2]
      obtain ⟨g1, g2, g3, g4⟩ := h3 r2 hr2
      refine ⟨g1.same ?_ (fun hp => ?_), g2, g3, g4⟩
      · obtain ⟨fs, hfs⟩ := g1.ob
        rw [hkeep _ _ hfs (fun y => w (h4 r2 r hr2 hr y)) (fun hp y => ?_), hfs]
        obtain ⟨f, hf⟩ := (h3 r hr).1.row hp
        rw [← y, hfs] at hf
        cases hf
      · obtain ⟨f, hf⟩ := g1.row hp
        rw [hkeep _ _ hf (fun y => ?_) (fun hp2 y => w (h5 r2 r hr2 hr hp hp2 y)), hf]
        obtain ⟨fs, hfs⟩ := (h3 r hr).1.ob
        rw [← y, hf] at hfs
        cases hfs
  · rw [hlen2]
    intro a b ha hb ee
    rw [ha1, ha1] at ee
    exact h4 a b ha hb ee
  · rw [hlen2]
    intro a b ha hb c1 c2 ee
    by_cases e1 : a = r
    · by_cases e2 : b = r
      · rw [e1, e2]
      · exfalso
        subst e1
        simp only [if_true, if_neg e2] at c1 c2 ee
        obtain ⟨f, hf⟩ := (h3 b hb).1.row c2
        rcases z5 with ⟨q1, q2, q3⟩ | w
        · exact e2 (h5 b a hb ha c2 q3 (by rw [← q1]; exact ee.symm))
        · rw [← ee, w] at hf
          cases hf
    · by_cases e2 : b = r
      · exfalso
        subst e2
        simp only [if_true, if_neg e1] at c1 c2 ee
        obtain ⟨f, hf⟩ := (h3 a ha).1.row c1
        rcases z5 with ⟨q1, q2, q3⟩ | w
        · exact e1 (h5 a b ha hb c1 q3 (by rw [← q1]; exact ee))
        · rw [ee, w] at hf
          cases hf
      · simp only [if_neg e1, if_neg e2] at c1 c2 ee
        exact h5 a b ha hb c1 c2 ee
  · rw [hlen2]
    intro r2 hr2 x hx
    rw [hcs]
    by_cases w : ek r2 = c0 ∧ x = n
    · rw [if_pos w]
      exact fun y => by cases y
    · rw [if_neg w]
      by_cases w2 : r2 = r
      · subst w2
        rw [lset_s, List.mem_append, List.mem_singleton] at hx
        rcases hx with hx | hx
        · exact h6 r2 hr2 x hx
        · exact absurd ⟨hek, hx⟩ w
      · rw [lset_n w2] at hx
        exact h6 r2 hr2 x hx
  · rw [z4 b (fun y => hb (by rw [y]; exact hO1)) (fun y => hb (by rw [y]; exact hO2)), hu_n (fun y => hb (by rw [y]; exact hO))]
    exact hF.2 b hb
end KGR
