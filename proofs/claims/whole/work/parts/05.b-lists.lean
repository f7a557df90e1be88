def lset (L : Nat → List Nat) (r : Nat) (l : List Nat) : Nat → List Nat := fun x => if x = r then l else L x
theorem lset_s {L : Nat → List Nat} {r : Nat} {l : List Nat} : lset L r l r = l := if_pos rfl
theorem lset_n {L : Nat → List Nat} {r x : Nat} {l : List Nat} (h : x ≠ r) : lset L r l x = L x := if_neg h
/-- an address of ours is not ArrayList's empty row -/
theorem J.neG {Y : YM} {d kc ks pc : Nat} {G : Nat → Nat} {lv : List (Option Value)} {st : List Value} {h : AH} {post : Option Value → AH → Prop} {a : Nat} {ee : AE} (ha : h a = some ee) (k : G 0 ≠ a → J Y d G kc ks pc lv st h post) : J Y d G kc ks pc lv st h post := by
  intro A D p l e s m args below meth c mc ms H locs cells slots ls C hR hS g1 g2 hl
  refine k (fun z => ?_) A D p l e s m args below meth c mc ms H locs cells slots ls C hR hS g1 g2 hl
  obtain ⟨cell, -, -, -, -, -, -, hA⟩ := C.2.2.2.2.2.2.2.2.1.2.1
  obtain ⟨ws, tys, hK, hP, hD, hh⟩ := hR
  have hx := hh a _ ha
  rw [← z] at hx
  refine hA ?_
  cases ee with
  | inl y =>
    obtain ⟨cA, b1, -⟩ := hx
    obtain ⟨q, hq⟩ := List.getElem?_of_mem b1
    exact hD.2 q _ hq
  | inr y =>
    obtain ⟨q, hq⟩ := List.getElem?_of_mem (show _ ∈ ws from hx)
    exact hD.2 q _ hq
theorem map_erase {α β : Type} (f : α → β) : ∀ (l : List α) (i : Nat), (l.eraseIdx i).map f = (l.map f).eraseIdx i
  | [], _ => rfl
  | a :: l, 0 => rfl
  | a :: l, i + 1 => by
    show f a :: (l.eraseIdx i).map f = f a :: (l.map f).eraseIdx i
    rw [map_erase f l i]
section KLS
variable {G : Nat → Nat} {O : Nat → Prop} {ad : Nat → Nat → Nat} {S X : MS} {L : Nat → List Nat} {wn : Nat → Option Nat} {sl : Nat → Nat} {fl : Nat} {h h0 : AH} {d : Nat}
theorem KR.fresh {q : Nat} {e : AE} (hK : KR G O ad S X L wn sl fl h) (hq : h q = none) : KR G O ad S X L wn sl fl (hu h q e) := by
  obtain ⟨ed, cp, h1, h2, h3, h4, h5, h6⟩ := hK
  refine ⟨ed, cp, fun c i e2 he => ⟨?_, (h1 c i e2 he).2⟩, h2, fun r hr => ?_, h4, h5, h6⟩
  · have z := (h1 c i e2 he).1
    rw [hu_n (fun y => by rw [y, hq] at z; cases z)]
    exact z
  · obtain ⟨g1, g2, g3, g4⟩ := h3 r hr
    refine ⟨g1.same ?_ (fun hp => ?_), g2, g3, g4⟩
    · obtain ⟨fs, hfs⟩ := g1.ob
      rw [hu_n (fun y => by rw [y, hq] at hfs; cases hfs)]
    · obtain ⟨f, hf⟩ := g1.row hp
      rw [hu_n (fun y => by rw [y, hq] at hf; cases hf)]
theorem cs_ob {c i : Nat} {e : AE} (h : cs ad S X L wn sl fl c i = some e) (hc : 3 ≤ c ∧ c ≤ 8) : ∃ (ci : Nat) (fs : List Value), e = .inr (ci, fs) ∧ ci < 14 := by
  obtain ⟨h1, h2⟩ := hc
  match c, h1, h2, h with
  | 3, _, _, h => obtain ⟨-, rfl⟩ := if_some h; exact ⟨_, _, rfl, by decide⟩
  | 4, _, _, h => obtain ⟨-, rfl⟩ := if_some h; exact ⟨_, _, rfl, by decide⟩
  | 5, _, _, h => obtain ⟨-, rfl⟩ := if_some h; exact ⟨_, _, rfl, by decide⟩
  | 6, _, _, h => obtain ⟨-, rfl⟩ := if_some h; exact ⟨_, _, rfl, by decide⟩
  | 7, _, _, h => obtain ⟨-, rfl⟩ := if_some h; exact ⟨_, _, rfl, by decide⟩
  | 8, _, _, h => obtain ⟨-, rfl⟩ := if_some h; exact ⟨_, _, rfl, by decide⟩
theorem ek_r (r : Nat) : 3 ≤ ek r ∧ ek r ≤ 8 := by
  unfold ek
  split <;> omega
theorem KR.obj {r x : Nat} (hK : KR G O ad S X L wn sl fl h) (hx : cs ad S X L wn sl fl (ek r) x ≠ none) : isOb h (ad (ek r) x) := by
  cases e : cs ad S X L wn sl fl (ek r) x with
  | none => exact absurd e hx
  | some y =>
    obtain ⟨ci, fs, rfl, hci⟩ := cs_ob e (ek_r r)
    exact ⟨ci, fs, hK.cell e, hci⟩
theorem KR.ne1 {c i r : Nat} (hK : KR G O ad S X L wn sl fl h) (hr : r < 8 + (L 1).length) (hx : cs ad S X L wn sl fl c i ≠ none) : ad c i ≠ ad 1 r := by
  obtain ⟨ed, cp, h1, h2, h3, h4, h5, h6⟩ := hK
  cases e : cs ad S X L wn sl fl c i with
  | none => exact absurd e hx
  | some y =>
    intro z
    obtain ⟨fs, hfs⟩ := (h3 r hr).1.ob
    rw [← z, (h1 c i y e).1] at hfs
    exact (cs_nl e).1 fs (Option.some.inj hfs)
theorem KR.listOb {r : Nat} (hK : KR G O ad S X L wn sl fl h) (hr : r < 8 + (L 1).length) : ∃ fs, h (ad 1 r) = some (Ob 0 fs) := by
  obtain ⟨ed, cp, h1, h2, h3, h4, h5, h6⟩ := hK
  exact (h3 r hr).1.ob
theorem KR.size {r : Nat} (hK : KR G O ad S X L wn sl fl h) (hr : r < 8 + (L 1).length) : Ct Y_Jx4a65c_size_8abf5 d G 0 0 [.ref (ad 1 r)] h (fun v h2 => v = some (.int (nI (L r).length)) ∧ h2 = h) := by
  obtain ⟨ed, cp, h1, h2, h3, h4, h5, h6⟩ := hK
  have z := jl_sizeL (d := d) (h3 r hr).1
  rw [List.length_map] at z
  exact z
theorem KR.isEmpty {r : Nat} (hK : KR G O ad S X L wn sl fl h) (hr : r < 8 + (L 1).length) : Ct Y_Jx4a65c_isEmpty_aae02 d G 0 0 [.ref (ad 1 r)] h (fun v h2 => v = some (.int (ib (nI (L r).length = 0))) ∧ h2 = h) := by
  obtain ⟨ed, cp, h1, h2, h3, h4, h5, h6⟩ := hK
  have z := jl_isEmptyL (d := d) (h3 r hr).1
  rw [List.length_map] at z
  exact z
theorem KR.get {r i x : Nat} (hK : KR G O ad S X L wn sl fl h) (hr : r < 8 + (L 1).length) (hi : (L r)[i]? = some x) : Ct Y_Jx4a65c_get_915e3 (d + 2) G 0 0 [.ref (ad 1 r), .int (nI i)] h (fun v h2 => v = some (.ref (ad (ek r) x)) ∧ h2 = h) := by
  obtain ⟨ed, cp, h1, h2, h3, h4, h5, h6⟩ := hK
  exact jl_getL (h3 r hr).1 (h3 r hr).2.1 (by rw [List.getElem?_map, hi]; rfl)
/-- cs does not see the lists 4, 5, 7 and those of the machines -/
theorem cs_lset {r : Nat} {l : List Nat} (hr : r = 4 ∨ r = 5 ∨ r = 7 ∨ 8 ≤ r) (c i : Nat) : cs ad S X (lset L r l) wn sl fl c i = cs ad S X L wn sl fl c i := by
  unfold cs
  rw [lset_n (show 0 ≠ r by omega), lset_n (show 1 ≠ r by omega), lset_n (show 2 ≠ r by omega), lset_n (show 3 ≠ r by omega), lset_n (show 6 ≠ r by omega)]
/-- a list has changed -/
theorem KR.lst {r ed2 cap2 : Nat} {l : List Nat} {h2 : AH} {ed cp : Nat → Nat} (hF : KF O h0 h) (hr : r < 8 + (L 1).length) (hrr : r = 4 ∨ r = 5 ∨ r = 7 ∨ 8 ≤ r)
    (h1 : ∀ c i e, cs ad S X L wn sl fl c i = some e → h (ad c i) = some e ∧ O (ad c i))
    (hj : ∀ c i c2 i2, cs ad S X L wn sl fl c i ≠ none → cs ad S X L wn sl fl c2 i2 ≠ none → ad c i = ad c2 i2 → c = c2 ∧ i = i2)
    (h3 : ∀ r, r < 8 + (L 1).length → LL G h (ad 1 r) ((L r).map (ad (ek r))) (ed r) (cp r) ∧ cp r ≤ 400 ∧ O (ad 1 r) ∧ (0 < cp r → O (ed r)))
    (h4 : ∀ r r2, r < 8 + (L 1).length → r2 < 8 + (L 1).length → ad 1 r = ad 1 r2 → r = r2)
    (h5 : ∀ r r2, r < 8 + (L 1).length → r2 < 8 + (L 1).length → 0 < cp r → 0 < cp r2 → ed r = ed r2 → r = r2)
    (h6 : ∀ r, r < 8 + (L 1).length → ∀ x ∈ L r, cs ad S X L wn sl fl (ek r) x ≠ none)
    (hL : LL G h2 (ad 1 r) (l.map (ad (ek r))) ed2 cap2) (hc : cap2 ≤ 400) (hfr : ∀ b, b ≠ ad 1 r → (0 < cap2 → b ≠ ed2) → h2 b = h b) (hed : (ed2 = ed r ∧ cap2 = cp r) ∨ h ed2 = none) (hx : ∀ x ∈ l, cs ad S X L wn sl fl (ek r) x ≠ none) :
    KR G O ad S X (lset L r l) wn sl fl h2 ∧ KF O h0 h2 := by
  have hO1 := (h3 r hr).2.2.1
  have hO2 : 0 < cap2 → O ed2 := by
    intro hp
    rcases hed with ⟨e1, e2⟩ | e
    · rw [e1]
      exact (h3 r hr).2.2.2 (by omega)
    · exact hF.new e
  have hlen : ((lset L r l) 1).length = (L 1).length := by rw [lset_n (by omega)]
  -- an address that held something, is not the list's cell and not its row
  have hkeep : ∀ b e, h b = some e → b ≠ ad 1 r → (0 < cp r → b ≠ ed r) → h2 b = some e := by
    intro b e hb b1 b2
    rw [hfr b b1 (fun hp => ?_)]
    · exact hb
    · rcases hed with ⟨e1, e2⟩ | e3
      · rw [e1]
        exact b2 (by omega)
      · intro z
        rw [z, e3] at hb
        cases hb
  refine ⟨⟨fun x => if x = r then ed2 else ed x, fun x => if x = r then cap2 else cp x, fun c i e he => ?_, fun c i c2 i2 g1 g2 => ?_, fun r2 hr2 => ?_, ?_, ?_, ?_⟩, ⟨hF.1, fun b hb => ?_⟩⟩
  · rw [cs_lset hrr] at he
    obtain ⟨q1, q2⟩ := h1 c i e he
    obtain ⟨n1, n2⟩ := cs_nl he
    refine ⟨hkeep _ e q1 (fun z => ?_) (fun hp z => ?_), q2⟩
    · obtain ⟨fs, hfs⟩ := (h3 r hr).1.ob
      rw [← z, q1] at hfs
      exact n1 fs (Option.some.inj hfs)
    · obtain ⟨f, hf⟩ := (h3 r hr).1.row hp
      rw [← z, q1] at hf
      exact n2 _ f (Option.some.inj hf)
  · rw [cs_lset hrr] at g1 g2
    exact hj c i c2 i2 g1 g2
  · rw [hlen] at hr2
    by_cases e : r2 = r
    · subst e
      simp only [if_true, lset_s]
      exact ⟨hL, hc, hO1, hO2⟩
    · simp only [if_neg e, lset_n e]
      obtain ⟨g1, g2, g3, g4⟩ := h3 r2 hr2
      refine ⟨g1.same ?_ (fun hp => ?_), g2, g3, g4⟩
      · obtain ⟨fs, hfs⟩ := g1.ob
        rw [hkeep _ _ hfs (fun z => e (h4 r2 r hr2 hr z)) (fun hp z => ?_), hfs]
        obtain ⟨f, hf⟩ := (h3 r hr).1.row hp
        rw [← z, hfs] at hf
        cases hf
      · obtain ⟨f, hf⟩ := g1.row hp
        rw [hkeep _ _ hf (fun z => ?_) (fun hp2 z => e (h5 r2 r hr2 hr hp hp2 z)), hf]
        obtain ⟨fs, hfs⟩ := (h3 r hr).1.ob
        rw [← z, hf] at hfs
        cases hfs
  · rw [hlen]
    exact h4
  · rw [hlen]
    intro a b ha hb c1 c2 ee
    by_cases e1 : a = r
    · by_cases e2 : b = r
      · rw [e1, e2]
      · exfalso
        subst e1
        simp only [if_true, if_neg e2] at c1 c2 ee
        obtain ⟨f, hf⟩ := (h3 b hb).1.row c2
        rcases hed with ⟨q1, q2⟩ | q
        · exact e2 (h5 b a hb ha c2 (by omega) (by rw [← q1]; exact ee.symm))
        · rw [← ee, q] at hf
          cases hf
    · by_cases e2 : b = r
      · exfalso
        subst e2
        simp only [if_true, if_neg e1] at c1 c2 ee
        obtain ⟨f, hf⟩ := (h3 a ha).1.row c1
        rcases hed with ⟨q1, q2⟩ | q
        · exact e1 (h5 a b ha hb c1 (by omega) (by rw [← q1]; exact ee))
        · rw [ee, q] at hf
          cases hf
      · simp only [if_neg e1, if_neg e2] at c1 c2 ee
        exact h5 a b ha hb c1 c2 ee
  · rw [hlen]
    intro r2 hr2 x hx2
    rw [cs_lset hrr]
    by_cases e : r2 = r
    · subst e
      rw [lset_s] at hx2
      exact hx x hx2
    · rw [lset_n e] at hx2
      exact h6 r2 hr2 x hx2
  · rw [hfr b (fun z => hb (by rw [z]; exact hO1)) (fun hp z => hb (by rw [z]; exact hO2 hp))]
    exact hF.2 b hb
theorem KR.add {r x M : Nat} (hK : KR G O ad S X L wn sl fl h) (hF : KF O h0 h) (hr : r < 8 + (L 1).length) (hrr : r = 4 ∨ r = 5 ∨ r = 7 ∨ 8 ≤ r) (hlen : (L r).length ≤ 250) (hM : 10 + 2 * (L r).length ≤ M) (hx : cs ad S X L wn sl fl (ek r) x ≠ none) :
    Ct Y_Jx4a65c_add_9ea2d (d + 6) G 1 M [.ref (ad 1 r), .ref (ad (ek r) x)] h (fun v h2 => v = some (.int 1) ∧ KR G O ad S X (lset L r (L r ++ [x])) wn sl fl h2 ∧ KF O h0 h2) := by
  have hob := hK.obj hx
  have hne := hK.ne1 hr hx
  have hob2 : ∀ y ∈ (L r).map (ad (ek r)), isOb h y := by
    intro y hy
    obtain ⟨z, hz, rfl⟩ := List.mem_map.mp hy
    obtain ⟨ed, cp, h1, h2, h3, h4, h5, h6⟩ := id hK
    exact hK.obj (h6 r hr z hz)
  have hne2 : ∀ y ∈ (L r).map (ad (ek r)), y ≠ ad 1 r := by
    intro y hy
    obtain ⟨z, hz, rfl⟩ := List.mem_map.mp hy
    obtain ⟨ed, cp, h1, h2, h3, h4, h5, h6⟩ := id hK
    exact hK.ne1 hr (h6 r hr z hz)
  obtain ⟨ed, cp, h1, h2, h3, h4, h5, h6⟩ := id hK
  refine (jl_add (h3 r hr).1 (h3 r hr).2.1 (by rw [List.length_map]; exact hlen) (by rw [List.length_map]; exact hM) hob hne hob2 hne2).weaken (fun v h2' z => ?_)
  obtain ⟨z1, ed2, cap2, z2, z3, z4, z5⟩ := z
  refine ⟨z1, KR.lst hF hr hrr h1 h2 h3 h4 h5 h6 (ed2 := ed2) (cap2 := cap2) (by rw [List.map_append]; exact z2) z3 (fun b b1 b2 => z4 b b1 (b2 (by
    obtain ⟨mc, f, -, hd⟩ := z2
    rcases hd with ⟨-, -, q⟩ | ⟨q, -⟩
    · simp at q
    · exact q))) (by
    rcases z5 with ⟨q1, q2, -⟩ | q
    · exact Or.inl ⟨q1, q2⟩
    · exact Or.inr q) (fun y hy => ?_)⟩
  rcases List.mem_append.mp hy with q | q
  · exact h6 r hr y q
  · rw [List.mem_singleton] at q
    rw [q]
    exact hx
theorem KR.remove {r i x : Nat} (hK : KR G O ad S X L wn sl fl h) (hF : KF O h0 h) (hr : r < 8 + (L 1).length) (hrr : r = 4 ∨ r = 5 ∨ r = 7 ∨ 8 ≤ r) (hi : (L r)[i]? = some x) :
    Ct Y_Jx4a65c_remove_915e3 (d + 2) G 0 0 [.ref (ad 1 r), .int (nI i)] h (fun v h2 => v = some (.ref (ad (ek r) x)) ∧ KR G O ad S X (lset L r ((L r).eraseIdx i)) wn sl fl h2 ∧ KF O h0 h2) := by
  have hob2 : ∀ y ∈ (L r).map (ad (ek r)), isOb h y := by
    intro y hy
    obtain ⟨z, hz, rfl⟩ := List.mem_map.mp hy
    obtain ⟨ed, cp, h1, h2, h3, h4, h5, h6⟩ := id hK
    exact hK.obj (h6 r hr z hz)
  have hne2 : ∀ y ∈ (L r).map (ad (ek r)), y ≠ ad 1 r := by
    intro y hy
    obtain ⟨z, hz, rfl⟩ := List.mem_map.mp hy
    obtain ⟨ed, cp, h1, h2, h3, h4, h5, h6⟩ := id hK
    exact hK.ne1 hr (h6 r hr z hz)
  obtain ⟨ed, cp, h1, h2, h3, h4, h5, h6⟩ := id hK
  refine (jl_removeL (h3 r hr).1 (h3 r hr).2.1 (q := ad (ek r) x) (by rw [List.getElem?_map, hi]; rfl) hob2 hne2).weaken (fun v h2' z => ?_)
  obtain ⟨z1, z2, z3⟩ := z
  have hp : 0 < cp r := by
    obtain ⟨mc, f, -, hd⟩ := (h3 r hr).1
    rcases hd with ⟨-, -, q⟩ | ⟨q, -⟩
    · rw [List.map_eq_nil_iff] at q
      rw [q] at hi
      simp at hi
    · exact q
  exact ⟨z1, KR.lst hF hr hrr h1 h2 h3 h4 h5 h6 (ed2 := ed r) (cap2 := cp r) (by rw [map_erase]; exact z2) (h3 r hr).2.1 (fun b b1 b2 => z3 b b1 (b2 hp)) (Or.inl ⟨rfl, rfl⟩) (fun y hy => h6 r hr y (List.mem_of_mem_eraseIdx hy))⟩
theorem KR.clear {r : Nat} (hK : KR G O ad S X L wn sl fl h) (hF : KF O h0 h) (hr : r < 8 + (L 1).length) (hrr : r = 4 ∨ r = 5 ∨ r = 7 ∨ 8 ≤ r) (hG : G 0 ≠ ad 1 r) :
    Ct Y_Jx4a65c_clear_da8c8 d G 0 0 [.ref (ad 1 r)] h (fun v h2 => v = none ∧ KR G O ad S X (lset L r []) wn sl fl h2 ∧ KF O h0 h2) := by
  obtain ⟨ed, cp, h1, h2, h3, h4, h5, h6⟩ := id hK
  refine (jl_clearL (h3 r hr).1 (h3 r hr).2.1 hG).weaken (fun v h2' z => ?_)
  obtain ⟨z1, z2, z3⟩ := z
  exact ⟨z1, KR.lst hF hr hrr h1 h2 h3 h4 h5 h6 (ed2 := ed r) (cap2 := cp r) (by rw [List.map_nil]; exact z2) (h3 r hr).2.1 z3 (Or.inl ⟨rfl, rfl⟩) (fun y hy => absurd hy (by simp))⟩
end KLS
