section KLW
variable {G : Nat → Nat} {O : Nat → Prop} {ad : Nat → Nat → Nat} {S X : MS} {L : Nat → List Nat} {wn : Nat → Option Nat} {sl : Nat → Nat} {fl : Nat} {h h0 : AH} {d : Nat}
theorem KR.lstW {r ed2 cap2 : Nat} {l : List Nat} {h2 : AH} {ed cp : Nat → Nat} (hF : KF O h0 h) (hr : r < 8 + (L 1).length) (hr1 : r ≠ 1) (hcs : ∀ c i e, cs ad S X (lset L r l) wn sl fl c i = some e → cs ad S X L wn sl fl c i = some e)
    (h1 : ∀ c i e, cs ad S X L wn sl fl c i = some e → h (ad c i) = some e ∧ O (ad c i))
    (hj : ∀ c i c2 i2, cs ad S X L wn sl fl c i ≠ none → cs ad S X L wn sl fl c2 i2 ≠ none → ad c i = ad c2 i2 → c = c2 ∧ i = i2)
    (h3 : ∀ r, r < 8 + (L 1).length → LL G h (ad 1 r) ((L r).map (ad (ek r))) (ed r) (cp r) ∧ cp r ≤ 400 ∧ O (ad 1 r) ∧ (0 < cp r → O (ed r)))
    (h4 : ∀ r r2, r < 8 + (L 1).length → r2 < 8 + (L 1).length → ad 1 r = ad 1 r2 → r = r2)
    (h5 : ∀ r r2, r < 8 + (L 1).length → r2 < 8 + (L 1).length → 0 < cp r → 0 < cp r2 → ed r = ed r2 → r = r2)
    (h6 : ∀ r, r < 8 + (L 1).length → ∀ x ∈ L r, cs ad S X L wn sl fl (ek r) x ≠ none)
    (hL : LL G h2 (ad 1 r) (l.map (ad (ek r))) ed2 cap2) (hc : cap2 ≤ 400) (hfr : ∀ b, b ≠ ad 1 r → (0 < cap2 → b ≠ ed2) → h2 b = h b) (hed : (ed2 = ed r ∧ cap2 = cp r) ∨ h ed2 = none) (hx : ∀ r2, r2 < 8 + (L 1).length → ∀ x ∈ (lset L r l) r2, cs ad S X (lset L r l) wn sl fl (ek r2) x ≠ none) :
    KR G O ad S X (lset L r l) wn sl fl h2 ∧ KF O h0 h2 := by
  have hO1 := (h3 r hr).2.2.1
  have hn : ∀ c i, cs ad S X (lset L r l) wn sl fl c i ≠ none → cs ad S X L wn sl fl c i ≠ none := by
    intro c i hz
    cases e : cs ad S X (lset L r l) wn sl fl c i with
    | none => exact absurd e hz
    | some y => rw [hcs c i y e]; exact fun z => by cases z
  have hO2 : 0 < cap2 → O ed2 := by
    intro hp
    rcases hed with ⟨e1, e2⟩ | e
    · rw [e1]
      exact (h3 r hr).2.2.2 (by omega)
    · exact hF.new e
  have hlen : ((lset L r l) 1).length = (L 1).length := by rw [lset_n (Ne.symm hr1)]
  -- an address that held something, is not the list's cell and not its row
  have hkeep : ∀ b e, h b = some e → b ≠ ad 1 r → (0 < cp r → b ≠ ed r) → h2 b = some e := by
    intro b e hb b1 b2
    rw [hfr b b1 (fun hp => ?_)]
    · exact hb
    · rcases hed with ⟨e1, e2⟩ | e3
      · rw [e1]
        exact b2 (by omega)
      · intro z
        rw [z, e3] at hb
        cases hb
  refine ⟨⟨fun x => if x = r then ed2 else ed x, fun x => if x = r then cap2 else cp x, fun c i e he => ?_, fun c i c2 i2 g1 g2 => ?_, fun r2 hr2 => ?_, ?_, ?_, ?_⟩, ⟨hF.1, fun b hb => ?_⟩⟩
  · replace he := hcs c i e he
    obtain ⟨q1, q2⟩ := h1 c i e he
    obtain ⟨n1, n2⟩ := cs_nl he
    refine ⟨hkeep _ e q1 (fun z => ?_) (fun hp z => ?_), q2⟩
    · obtain ⟨fs, hfs⟩ := (h3 r hr).1.ob
      rw [← z, q1] at hfs
      exact n1 fs (Option.some.inj hfs)
    · obtain ⟨f, hf⟩ := (h3 r hr).1.row hp
      rw [← z, q1] at hf
      exact n2 _ f (Option.some.inj hf)
  · exact hj c i c2 i2 (hn c i g1) (hn c2 i2 g2)
  · rw [hlen] at hr2
    by_cases e : r2 = r
    · subst e
      simp only [if_true, lset_s]
      exact ⟨hL, hc, hO1, hO2⟩
    · simp only [if_neg e, lset_n e]
      obtain ⟨g1, g2, g3, g4⟩ := h3 r2 hr2
      refine ⟨g1.same ?_ (fun hp => ?_), g2, g3, g4⟩
      · obtain ⟨fs, hfs⟩ := g1.ob
        rw [hkeep _ _ hfs (fun z => e (h4 r2 r hr2 hr z)) (fun hp z => ?_), hfs]
        obtain ⟨f, hf⟩ := (h3 r hr).1.row hp
        rw [← z, hfs] at hf
        cases hf
      · obtain ⟨f, hf⟩ := g1.row hp
        rw [hkeep _ _ hf (fun z => ?_) (fun hp2 z => e (h5 r2 r hr2 hr hp hp2 z)), hf]
        obtain ⟨fs, hfs⟩ := (h3 r hr).1.ob
        rw [← z, hf] at hfs
        cases hfs
  · rw [hlen]
    exact h4
  · rw [hlen]
    intro a b ha hb c1 c2 ee
    by_cases e1 : a = r
    · by_cases e2 : b = r
      · rw [e1, e2]
      · exfalso
        subst e1
        simp only [if_true, if_neg e2] at c1 c2 ee
        obtain ⟨f, hf⟩ := (h3 b hb).1.row c2
        rcases hed with ⟨q1, q2⟩ | q
        · exact e2 (h5 b a hb ha c2 (by omega) (by rw [← q1]; exact ee.symm))
        · rw [← ee, q] at hf
          cases hf
    · by_cases e2 : b = r
      · exfalso
        subst e2
        simp only [if_true, if_neg e1] at c1 c2 ee
        obtain ⟨f, hf⟩ := (h3 a ha).1.row c1
        rcases hed with ⟨q1, q2⟩ | q
        · exact e1 (h5 a b ha hb c1 (by omega) (by rw [← q1]; exact ee))
        · rw [ee, q] at hf
          cases hf
      · simp only [if_neg e1, if_neg e2] at c1 c2 ee
        exact h5 a b ha hb c1 c2 ee
  · rw [hlen]
    exact hx
  · rw [hfr b (fun z => hb (by rw [z]; exact hO1)) (fun hp z => hb (by rw [z]; exact hO2 hp))]
    exact hF.2 b hb
theorem er_range (k : Nat) : (List.range (k + 1)).eraseIdx k = List.range k := by
  rw [List.range_succ, List.eraseIdx_append_of_length_le (by rw [List.length_range]; exact Nat.le_refl _), List.length_range, Nat.sub_self]
  simp
theorem ek_8 {r : Nat} (h : ek r = 8) : r = 6 := by
  unfold ek at h
  split at h <;> first | rfl | (exact absurd h (by decide))
theorem cs_drop {n : Nat} (hn : n ≤ (L 6).length) : ∀ c i e, cs ad S X (lset L 6 (List.range n)) wn sl fl c i = some e → cs ad S X L wn sl fl c i = some e
  | 0, i, e, h => h
  | 1, i, e, h => h
  | 2, i, e, h => h
  | 3, i, e, h => h
  | 4, i, e, h => h
  | 5, i, e, h => h
  | 6, i, e, h => h
  | 7, i, e, h => h
  | 8, i, e, h => by
    obtain ⟨g1, g2⟩ := if_some (show (if i < (List.range n).length then some (Ob 8 (fRule ad X i)) else none) = some e from h)
    rw [List.length_range] at g1
    exact (if_pos (by omega)).trans (congrArg some g2)
  | 9, i, e, h => by
    obtain ⟨g1, g2⟩ := if_some (show (if i < (List.range n).length then some (Ai (sl i) (X.2 (100 + i))) else none) = some e from h)
    rw [List.length_range] at g1
    exact (if_pos (by omega)).trans (congrArg some g2)
  | 10, i, e, h => h
  | 11, i, e, h => h
  | 12, i, e, h => h
  | 13, i, e, h => h
  | 14, i, e, h => h
  | 15, i, e, h => h
  | 16, i, e, h => h
  | 17, i, e, h => h
  | n + 18, i, e, h => h
theorem KR.dropR {n : Nat} (hK : KR G O ad S X L wn sl fl h) (hF : KF O h0 h) (h6r : L 6 = List.range (n + 1)) :
    Ct Y_Jx4a65c_remove_915e3 (d + 2) G 0 0 [.ref (ad 1 6), .int (nI n)] h (fun v h2 => v = some (.ref (ad 8 n)) ∧ KR G O ad S X (lset L 6 (List.range n)) wn sl fl h2 ∧ KF O h0 h2) := by
  have hr : 6 < 8 + (L 1).length := by omega
  have hi : (L 6)[n]? = some n := by rw [h6r]; simp
  have hob2 : ∀ y ∈ (L 6).map (ad (ek 6)), isOb h y := by
    intro y hy
    obtain ⟨z, hz, rfl⟩ := List.mem_map.mp hy
    obtain ⟨ed, cp, h1, h2, h3, h4, h5, h6⟩ := id hK
    exact hK.obj (h6 6 hr z hz)
  have hne2 : ∀ y ∈ (L 6).map (ad (ek 6)), y ≠ ad 1 6 := by
    intro y hy
    obtain ⟨z, hz, rfl⟩ := List.mem_map.mp hy
    obtain ⟨ed, cp, h1, h2, h3, h4, h5, h6⟩ := id hK
    exact hK.ne1 hr (h6 6 hr z hz)
  obtain ⟨ed, cp, h1, h2, h3, h4, h5, h6⟩ := id hK
  refine (jl_removeL (h3 6 hr).1 (h3 6 hr).2.1 (q := ad (ek 6) n) (by rw [List.getElem?_map, hi]; rfl) hob2 hne2).weaken (fun v h2' z => ?_)
  obtain ⟨z1, z2, z3⟩ := z
  have hp : 0 < cp 6 := by
    obtain ⟨mc, f, -, hd⟩ := (h3 6 hr).1
    rcases hd with ⟨-, -, q⟩ | ⟨q, -⟩
    · rw [List.map_eq_nil_iff] at q
      rw [q] at hi
      simp at hi
    · exact q
  refine ⟨z1, KR.lstW (l := List.range n) hF hr (by decide) (cs_drop (by rw [h6r, List.length_range]; omega)) h1 h2 h3 h4 h5 h6 (ed2 := ed 6) (cap2 := cp 6) (by rw [← er_range n, map_erase, ← h6r]; exact z2) (h3 6 hr).2.1 (fun b b1 b2 => z3 b b1 (b2 hp)) (Or.inl ⟨rfl, rfl⟩) (fun r2 hr2 x hx => ?_)⟩
  by_cases e : r2 = 6
  · subst e
    rw [lset_s] at hx
    show (if x < (lset L 6 (List.range n) 6).length then some (Ob 8 (fRule ad X x)) else none) ≠ none
    rw [lset_s, List.length_range, if_pos (List.mem_range.mp hx)]
    exact fun z => by cases z
  · rw [lset_n e] at hx
    have g := h6 r2 hr2 x hx
    have t := ek_r r2
    have t8 : ek r2 ≠ 8 := fun z => e (ek_8 z)
    revert g
    generalize ek r2 = c at t t8
    obtain ⟨t1, t2⟩ := t
    match c, t1, t2 with
    | 3, _, _ => exact fun z => z
    | 4, _, _ => exact fun z => z
    | 5, _, _ => exact fun z => z
    | 6, _, _ => exact fun z => z
    | 7, _, _ => exact fun z => z
    | 8, _, _ => exact absurd rfl t8
end KLW
def a_drop (L : Nat → List Nat) : Int32 := if (L 6).length = 0 then -3 else nI ((L 6).length - 1)
theorem c_drop {G : Nat → Nat} {O : Nat → Prop} {ad : Nat → Nat → Nat} {S X : MS} {L : Nat → List Nat} {wn : Nat → Option Nat} {sl : Nat → Nat} {fl : Nat} {h h0 : AH} {d : Nat} (hK : KR G O ad S X L wn sl fl h) (hF : KF O h0 h) (h6r : L 6 = List.range (L 6).length) (hb6 : (L 6).length ≤ 10) : Ct Y_X11_drop (d + 3) G 0 0 [.ref (ad 0 0)] h (fun r h2 => r = some (.int (a_drop L)) ∧ ((¬ (L 6).length = 0 ∧ KR G O ad S X (lset L 6 (List.range ((L 6).length - 1))) wn sl fl h2 ∧ KF O h0 h2) ∨ ((L 6).length = 0 ∧ KR G O ad S X L wn sl fl h2 ∧ KF O h0 h2))) := by
  refine Ct.ofn 1 rfl (Nat.le_of_ble_eq_true rfl) (by simp [Value.category]) ?_
  generalize hpost : (fun (r : Option Value) (h2 : AH) => r = some (.int (a_drop L)) ∧ ((¬ (L 6).length = 0 ∧ KR G O ad S X (lset L 6 (List.range ((L 6).length - 1))) wn sl fl h2 ∧ KF O h0 h2) ∨ ((L 6).length = 0 ∧ KR G O ad S X L wn sl fl h2 ∧ KF O h0 h2))) = post
  show J Y_X11_drop (d + 3) G 0 0 0 [some (.ref (ad 0 0)), none] [] h post
  refine J.aload_n 1 dX11_drop_0 rfl rfl ?_
  refine gf_X11_45 rfl 4 dX11_drop_1 rfl (hK.hut) (v := .ref (ad 12 0)) rfl ?_
  refine gf_X11_111 rfl 7 dX11_drop_4 rfl (hK.book) (v := .ref (ad 1 6)) rfl ?_
  refine cv_X11_79 rfl 10 (hK.size (by omega)) dX11_drop_7 rfl (hK.listOb (r := 6) (by omega)).choose_spec rfl rfl (Nat.le_of_ble_eq_true rfl) (Nat.zero_le _) (Nat.zero_le _) (fun r h2 hp => ?_)
  obtain ⟨rfl, rfl⟩ := hp
  refine J.iconst 1 11 dX11_drop_10 rfl (by decide) ?_
  refine J.isub 12 dX11_drop_11 rfl ?_
  refine J.ist_1 13 dX11_drop_12 rfl (by decide) ?_
  refine J.iload_n 14 dX11_drop_13 rfl rfl ?_
  refine J.if_ge 20 17 dX11_drop_14 (by decide) rfl (fun c1 => ?_) (fun c1 => ?_)
  · skip
    have hz : ¬ (L 6).length = 0 := fun z => absurd c1 (by rw [z]; decide)
    refine J.aload_n 21 dX11_drop_20 rfl rfl ?_
    refine gf_X11_45 rfl 24 dX11_drop_21 rfl (hK.hut) (v := .ref (ad 12 0)) rfl ?_
    refine gf_X11_111 rfl 27 dX11_drop_24 rfl (hK.book) (v := .ref (ad 1 6)) rfl ?_
    refine J.iload_n 28 dX11_drop_27 rfl rfl ?_
    obtain ⟨n, hn⟩ : ∃ n, (L 6).length = n + 1 := ⟨(L 6).length - 1, by omega⟩
    have kr := hK.dropR (d := d) (h0 := h0) (n := n) hF (by rw [← hn]; exact h6r)
    rw [show nI n = nI (L 6).length - 1 from by rw [hn, nI_m1]] at kr
    refine cv_X11_121 rfl 31 kr dX11_drop_28 rfl (hK.listOb (r := 6) (by omega)).choose_spec rfl rfl (Nat.le_of_ble_eq_true rfl) (Nat.zero_le _) (Nat.zero_le _) (fun r h hp => ?_)
    obtain ⟨rfl, hK, hF⟩ := hp
    refine J.pop 32 dX11_drop_31 rfl rfl ?_
    refine J.iload_n 33 dX11_drop_32 rfl rfl ?_
    exact J.iret dX11_drop_33 rfl (by rw [← hpost]; exact ⟨by rw [a_drop, if_neg hz, hn, nI_m1]; rfl, Or.inl ⟨hz, by rw [hn]; exact hK, hF⟩⟩)
  · skip
    have hz : (L 6).length = 0 := by
      cases e : (L 6).length with
      | zero => rfl
      | succ k => rw [e, nI_m1] at c1; exact absurd (nI_le (a := 0) (Nat.zero_le k) (by omega)) c1
    refine J.bipush (-3) 19 dX11_drop_17 rfl (by decide) ?_
    exact J.iret dX11_drop_19 rfl (by rw [← hpost]; exact ⟨by rw [a_drop, if_pos hz], Or.inr ⟨hz, hK, hF⟩⟩)
