/-! the component's picture. Kinds of address: 0 the office; 1 lists (0 places, 1 machines, 2 pilots, 3 loads, 4 flights, 5 riders, 6 rules, 7 packed, 8 + m what hangs on m); 3 Place, 4 Machine, 5 Pilot, 6 Load, 7 Flight, 8 Rule, 9 its steps; 10 Weather, 11 Tape, 12 RuleBook, 13 Packer, 14 OrderSearch; 15 int rows; 16 earliest; 17 wanted -/
def fHut (ad : Nat → Nat → Nat) (S : MS) : List Value := [.ref (ad 1 0), .ref (ad 1 1), .ref (ad 1 2), .ref (ad 1 3), .ref (ad 1 4), .ref (ad 10 0), .ref (ad 11 0), .ref (ad 12 0), .ref (ad 13 0), .ref (ad 14 0), .ref (ad 1 5), .int (S.1 0)]
def fPlace (S : MS) (i : Nat) : List Value := [.int (nI i), .int (S.2 1 i), .int (S.2 2 i)]
def fMach (ad : Nat → Nat → Nat) (S : MS) (i : Nat) : List Value := [.int (S.2 7 i), .int (S.2 8 i), .ref (ad 1 (8 + i)), .int (S.2 9 i), .int (S.2 10 i)]
def fPil (S : MS) (i : Nat) : List Value := [.int (S.2 12 i), .int (S.2 13 i), .int (S.2 14 i), .int (S.2 15 i)]
def fLoad (S X : MS) (i : Nat) : List Value := [.int (nI i), .int (S.2 20 i), .int (S.2 17 i), .int (S.2 19 i), .int (S.2 18 i), .int (S.2 21 i), .int (S.2 22 i), .int (S.2 23 i), .int (S.2 24 i), .int (S.2 25 i), .int (X.2 0 i), .int (S.2 26 i), .int (S.2 27 i)]
def fFlt (S : MS) (i : Nat) : List Value := [.int (S.2 36 i), .int (S.2 37 i), .int (S.2 38 i), .int (S.2 39 i), .int (S.2 40 i), .int (S.2 41 i), .int (S.2 42 i), .int (S.2 43 i), .int (S.2 44 i)]
def fRule (ad : Nat → Nat → Nat) (X : MS) (i : Nat) : List Value := [.ref (ad 9 i), .int (X.2 8 i), .int (X.2 9 i), .int (X.2 10 i)]
def fWea (ad : Nat → Nat → Nat) : List Value := [.ref (ad 15 0), .ref (ad 15 1), .ref (ad 15 2)]
def fTape (ad : Nat → Nat → Nat) (S : MS) : List Value := [.ref (ad 15 3), .int (S.1 30)]
def fBook (ad : Nat → Nat → Nat) (X : MS) : List Value := [.ref (ad 1 6), .ref (ad 15 4), .ref (ad 15 5), .int (X.1 0)]
def fPack (ad : Nat → Nat → Nat) (X : MS) : List Value := [.ref (ad 1 7), .ref (ad 15 6), .ref (ad 15 7), .int (X.1 1), .int (X.1 2)]
def fSea (ad : Nat → Nat → Nat) (X : MS) : List Value := [.ref (ad 17 0), .ref (ad 15 8), .ref (ad 15 9), .ref (ad 16 0), .int (X.1 3), .int (X.1 4), .int (X.1 5), .int (X.1 6)]
def aCell (S X : MS) (i : Nat) : Option AE := match i with
  | 0 => some (Ai 12 (S.2 4))
  | 1 => some (Ai 12 (S.2 5))
  | 2 => some (Ai 12 (S.2 6))
  | 3 => some (Ai 60 (S.2 29))
  | 4 => some (Ai 11 (X.2 1))
  | 5 => some (Ai 20 (X.2 2))
  | 6 => some (Ai 9 (X.2 3))
  | 7 => some (Ai 9 (X.2 4))
  | 8 => some (Ai 5 (X.2 5))
  | 9 => some (Ai 5 (X.2 6))
  | _ => none
def cs (ad : Nat → Nat → Nat) (S X : MS) (L : Nat → List Nat) (wn : Nat → Option Nat) (sl : Nat → Nat) (fl : Nat) (c i : Nat) : Option AE := match c with
  | 0 => if i = 0 then some (Ob 12 (fHut ad S)) else none
  | 3 => if i < (L 0).length then some (Ob 7 (fPlace S i)) else none
  | 4 => if i < (L 1).length then some (Ob 3 (fMach ad S i)) else none
  | 5 => if i < (L 2).length then some (Ob 6 (fPil S i)) else none
  | 6 => if i < (L 3).length then some (Ob 2 (fLoad S X i)) else none
  | 7 => if i < fl then some (Ob 1 (fFlt S i)) else none
  | 8 => if i < (L 6).length then some (Ob 8 (fRule ad X i)) else none
  | 9 => if i < (L 6).length then some (Ai (sl i) (X.2 (100 + i))) else none
  | 10 => if i = 0 then some (Ob 11 (fWea ad)) else none
  | 11 => if i = 0 then some (Ob 10 (fTape ad S)) else none
  | 12 => if i = 0 then some (Ob 9 (fBook ad X)) else none
  | 13 => if i = 0 then some (Ob 5 (fPack ad X)) else none
  | 14 => if i = 0 then some (Ob 4 (fSea ad X)) else none
  | 15 => aCell S X i
  | 16 => if i = 0 then some (Ai 32 (X.2 7)) else none
  | 17 => if i = 0 then some (Aq "HutLift$Place" 5 (fun j => (wn j).map (ad 3))) else none
  | _ => none
def ek (r : Nat) : Nat := match r with
  | 0 => 3
  | 1 => 4
  | 2 => 5
  | 4 => 7
  | 6 => 8
  | _ => 6
def KR (G : Nat → Nat) (O : Nat → Prop) (ad : Nat → Nat → Nat) (S X : MS) (L : Nat → List Nat) (wn : Nat → Option Nat) (sl : Nat → Nat) (fl : Nat) (h : AH) : Prop := ∃ ed cp : Nat → Nat,
  (∀ c i e, cs ad S X L wn sl fl c i = some e → h (ad c i) = some e ∧ O (ad c i)) ∧
  (∀ c i c2 i2, cs ad S X L wn sl fl c i ≠ none → cs ad S X L wn sl fl c2 i2 ≠ none → ad c i = ad c2 i2 → c = c2 ∧ i = i2) ∧
  (∀ r, r < 8 + (L 1).length → LL G h (ad 1 r) ((L r).map (ad (ek r))) (ed r) (cp r) ∧ cp r ≤ 400 ∧ O (ad 1 r) ∧ (0 < cp r → O (ed r))) ∧
  (∀ r r2, r < 8 + (L 1).length → r2 < 8 + (L 1).length → ad 1 r = ad 1 r2 → r = r2) ∧
  (∀ r r2, r < 8 + (L 1).length → r2 < 8 + (L 1).length → 0 < cp r → 0 < cp r2 → ed r = ed r2 → r = r2) ∧
  (∀ r, r < 8 + (L 1).length → ∀ x ∈ L r, cs ad S X L wn sl fl (ek r) x ≠ none)
def KF (O : Nat → Prop) (h0 h : AH) : Prop := (∀ b, h0 b = none → O b) ∧ ∀ b, ¬ O b → h b = h0 b
theorem KF.hu {O : Nat → Prop} {h0 h : AH} {a : Nat} {e : AE} (hF : KF O h0 h) (ha : O a) : KF O h0 (hu h a e) := ⟨hF.1, fun b hb => by rw [hu_n (fun z => hb (by rw [z]; exact ha))]; exact hF.2 b hb⟩
theorem KF.new {O : Nat → Prop} {h0 h : AH} {q : Nat} (hF : KF O h0 h) (hq : h q = none) : O q := Classical.byContradiction (fun z => z (hF.1 q (by rw [← hF.2 q z]; exact hq)))
theorem LL.ob {G : Nat → Nat} {h : AH} {a ed cap : Nat} {L : List Nat} (hL : LL G h a L ed cap) : ∃ fs, h a = some (Ob 0 fs) := by
  obtain ⟨mc, f, ha, -⟩ := hL
  exact ⟨_, ha⟩
theorem LL.row {G : Nat → Nat} {h : AH} {a ed cap : Nat} {L : List Nat} (hL : LL G h a L ed cap) (hc : 0 < cap) : ∃ f, h ed = some (Aq "java/lang/Object" cap f) := by
  obtain ⟨mc, f, ha, hd⟩ := hL
  rcases hd with ⟨z, -⟩ | ⟨-, -, z, -⟩
  · omega
  · exact ⟨f, z⟩
theorem LL.same {G : Nat → Nat} {h h2 : AH} {a ed cap : Nat} {L : List Nat} (hL : LL G h a L ed cap) (h1 : h2 a = h a) (h3 : 0 < cap → h2 ed = h ed) : LL G h2 a L ed cap := by
  obtain ⟨mc, f, ha, hd⟩ := hL
  refine ⟨mc, f, h1.trans ha, ?_⟩
  rcases hd with z | ⟨z1, z2, z3, z4⟩
  · exact Or.inl z
  · exact Or.inr ⟨z1, z2, (h3 z1).trans z3, z4⟩
/-- a cell of the picture is no list and no list's row -/
def nlE (e : AE) : Prop := (∀ fs, e ≠ Ob 0 fs) ∧ ∀ n f, e ≠ Aq "java/lang/Object" n f
theorem aCell_nl {S X : MS} : ∀ {i : Nat} {e : AE}, aCell S X i = some e → nlE e
  | 0, e, h => by cases h; exact ⟨fun fs z => (by cases z), fun n f z => (by first | (cases z; done) | (simp at z))⟩
  | 1, e, h => by cases h; exact ⟨fun fs z => (by cases z), fun n f z => (by first | (cases z; done) | (simp at z))⟩
  | 2, e, h => by cases h; exact ⟨fun fs z => (by cases z), fun n f z => (by first | (cases z; done) | (simp at z))⟩
  | 3, e, h => by cases h; exact ⟨fun fs z => (by cases z), fun n f z => (by first | (cases z; done) | (simp at z))⟩
  | 4, e, h => by cases h; exact ⟨fun fs z => (by cases z), fun n f z => (by first | (cases z; done) | (simp at z))⟩
  | 5, e, h => by cases h; exact ⟨fun fs z => (by cases z), fun n f z => (by first | (cases z; done) | (simp at z))⟩
  | 6, e, h => by cases h; exact ⟨fun fs z => (by cases z), fun n f z => (by first | (cases z; done) | (simp at z))⟩
  | 7, e, h => by cases h; exact ⟨fun fs z => (by cases z), fun n f z => (by first | (cases z; done) | (simp at z))⟩
  | 8, e, h => by cases h; exact ⟨fun fs z => (by cases z), fun n f z => (by first | (cases z; done) | (simp at z))⟩
  | 9, e, h => by cases h; exact ⟨fun fs z => (by cases z), fun n f z => (by first | (cases z; done) | (simp at z))⟩
  | n + 10, e, h => by cases h
theorem if_some {p : Prop} [Decidable p] {x e : AE} (h : (if p then some x else none) = some e) : p ∧ x = e := by
  by_cases hp : p
  · rw [if_pos hp] at h
    exact ⟨hp, Option.some.inj h⟩
  · rw [if_neg hp] at h
    cases h
theorem cs_nl {ad : Nat → Nat → Nat} {S X : MS} {L : Nat → List Nat} {wn : Nat → Option Nat} {sl : Nat → Nat} {fl : Nat} : ∀ {c i : Nat} {e : AE}, cs ad S X L wn sl fl c i = some e → nlE e
  | 0, i, e, h => by obtain ⟨-, rfl⟩ := if_some h; exact ⟨fun fs z => (by cases z), fun n f z => (by first | (cases z; done) | (simp at z))⟩
  | 1, i, e, h => by cases h
  | 2, i, e, h => by cases h
  | 3, i, e, h => by obtain ⟨-, rfl⟩ := if_some h; exact ⟨fun fs z => (by cases z), fun n f z => (by first | (cases z; done) | (simp at z))⟩
  | 4, i, e, h => by obtain ⟨-, rfl⟩ := if_some h; exact ⟨fun fs z => (by cases z), fun n f z => (by first | (cases z; done) | (simp at z))⟩
  | 5, i, e, h => by obtain ⟨-, rfl⟩ := if_some h; exact ⟨fun fs z => (by cases z), fun n f z => (by first | (cases z; done) | (simp at z))⟩
  | 6, i, e, h => by obtain ⟨-, rfl⟩ := if_some h; exact ⟨fun fs z => (by cases z), fun n f z => (by first | (cases z; done) | (simp at z))⟩
  | 7, i, e, h => by obtain ⟨-, rfl⟩ := if_some h; exact ⟨fun fs z => (by cases z), fun n f z => (by first | (cases z; done) | (simp at z))⟩
  | 8, i, e, h => by obtain ⟨-, rfl⟩ := if_some h; exact ⟨fun fs z => (by cases z), fun n f z => (by first | (cases z; done) | (simp at z))⟩
  | 9, i, e, h => by obtain ⟨-, rfl⟩ := if_some h; exact ⟨fun fs z => (by cases z), fun n f z => (by first | (cases z; done) | (simp at z))⟩
  | 10, i, e, h => by obtain ⟨-, rfl⟩ := if_some h; exact ⟨fun fs z => (by cases z), fun n f z => (by first | (cases z; done) | (simp at z))⟩
  | 11, i, e, h => by obtain ⟨-, rfl⟩ := if_some h; exact ⟨fun fs z => (by cases z), fun n f z => (by first | (cases z; done) | (simp at z))⟩
  | 12, i, e, h => by obtain ⟨-, rfl⟩ := if_some h; exact ⟨fun fs z => (by cases z), fun n f z => (by first | (cases z; done) | (simp at z))⟩
  | 13, i, e, h => by obtain ⟨-, rfl⟩ := if_some h; exact ⟨fun fs z => (by cases z), fun n f z => (by first | (cases z; done) | (simp at z))⟩
  | 14, i, e, h => by obtain ⟨-, rfl⟩ := if_some h; exact ⟨fun fs z => (by cases z), fun n f z => (by first | (cases z; done) | (simp at z))⟩
  | 15, i, e, h => aCell_nl h
  | 16, i, e, h => by obtain ⟨-, rfl⟩ := if_some h; exact ⟨fun fs z => (by cases z), fun n f z => (by first | (cases z; done) | (simp at z))⟩
  | 17, i, e, h => by obtain ⟨-, rfl⟩ := if_some h; exact ⟨fun fs z => (by cases z), fun n f z => (by first | (cases z; done) | (simp at z))⟩
  | n + 18, i, e, h => by cases h
section KRS
variable {G : Nat → Nat} {O : Nat → Prop} {ad : Nat → Nat → Nat} {S X : MS} {L : Nat → List Nat} {wn : Nat → Option Nat} {sl : Nat → Nat} {fl : Nat} {h : AH} {h0 : AH}
theorem KR.cell (hK : KR G O ad S X L wn sl fl h) {c i : Nat} {e : AE} (hc : cs ad S X L wn sl fl c i = some e) : h (ad c i) = some e := by
  obtain ⟨ed, cp, h1, -⟩ := hK
  exact (h1 c i e hc).1
theorem KR.own (hK : KR G O ad S X L wn sl fl h) {c i : Nat} {e : AE} (hc : cs ad S X L wn sl fl c i = some e) : O (ad c i) := by
  obtain ⟨ed, cp, h1, -⟩ := hK
  exact (h1 c i e hc).2
/-- behind a write to one cell -/
theorem KR.set {S2 X2 : MS} {wn2 : Nat → Option Nat} {c i : Nat} {e0 e1 : AE} (hK : KR G O ad S X L wn sl fl h) (hc : cs ad S X L wn sl fl c i = some e0) (hcs : ∀ c2 i2, cs ad S2 X2 L wn2 sl fl c2 i2 = if c2 = c ∧ i2 = i then some e1 else cs ad S X L wn sl fl c2 i2) : KR G O ad S2 X2 L wn2 sl fl (hu h (ad c i) e1) := by
  obtain ⟨ed, cp, h1, h2, h3, h4, h5, h6⟩ := hK
  have hn : ∀ c2 i2, cs ad S2 X2 L wn2 sl fl c2 i2 ≠ none → cs ad S X L wn sl fl c2 i2 ≠ none := by
    intro c2 i2 hz
    rw [hcs c2 i2] at hz
    by_cases q : c2 = c ∧ i2 = i
    · rw [q.1, q.2, hc]
      exact fun z => by cases z
    · rw [if_neg q] at hz
      exact hz
  have ho := (h1 c i e0 hc)
  obtain ⟨n1, n2⟩ := cs_nl hc
  refine ⟨ed, cp, fun c2 i2 e he => ?_, fun c2 i2 c3 i3 g1 g2 => h2 c2 i2 c3 i3 (hn _ _ g1) (hn _ _ g2), fun r hr => ?_, h4, h5, fun r hr x hx => ?_⟩
  · rw [hcs c2 i2] at he
    by_cases q : c2 = c ∧ i2 = i
    · rw [if_pos q] at he
      cases he
      rw [q.1, q.2]
      exact ⟨hu_s, ho.2⟩
    · rw [if_neg q] at he
      obtain ⟨e2, e3⟩ := h1 c2 i2 e he
      refine ⟨?_, e3⟩
      rw [hu_n (fun z => q (h2 c2 i2 c i (by rw [he]; exact fun y => by cases y) (by rw [hc]; exact fun y => by cases y) z))]
      exact e2
  · obtain ⟨g1, g2, g3, g4⟩ := h3 r hr
    refine ⟨g1.same ?_ (fun hp => ?_), g2, g3, g4⟩
    · obtain ⟨fs, hfs⟩ := g1.ob
      rw [hu_n (fun z => by rw [z, ho.1] at hfs; exact n1 fs (Option.some.inj hfs))]
    · obtain ⟨f, hf⟩ := g1.row hp
      rw [hu_n (fun z => by rw [z, ho.1] at hf; exact n2 _ f (Option.some.inj hf))]
  · rw [hcs]
    split
    · exact fun z => by cases z
    · exact h6 r hr x hx
theorem KR.same {h2 : AH} (hK : KR G O ad S X L wn sl fl h) (hs : ∀ b, O b → h2 b = h b) : KR G O ad S X L wn sl fl h2 := by
  obtain ⟨ed, cp, h1, h2', h3, h4, h5, h6⟩ := hK
  refine ⟨ed, cp, fun c i e he => ⟨(hs _ (h1 c i e he).2).trans (h1 c i e he).1, (h1 c i e he).2⟩, h2', fun r hr => ?_, h4, h5, h6⟩
  obtain ⟨g1, g2, g3, g4⟩ := h3 r hr
  exact ⟨g1.same (hs _ g3) (fun hp => hs _ (g4 hp)), g2, g3, g4⟩
theorem cs_hut : cs ad S X L wn sl fl 0 0 = some (Ob 12 (fHut ad S)) := rfl
theorem KR.hut (hK : KR G O ad S X L wn sl fl h) : h (ad 0 0) = some (Ob 12 (fHut ad S)) := hK.cell cs_hut
theorem cs_place {i : Nat} (hi : i < (L 0).length) : cs ad S X L wn sl fl 3 i = some (Ob 7 (fPlace S i)) := if_pos hi
theorem KR.place (hK : KR G O ad S X L wn sl fl h) {i : Nat} (hi : i < (L 0).length) : h (ad 3 i) = some (Ob 7 (fPlace S i)) := hK.cell (cs_place hi)
theorem cs_mach {i : Nat} (hi : i < (L 1).length) : cs ad S X L wn sl fl 4 i = some (Ob 3 (fMach ad S i)) := if_pos hi
theorem KR.mach (hK : KR G O ad S X L wn sl fl h) {i : Nat} (hi : i < (L 1).length) : h (ad 4 i) = some (Ob 3 (fMach ad S i)) := hK.cell (cs_mach hi)
theorem cs_pil {i : Nat} (hi : i < (L 2).length) : cs ad S X L wn sl fl 5 i = some (Ob 6 (fPil S i)) := if_pos hi
theorem KR.pil (hK : KR G O ad S X L wn sl fl h) {i : Nat} (hi : i < (L 2).length) : h (ad 5 i) = some (Ob 6 (fPil S i)) := hK.cell (cs_pil hi)
theorem cs_load {i : Nat} (hi : i < (L 3).length) : cs ad S X L wn sl fl 6 i = some (Ob 2 (fLoad S X i)) := if_pos hi
theorem KR.load (hK : KR G O ad S X L wn sl fl h) {i : Nat} (hi : i < (L 3).length) : h (ad 6 i) = some (Ob 2 (fLoad S X i)) := hK.cell (cs_load hi)
theorem cs_flt {i : Nat} (hi : i < fl) : cs ad S X L wn sl fl 7 i = some (Ob 1 (fFlt S i)) := if_pos hi
theorem KR.flt (hK : KR G O ad S X L wn sl fl h) {i : Nat} (hi : i < fl) : h (ad 7 i) = some (Ob 1 (fFlt S i)) := hK.cell (cs_flt hi)
theorem cs_rule {i : Nat} (hi : i < (L 6).length) : cs ad S X L wn sl fl 8 i = some (Ob 8 (fRule ad X i)) := if_pos hi
theorem KR.rule (hK : KR G O ad S X L wn sl fl h) {i : Nat} (hi : i < (L 6).length) : h (ad 8 i) = some (Ob 8 (fRule ad X i)) := hK.cell (cs_rule hi)
theorem cs_steps {i : Nat} (hi : i < (L 6).length) : cs ad S X L wn sl fl 9 i = some (Ai (sl i) (X.2 (100 + i))) := if_pos hi
theorem KR.steps (hK : KR G O ad S X L wn sl fl h) {i : Nat} (hi : i < (L 6).length) : h (ad 9 i) = some (Ai (sl i) (X.2 (100 + i))) := hK.cell (cs_steps hi)
theorem cs_wea : cs ad S X L wn sl fl 10 0 = some (Ob 11 (fWea ad)) := rfl
theorem KR.wea (hK : KR G O ad S X L wn sl fl h) : h (ad 10 0) = some (Ob 11 (fWea ad)) := hK.cell cs_wea
theorem cs_tape : cs ad S X L wn sl fl 11 0 = some (Ob 10 (fTape ad S)) := rfl
theorem KR.tape (hK : KR G O ad S X L wn sl fl h) : h (ad 11 0) = some (Ob 10 (fTape ad S)) := hK.cell cs_tape
theorem cs_book : cs ad S X L wn sl fl 12 0 = some (Ob 9 (fBook ad X)) := rfl
theorem KR.book (hK : KR G O ad S X L wn sl fl h) : h (ad 12 0) = some (Ob 9 (fBook ad X)) := hK.cell cs_book
theorem cs_pack : cs ad S X L wn sl fl 13 0 = some (Ob 5 (fPack ad X)) := rfl
theorem KR.pack (hK : KR G O ad S X L wn sl fl h) : h (ad 13 0) = some (Ob 5 (fPack ad X)) := hK.cell cs_pack
theorem cs_sea : cs ad S X L wn sl fl 14 0 = some (Ob 4 (fSea ad X)) := rfl
theorem KR.sea (hK : KR G O ad S X L wn sl fl h) : h (ad 14 0) = some (Ob 4 (fSea ad X)) := hK.cell cs_sea
theorem cs_taken : cs ad S X L wn sl fl 16 0 = some (Ai 32 (X.2 7)) := rfl
theorem KR.taken (hK : KR G O ad S X L wn sl fl h) : h (ad 16 0) = some (Ai 32 (X.2 7)) := hK.cell cs_taken
theorem cs_wanted : cs ad S X L wn sl fl 17 0 = some (Aq "HutLift$Place" 5 (fun j => (wn j).map (ad 3))) := rfl
theorem KR.wanted (hK : KR G O ad S X L wn sl fl h) : h (ad 17 0) = some (Aq "HutLift$Place" 5 (fun j => (wn j).map (ad 3))) := hK.cell cs_wanted
theorem KR.arr0 (hK : KR G O ad S X L wn sl fl h) : h (ad 15 0) = some (Ai 12 (S.2 4)) := hK.cell (c := 15) (i := 0) rfl
theorem KR.arr1 (hK : KR G O ad S X L wn sl fl h) : h (ad 15 1) = some (Ai 12 (S.2 5)) := hK.cell (c := 15) (i := 1) rfl
theorem KR.arr2 (hK : KR G O ad S X L wn sl fl h) : h (ad 15 2) = some (Ai 12 (S.2 6)) := hK.cell (c := 15) (i := 2) rfl
theorem KR.arr3 (hK : KR G O ad S X L wn sl fl h) : h (ad 15 3) = some (Ai 60 (S.2 29)) := hK.cell (c := 15) (i := 3) rfl
theorem KR.arr4 (hK : KR G O ad S X L wn sl fl h) : h (ad 15 4) = some (Ai 11 (X.2 1)) := hK.cell (c := 15) (i := 4) rfl
theorem KR.arr5 (hK : KR G O ad S X L wn sl fl h) : h (ad 15 5) = some (Ai 20 (X.2 2)) := hK.cell (c := 15) (i := 5) rfl
theorem KR.arr6 (hK : KR G O ad S X L wn sl fl h) : h (ad 15 6) = some (Ai 9 (X.2 3)) := hK.cell (c := 15) (i := 6) rfl
theorem KR.arr7 (hK : KR G O ad S X L wn sl fl h) : h (ad 15 7) = some (Ai 9 (X.2 4)) := hK.cell (c := 15) (i := 7) rfl
theorem KR.arr8 (hK : KR G O ad S X L wn sl fl h) : h (ad 15 8) = some (Ai 5 (X.2 5)) := hK.cell (c := 15) (i := 8) rfl
theorem KR.arr9 (hK : KR G O ad S X L wn sl fl h) : h (ad 15 9) = some (Ai 5 (X.2 6)) := hK.cell (c := 15) (i := 9) rfl
theorem kc_6_7 {i : Nat} {v : Int32} (hi : i < (L 3).length) : ∀ c2 i2, cs ad (S.1, u2 S.2 23 i v) X L wn sl fl c2 i2 = if c2 = 6 ∧ i2 = i then some (Ob 2 ((fLoad S X i).set 7 (.int v))) else cs ad S X L wn sl fl c2 i2
  | 0, i2 => rfl
  | 1, i2 => rfl
  | 2, i2 => rfl
  | 3, i2 => rfl
  | 4, i2 => rfl
  | 5, i2 => rfl
  | 6, i2 => by
    by_cases e : i2 = i
    · subst e
      rw [if_pos ⟨rfl, rfl⟩]
      show (if i2 < (L 3).length then some (Ob 2 [.int (nI i2), .int (S.2 20 i2), .int (S.2 17 i2), .int (S.2 19 i2), .int (S.2 18 i2), .int (S.2 21 i2), .int (S.2 22 i2), .int (upd (S.2 23) i2 v i2), .int (S.2 24 i2), .int (S.2 25 i2), .int (X.2 0 i2), .int (S.2 26 i2), .int (S.2 27 i2)]) else none) = some (Ob 2 [.int (nI i2), .int (S.2 20 i2), .int (S.2 17 i2), .int (S.2 19 i2), .int (S.2 18 i2), .int (S.2 21 i2), .int (S.2 22 i2), .int v, .int (S.2 24 i2), .int (S.2 25 i2), .int (X.2 0 i2), .int (S.2 26 i2), .int (S.2 27 i2)])
      rw [if_pos hi, pk_us]
    · rw [if_neg (fun z => e z.2)]
      show (if i2 < (L 3).length then some (Ob 2 [.int (nI i2), .int (S.2 20 i2), .int (S.2 17 i2), .int (S.2 19 i2), .int (S.2 18 i2), .int (S.2 21 i2), .int (S.2 22 i2), .int (upd (S.2 23) i v i2), .int (S.2 24 i2), .int (S.2 25 i2), .int (X.2 0 i2), .int (S.2 26 i2), .int (S.2 27 i2)]) else none) = (if i2 < (L 3).length then some (Ob 2 [.int (nI i2), .int (S.2 20 i2), .int (S.2 17 i2), .int (S.2 19 i2), .int (S.2 18 i2), .int (S.2 21 i2), .int (S.2 22 i2), .int (S.2 23 i2), .int (S.2 24 i2), .int (S.2 25 i2), .int (X.2 0 i2), .int (S.2 26 i2), .int (S.2 27 i2)]) else none)
      rw [pk_un e]
  | 7, i2 => rfl
  | 8, i2 => rfl
  | 9, i2 => rfl
  | 10, i2 => rfl
  | 11, i2 => rfl
  | 12, i2 => rfl
  | 13, i2 => rfl
  | 14, i2 => rfl
  | 15, i2 => rfl
  | 16, i2 => rfl
  | 17, i2 => rfl
  | n + 18, i2 => rfl
theorem ks_6_7 {i : Nat} {v : Int32} (hi : i < (L 3).length) {Y : YM} {d kc ks pc : Nat} {lv : List (Option Value)} {st : List Value} {post : Option Value → AH → Prop} (hK : KR G O ad S X L wn sl fl h) (hF : KF O h0 h) (kk : ∀ h, KR G O ad (S.1, u2 S.2 23 i v) X L wn sl fl h → KF O h0 h → J Y d G kc ks pc lv st h post) : J Y d G kc ks pc lv st (hu h (ad 6 i) (.inr (2, (fLoad S X i).set 7 (.int v)))) post := by
  exact kk _ (hK.set (cs_load hi) (kc_6_7 hi)) (hF.hu (hK.own (cs_load hi)))
theorem kc_6_8 {i : Nat} {v : Int32} (hi : i < (L 3).length) : ∀ c2 i2, cs ad (S.1, u2 S.2 24 i v) X L wn sl fl c2 i2 = if c2 = 6 ∧ i2 = i then some (Ob 2 ((fLoad S X i).set 8 (.int v))) else cs ad S X L wn sl fl c2 i2
  | 0, i2 => rfl
  | 1, i2 => rfl
  | 2, i2 => rfl
  | 3, i2 => rfl
  | 4, i2 => rfl
  | 5, i2 => rfl
  | 6, i2 => by
    by_cases e : i2 = i
    · subst e
      rw [if_pos ⟨rfl, rfl⟩]
      show (if i2 < (L 3).length then some (Ob 2 [.int (nI i2), .int (S.2 20 i2), .int (S.2 17 i2), .int (S.2 19 i2), .int (S.2 18 i2), .int (S.2 21 i2), .int (S.2 22 i2), .int (S.2 23 i2), .int (upd (S.2 24) i2 v i2), .int (S.2 25 i2), .int (X.2 0 i2), .int (S.2 26 i2), .int (S.2 27 i2)]) else none) = some (Ob 2 [.int (nI i2), .int (S.2 20 i2), .int (S.2 17 i2), .int (S.2 19 i2), .int (S.2 18 i2), .int (S.2 21 i2), .int (S.2 22 i2), .int (S.2 23 i2), .int v, .int (S.2 25 i2), .int (X.2 0 i2), .int (S.2 26 i2), .int (S.2 27 i2)])
      rw [if_pos hi, pk_us]
    · rw [if_neg (fun z => e z.2)]
      show (if i2 < (L 3).length then some (Ob 2 [.int (nI i2), .int (S.2 20 i2), .int (S.2 17 i2), .int (S.2 19 i2), .int (S.2 18 i2), .int (S.2 21 i2), .int (S.2 22 i2), .int (S.2 23 i2), .int (upd (S.2 24) i v i2), .int (S.2 25 i2), .int (X.2 0 i2), .int (S.2 26 i2), .int (S.2 27 i2)]) else none) = (if i2 < (L 3).length then some (Ob 2 [.int (nI i2), .int (S.2 20 i2), .int (S.2 17 i2), .int (S.2 19 i2), .int (S.2 18 i2), .int (S.2 21 i2), .int (S.2 22 i2), .int (S.2 23 i2), .int (S.2 24 i2), .int (S.2 25 i2), .int (X.2 0 i2), .int (S.2 26 i2), .int (S.2 27 i2)]) else none)
      rw [pk_un e]
  | 7, i2 => rfl
  | 8, i2 => rfl
  | 9, i2 => rfl
  | 10, i2 => rfl
  | 11, i2 => rfl
  | 12, i2 => rfl
  | 13, i2 => rfl
  | 14, i2 => rfl
  | 15, i2 => rfl
  | 16, i2 => rfl
  | 17, i2 => rfl
  | n + 18, i2 => rfl
theorem ks_6_8 {i : Nat} {v : Int32} (hi : i < (L 3).length) {Y : YM} {d kc ks pc : Nat} {lv : List (Option Value)} {st : List Value} {post : Option Value → AH → Prop} (hK : KR G O ad S X L wn sl fl h) (hF : KF O h0 h) (kk : ∀ h, KR G O ad (S.1, u2 S.2 24 i v) X L wn sl fl h → KF O h0 h → J Y d G kc ks pc lv st h post) : J Y d G kc ks pc lv st (hu h (ad 6 i) (.inr (2, (fLoad S X i).set 8 (.int v)))) post := by
  exact kk _ (hK.set (cs_load hi) (kc_6_8 hi)) (hF.hu (hK.own (cs_load hi)))
theorem kc_6_9 {i : Nat} {v : Int32} (hi : i < (L 3).length) : ∀ c2 i2, cs ad (S.1, u2 S.2 25 i v) X L wn sl fl c2 i2 = if c2 = 6 ∧ i2 = i then some (Ob 2 ((fLoad S X i).set 9 (.int v))) else cs ad S X L wn sl fl c2 i2
  | 0, i2 => rfl
  | 1, i2 => rfl
  | 2, i2 => rfl
  | 3, i2 => rfl
  | 4, i2 => rfl
  | 5, i2 => rfl
  | 6, i2 => by
    by_cases e : i2 = i
    · subst e
      rw [if_pos ⟨rfl, rfl⟩]
      show (if i2 < (L 3).length then some (Ob 2 [.int (nI i2), .int (S.2 20 i2), .int (S.2 17 i2), .int (S.2 19 i2), .int (S.2 18 i2), .int (S.2 21 i2), .int (S.2 22 i2), .int (S.2 23 i2), .int (S.2 24 i2), .int (upd (S.2 25) i2 v i2), .int (X.2 0 i2), .int (S.2 26 i2), .int (S.2 27 i2)]) else none) = some (Ob 2 [.int (nI i2), .int (S.2 20 i2), .int (S.2 17 i2), .int (S.2 19 i2), .int (S.2 18 i2), .int (S.2 21 i2), .int (S.2 22 i2), .int (S.2 23 i2), .int (S.2 24 i2), .int v, .int (X.2 0 i2), .int (S.2 26 i2), .int (S.2 27 i2)])
      rw [if_pos hi, pk_us]
    · rw [if_neg (fun z => e z.2)]
      show (if i2 < (L 3).length then some (Ob 2 [.int (nI i2), .int (S.2 20 i2), .int (S.2 17 i2), .int (S.2 19 i2), .int (S.2 18 i2), .int (S.2 21 i2), .int (S.2 22 i2), .int (S.2 23 i2), .int (S.2 24 i2), .int (upd (S.2 25) i v i2), .int (X.2 0 i2), .int (S.2 26 i2), .int (S.2 27 i2)]) else none) = (if i2 < (L 3).length then some (Ob 2 [.int (nI i2), .int (S.2 20 i2), .int (S.2 17 i2), .int (S.2 19 i2), .int (S.2 18 i2), .int (S.2 21 i2), .int (S.2 22 i2), .int (S.2 23 i2), .int (S.2 24 i2), .int (S.2 25 i2), .int (X.2 0 i2), .int (S.2 26 i2), .int (S.2 27 i2)]) else none)
      rw [pk_un e]
  | 7, i2 => rfl
  | 8, i2 => rfl
  | 9, i2 => rfl
  | 10, i2 => rfl
  | 11, i2 => rfl
  | 12, i2 => rfl
  | 13, i2 => rfl
  | 14, i2 => rfl
  | 15, i2 => rfl
  | 16, i2 => rfl
  | 17, i2 => rfl
  | n + 18, i2 => rfl
theorem ks_6_9 {i : Nat} {v : Int32} (hi : i < (L 3).length) {Y : YM} {d kc ks pc : Nat} {lv : List (Option Value)} {st : List Value} {post : Option Value → AH → Prop} (hK : KR G O ad S X L wn sl fl h) (hF : KF O h0 h) (kk : ∀ h, KR G O ad (S.1, u2 S.2 25 i v) X L wn sl fl h → KF O h0 h → J Y d G kc ks pc lv st h post) : J Y d G kc ks pc lv st (hu h (ad 6 i) (.inr (2, (fLoad S X i).set 9 (.int v)))) post := by
  exact kk _ (hK.set (cs_load hi) (kc_6_9 hi)) (hF.hu (hK.own (cs_load hi)))
theorem kc_6_10 {i : Nat} {v : Int32} (hi : i < (L 3).length) : ∀ c2 i2, cs ad S (X.1, u2 X.2 0 i v) L wn sl fl c2 i2 = if c2 = 6 ∧ i2 = i then some (Ob 2 ((fLoad S X i).set 10 (.int v))) else cs ad S X L wn sl fl c2 i2
  | 0, i2 => rfl
  | 1, i2 => rfl
  | 2, i2 => rfl
  | 3, i2 => rfl
  | 4, i2 => rfl
  | 5, i2 => rfl
  | 6, i2 => by
    by_cases e : i2 = i
    · subst e
      rw [if_pos ⟨rfl, rfl⟩]
      show (if i2 < (L 3).length then some (Ob 2 [.int (nI i2), .int (S.2 20 i2), .int (S.2 17 i2), .int (S.2 19 i2), .int (S.2 18 i2), .int (S.2 21 i2), .int (S.2 22 i2), .int (S.2 23 i2), .int (S.2 24 i2), .int (S.2 25 i2), .int (upd (X.2 0) i2 v i2), .int (S.2 26 i2), .int (S.2 27 i2)]) else none) = some (Ob 2 [.int (nI i2), .int (S.2 20 i2), .int (S.2 17 i2), .int (S.2 19 i2), .int (S.2 18 i2), .int (S.2 21 i2), .int (S.2 22 i2), .int (S.2 23 i2), .int (S.2 24 i2), .int (S.2 25 i2), .int v, .int (S.2 26 i2), .int (S.2 27 i2)])
      rw [if_pos hi, pk_us]
    · rw [if_neg (fun z => e z.2)]
      show (if i2 < (L 3).length then some (Ob 2 [.int (nI i2), .int (S.2 20 i2), .int (S.2 17 i2), .int (S.2 19 i2), .int (S.2 18 i2), .int (S.2 21 i2), .int (S.2 22 i2), .int (S.2 23 i2), .int (S.2 24 i2), .int (S.2 25 i2), .int (upd (X.2 0) i v i2), .int (S.2 26 i2), .int (S.2 27 i2)]) else none) = (if i2 < (L 3).length then some (Ob 2 [.int (nI i2), .int (S.2 20 i2), .int (S.2 17 i2), .int (S.2 19 i2), .int (S.2 18 i2), .int (S.2 21 i2), .int (S.2 22 i2), .int (S.2 23 i2), .int (S.2 24 i2), .int (S.2 25 i2), .int (X.2 0 i2), .int (S.2 26 i2), .int (S.2 27 i2)]) else none)
      rw [pk_un e]
  | 7, i2 => rfl
  | 8, i2 => rfl
  | 9, i2 => by
    show (if i2 < (L 6).length then some (Ai (sl i2) (u2 X.2 0 i v (100 + i2))) else none) = (if i2 < (L 6).length then some (Ai (sl i2) (X.2 (100 + i2))) else none)
    rw [u2_n (by omega)]
  | 10, i2 => rfl
  | 11, i2 => rfl
  | 12, i2 => rfl
  | 13, i2 => rfl
  | 14, i2 => rfl
  | 15, i2 => rfl
  | 16, i2 => rfl
  | 17, i2 => rfl
  | n + 18, i2 => rfl
theorem ks_6_10 {i : Nat} {v : Int32} (hi : i < (L 3).length) {Y : YM} {d kc ks pc : Nat} {lv : List (Option Value)} {st : List Value} {post : Option Value → AH → Prop} (hK : KR G O ad S X L wn sl fl h) (hF : KF O h0 h) (kk : ∀ h, KR G O ad S (X.1, u2 X.2 0 i v) L wn sl fl h → KF O h0 h → J Y d G kc ks pc lv st h post) : J Y d G kc ks pc lv st (hu h (ad 6 i) (.inr (2, (fLoad S X i).set 10 (.int v)))) post := by
  exact kk _ (hK.set (cs_load hi) (kc_6_10 hi)) (hF.hu (hK.own (cs_load hi)))
theorem kc_6_11 {i : Nat} {v : Int32} (hi : i < (L 3).length) : ∀ c2 i2, cs ad (S.1, u2 S.2 26 i v) X L wn sl fl c2 i2 = if c2 = 6 ∧ i2 = i then some (Ob 2 ((fLoad S X i).set 11 (.int v))) else cs ad S X L wn sl fl c2 i2
  | 0, i2 => rfl
  | 1, i2 => rfl
  | 2, i2 => rfl
  | 3, i2 => rfl
  | 4, i2 => rfl
  | 5, i2 => rfl
  | 6, i2 => by
    by_cases e : i2 = i
    · subst e
      rw [if_pos ⟨rfl, rfl⟩]
      show (if i2 < (L 3).length then some (Ob 2 [.int (nI i2), .int (S.2 20 i2), .int (S.2 17 i2), .int (S.2 19 i2), .int (S.2 18 i2), .int (S.2 21 i2), .int (S.2 22 i2), .int (S.2 23 i2), .int (S.2 24 i2), .int (S.2 25 i2), .int (X.2 0 i2), .int (upd (S.2 26) i2 v i2), .int (S.2 27 i2)]) else none) = some (Ob 2 [.int (nI i2), .int (S.2 20 i2), .int (S.2 17 i2), .int (S.2 19 i2), .int (S.2 18 i2), .int (S.2 21 i2), .int (S.2 22 i2), .int (S.2 23 i2), .int (S.2 24 i2), .int (S.2 25 i2), .int (X.2 0 i2), .int v, .int (S.2 27 i2)])
      rw [if_pos hi, pk_us]
    · rw [if_neg (fun z => e z.2)]
      show (if i2 < (L 3).length then some (Ob 2 [.int (nI i2), .int (S.2 20 i2), .int (S.2 17 i2), .int (S.2 19 i2), .int (S.2 18 i2), .int (S.2 21 i2), .int (S.2 22 i2), .int (S.2 23 i2), .int (S.2 24 i2), .int (S.2 25 i2), .int (X.2 0 i2), .int (upd (S.2 26) i v i2), .int (S.2 27 i2)]) else none) = (if i2 < (L 3).length then some (Ob 2 [.int (nI i2), .int (S.2 20 i2), .int (S.2 17 i2), .int (S.2 19 i2), .int (S.2 18 i2), .int (S.2 21 i2), .int (S.2 22 i2), .int (S.2 23 i2), .int (S.2 24 i2), .int (S.2 25 i2), .int (X.2 0 i2), .int (S.2 26 i2), .int (S.2 27 i2)]) else none)
      rw [pk_un e]
  | 7, i2 => rfl
  | 8, i2 => rfl
  | 9, i2 => rfl
  | 10, i2 => rfl
  | 11, i2 => rfl
  | 12, i2 => rfl
  | 13, i2 => rfl
  | 14, i2 => rfl
  | 15, i2 => rfl
  | 16, i2 => rfl
  | 17, i2 => rfl
  | n + 18, i2 => rfl
theorem ks_6_11 {i : Nat} {v : Int32} (hi : i < (L 3).length) {Y : YM} {d kc ks pc : Nat} {lv : List (Option Value)} {st : List Value} {post : Option Value → AH → Prop} (hK : KR G O ad S X L wn sl fl h) (hF : KF O h0 h) (kk : ∀ h, KR G O ad (S.1, u2 S.2 26 i v) X L wn sl fl h → KF O h0 h → J Y d G kc ks pc lv st h post) : J Y d G kc ks pc lv st (hu h (ad 6 i) (.inr (2, (fLoad S X i).set 11 (.int v)))) post := by
  exact kk _ (hK.set (cs_load hi) (kc_6_11 hi)) (hF.hu (hK.own (cs_load hi)))
theorem kc_6_12 {i : Nat} {v : Int32} (hi : i < (L 3).length) : ∀ c2 i2, cs ad (S.1, u2 S.2 27 i v) X L wn sl fl c2 i2 = if c2 = 6 ∧ i2 = i then some (Ob 2 ((fLoad S X i).set 12 (.int v))) else cs ad S X L wn sl fl c2 i2
  | 0, i2 => rfl
  | 1, i2 => rfl
  | 2, i2 => rfl
  | 3, i2 => rfl
  | 4, i2 => rfl
  | 5, i2 => rfl
  | 6, i2 => by
    by_cases e : i2 = i
    · subst e
      rw [if_pos ⟨rfl, rfl⟩]
      show (if i2 < (L 3).length then some (Ob 2 [.int (nI i2), .int (S.2 20 i2), .int (S.2 17 i2), .int (S.2 19 i2), .int (S.2 18 i2), .int (S.2 21 i2), .int (S.2 22 i2), .int (S.2 23 i2), .int (S.2 24 i2), .int (S.2 25 i2), .int (X.2 0 i2), .int (S.2 26 i2), .int (upd (S.2 27) i2 v i2)]) else none) = some (Ob 2 [.int (nI i2), .int (S.2 20 i2), .int (S.2 17 i2), .int (S.2 19 i2), .int (S.2 18 i2), .int (S.2 21 i2), .int (S.2 22 i2), .int (S.2 23 i2), .int (S.2 24 i2), .int (S.2 25 i2), .int (X.2 0 i2), .int (S.2 26 i2), .int v])
      rw [if_pos hi, pk_us]
    · rw [if_neg (fun z => e z.2)]
      show (if i2 < (L 3).length then some (Ob 2 [.int (nI i2), .int (S.2 20 i2), .int (S.2 17 i2), .int (S.2 19 i2), .int (S.2 18 i2), .int (S.2 21 i2), .int (S.2 22 i2), .int (S.2 23 i2), .int (S.2 24 i2), .int (S.2 25 i2), .int (X.2 0 i2), .int (S.2 26 i2), .int (upd (S.2 27) i v i2)]) else none) = (if i2 < (L 3).length then some (Ob 2 [.int (nI i2), .int (S.2 20 i2), .int (S.2 17 i2), .int (S.2 19 i2), .int (S.2 18 i2), .int (S.2 21 i2), .int (S.2 22 i2), .int (S.2 23 i2), .int (S.2 24 i2), .int (S.2 25 i2), .int (X.2 0 i2), .int (S.2 26 i2), .int (S.2 27 i2)]) else none)
      rw [pk_un e]
  | 7, i2 => rfl
  | 8, i2 => rfl
  | 9, i2 => rfl
  | 10, i2 => rfl
  | 11, i2 => rfl
  | 12, i2 => rfl
  | 13, i2 => rfl
  | 14, i2 => rfl
  | 15, i2 => rfl
  | 16, i2 => rfl
  | 17, i2 => rfl
  | n + 18, i2 => rfl
theorem ks_6_12 {i : Nat} {v : Int32} (hi : i < (L 3).length) {Y : YM} {d kc ks pc : Nat} {lv : List (Option Value)} {st : List Value} {post : Option Value → AH → Prop} (hK : KR G O ad S X L wn sl fl h) (hF : KF O h0 h) (kk : ∀ h, KR G O ad (S.1, u2 S.2 27 i v) X L wn sl fl h → KF O h0 h → J Y d G kc ks pc lv st h post) : J Y d G kc ks pc lv st (hu h (ad 6 i) (.inr (2, (fLoad S X i).set 12 (.int v)))) post := by
  exact kk _ (hK.set (cs_load hi) (kc_6_12 hi)) (hF.hu (hK.own (cs_load hi)))
theorem kc_4_3 {i : Nat} {v : Int32} (hi : i < (L 1).length) : ∀ c2 i2, cs ad (S.1, u2 S.2 9 i v) X L wn sl fl c2 i2 = if c2 = 4 ∧ i2 = i then some (Ob 3 ((fMach ad S i).set 3 (.int v))) else cs ad S X L wn sl fl c2 i2
  | 0, i2 => rfl
  | 1, i2 => rfl
  | 2, i2 => rfl
  | 3, i2 => rfl
  | 4, i2 => by
    by_cases e : i2 = i
    · subst e
      rw [if_pos ⟨rfl, rfl⟩]
      show (if i2 < (L 1).length then some (Ob 3 [.int (S.2 7 i2), .int (S.2 8 i2), .ref (ad 1 (8 + i2)), .int (upd (S.2 9) i2 v i2), .int (S.2 10 i2)]) else none) = some (Ob 3 [.int (S.2 7 i2), .int (S.2 8 i2), .ref (ad 1 (8 + i2)), .int v, .int (S.2 10 i2)])
      rw [if_pos hi, pk_us]
    · rw [if_neg (fun z => e z.2)]
      show (if i2 < (L 1).length then some (Ob 3 [.int (S.2 7 i2), .int (S.2 8 i2), .ref (ad 1 (8 + i2)), .int (upd (S.2 9) i v i2), .int (S.2 10 i2)]) else none) = (if i2 < (L 1).length then some (Ob 3 [.int (S.2 7 i2), .int (S.2 8 i2), .ref (ad 1 (8 + i2)), .int (S.2 9 i2), .int (S.2 10 i2)]) else none)
      rw [pk_un e]
  | 5, i2 => rfl
  | 6, i2 => rfl
  | 7, i2 => rfl
  | 8, i2 => rfl
  | 9, i2 => rfl
  | 10, i2 => rfl
  | 11, i2 => rfl
  | 12, i2 => rfl
  | 13, i2 => rfl
  | 14, i2 => rfl
  | 15, i2 => rfl
  | 16, i2 => rfl
  | 17, i2 => rfl
  | n + 18, i2 => rfl
theorem ks_4_3 {i : Nat} {v : Int32} (hi : i < (L 1).length) {Y : YM} {d kc ks pc : Nat} {lv : List (Option Value)} {st : List Value} {post : Option Value → AH → Prop} (hK : KR G O ad S X L wn sl fl h) (hF : KF O h0 h) (kk : ∀ h, KR G O ad (S.1, u2 S.2 9 i v) X L wn sl fl h → KF O h0 h → J Y d G kc ks pc lv st h post) : J Y d G kc ks pc lv st (hu h (ad 4 i) (.inr (3, (fMach ad S i).set 3 (.int v)))) post := by
  exact kk _ (hK.set (cs_mach hi) (kc_4_3 hi)) (hF.hu (hK.own (cs_mach hi)))
theorem kc_4_4 {i : Nat} {v : Int32} (hi : i < (L 1).length) : ∀ c2 i2, cs ad (S.1, u2 S.2 10 i v) X L wn sl fl c2 i2 = if c2 = 4 ∧ i2 = i then some (Ob 3 ((fMach ad S i).set 4 (.int v))) else cs ad S X L wn sl fl c2 i2
  | 0, i2 => rfl
  | 1, i2 => rfl
  | 2, i2 => rfl
  | 3, i2 => rfl
  | 4, i2 => by
    by_cases e : i2 = i
    · subst e
      rw [if_pos ⟨rfl, rfl⟩]
      show (if i2 < (L 1).length then some (Ob 3 [.int (S.2 7 i2), .int (S.2 8 i2), .ref (ad 1 (8 + i2)), .int (S.2 9 i2), .int (upd (S.2 10) i2 v i2)]) else none) = some (Ob 3 [.int (S.2 7 i2), .int (S.2 8 i2), .ref (ad 1 (8 + i2)), .int (S.2 9 i2), .int v])
      rw [if_pos hi, pk_us]
    · rw [if_neg (fun z => e z.2)]
      show (if i2 < (L 1).length then some (Ob 3 [.int (S.2 7 i2), .int (S.2 8 i2), .ref (ad 1 (8 + i2)), .int (S.2 9 i2), .int (upd (S.2 10) i v i2)]) else none) = (if i2 < (L 1).length then some (Ob 3 [.int (S.2 7 i2), .int (S.2 8 i2), .ref (ad 1 (8 + i2)), .int (S.2 9 i2), .int (S.2 10 i2)]) else none)
      rw [pk_un e]
  | 5, i2 => rfl
  | 6, i2 => rfl
  | 7, i2 => rfl
  | 8, i2 => rfl
  | 9, i2 => rfl
  | 10, i2 => rfl
  | 11, i2 => rfl
  | 12, i2 => rfl
  | 13, i2 => rfl
  | 14, i2 => rfl
  | 15, i2 => rfl
  | 16, i2 => rfl
  | 17, i2 => rfl
  | n + 18, i2 => rfl
theorem ks_4_4 {i : Nat} {v : Int32} (hi : i < (L 1).length) {Y : YM} {d kc ks pc : Nat} {lv : List (Option Value)} {st : List Value} {post : Option Value → AH → Prop} (hK : KR G O ad S X L wn sl fl h) (hF : KF O h0 h) (kk : ∀ h, KR G O ad (S.1, u2 S.2 10 i v) X L wn sl fl h → KF O h0 h → J Y d G kc ks pc lv st h post) : J Y d G kc ks pc lv st (hu h (ad 4 i) (.inr (3, (fMach ad S i).set 4 (.int v)))) post := by
  exact kk _ (hK.set (cs_mach hi) (kc_4_4 hi)) (hF.hu (hK.own (cs_mach hi)))
theorem kc_5_2 {i : Nat} {v : Int32} (hi : i < (L 2).length) : ∀ c2 i2, cs ad (S.1, u2 S.2 14 i v) X L wn sl fl c2 i2 = if c2 = 5 ∧ i2 = i then some (Ob 6 ((fPil S i).set 2 (.int v))) else cs ad S X L wn sl fl c2 i2
  | 0, i2 => rfl
  | 1, i2 => rfl
  | 2, i2 => rfl
  | 3, i2 => rfl
  | 4, i2 => rfl
  | 5, i2 => by
    by_cases e : i2 = i
    · subst e
      rw [if_pos ⟨rfl, rfl⟩]
      show (if i2 < (L 2).length then some (Ob 6 [.int (S.2 12 i2), .int (S.2 13 i2), .int (upd (S.2 14) i2 v i2), .int (S.2 15 i2)]) else none) = some (Ob 6 [.int (S.2 12 i2), .int (S.2 13 i2), .int v, .int (S.2 15 i2)])
      rw [if_pos hi, pk_us]
    · rw [if_neg (fun z => e z.2)]
      show (if i2 < (L 2).length then some (Ob 6 [.int (S.2 12 i2), .int (S.2 13 i2), .int (upd (S.2 14) i v i2), .int (S.2 15 i2)]) else none) = (if i2 < (L 2).length then some (Ob 6 [.int (S.2 12 i2), .int (S.2 13 i2), .int (S.2 14 i2), .int (S.2 15 i2)]) else none)
      rw [pk_un e]
  | 6, i2 => rfl
  | 7, i2 => rfl
  | 8, i2 => rfl
  | 9, i2 => rfl
  | 10, i2 => rfl
  | 11, i2 => rfl
  | 12, i2 => rfl
  | 13, i2 => rfl
  | 14, i2 => rfl
  | 15, i2 => rfl
  | 16, i2 => rfl
  | 17, i2 => rfl
  | n + 18, i2 => rfl
theorem ks_5_2 {i : Nat} {v : Int32} (hi : i < (L 2).length) {Y : YM} {d kc ks pc : Nat} {lv : List (Option Value)} {st : List Value} {post : Option Value → AH → Prop} (hK : KR G O ad S X L wn sl fl h) (hF : KF O h0 h) (kk : ∀ h, KR G O ad (S.1, u2 S.2 14 i v) X L wn sl fl h → KF O h0 h → J Y d G kc ks pc lv st h post) : J Y d G kc ks pc lv st (hu h (ad 5 i) (.inr (6, (fPil S i).set 2 (.int v)))) post := by
  exact kk _ (hK.set (cs_pil hi) (kc_5_2 hi)) (hF.hu (hK.own (cs_pil hi)))
theorem kc_5_3 {i : Nat} {v : Int32} (hi : i < (L 2).length) : ∀ c2 i2, cs ad (S.1, u2 S.2 15 i v) X L wn sl fl c2 i2 = if c2 = 5 ∧ i2 = i then some (Ob 6 ((fPil S i).set 3 (.int v))) else cs ad S X L wn sl fl c2 i2
  | 0, i2 => rfl
  | 1, i2 => rfl
  | 2, i2 => rfl
  | 3, i2 => rfl
  | 4, i2 => rfl
  | 5, i2 => by
    by_cases e : i2 = i
    · subst e
      rw [if_pos ⟨rfl, rfl⟩]
      show (if i2 < (L 2).length then some (Ob 6 [.int (S.2 12 i2), .int (S.2 13 i2), .int (S.2 14 i2), .int (upd (S.2 15) i2 v i2)]) else none) = some (Ob 6 [.int (S.2 12 i2), .int (S.2 13 i2), .int (S.2 14 i2), .int v])
      rw [if_pos hi, pk_us]
    · rw [if_neg (fun z => e z.2)]
      show (if i2 < (L 2).length then some (Ob 6 [.int (S.2 12 i2), .int (S.2 13 i2), .int (S.2 14 i2), .int (upd (S.2 15) i v i2)]) else none) = (if i2 < (L 2).length then some (Ob 6 [.int (S.2 12 i2), .int (S.2 13 i2), .int (S.2 14 i2), .int (S.2 15 i2)]) else none)
      rw [pk_un e]
  | 6, i2 => rfl
  | 7, i2 => rfl
  | 8, i2 => rfl
  | 9, i2 => rfl
  | 10, i2 => rfl
  | 11, i2 => rfl
  | 12, i2 => rfl
  | 13, i2 => rfl
  | 14, i2 => rfl
  | 15, i2 => rfl
  | 16, i2 => rfl
  | 17, i2 => rfl
  | n + 18, i2 => rfl
theorem ks_5_3 {i : Nat} {v : Int32} (hi : i < (L 2).length) {Y : YM} {d kc ks pc : Nat} {lv : List (Option Value)} {st : List Value} {post : Option Value → AH → Prop} (hK : KR G O ad S X L wn sl fl h) (hF : KF O h0 h) (kk : ∀ h, KR G O ad (S.1, u2 S.2 15 i v) X L wn sl fl h → KF O h0 h → J Y d G kc ks pc lv st h post) : J Y d G kc ks pc lv st (hu h (ad 5 i) (.inr (6, (fPil S i).set 3 (.int v)))) post := by
  exact kk _ (hK.set (cs_pil hi) (kc_5_3 hi)) (hF.hu (hK.own (cs_pil hi)))
theorem kc_7_6 {i : Nat} {v : Int32} (hi : i < fl) : ∀ c2 i2, cs ad (S.1, u2 S.2 42 i v) X L wn sl fl c2 i2 = if c2 = 7 ∧ i2 = i then some (Ob 1 ((fFlt S i).set 6 (.int v))) else cs ad S X L wn sl fl c2 i2
  | 0, i2 => rfl
  | 1, i2 => rfl
  | 2, i2 => rfl
  | 3, i2 => rfl
  | 4, i2 => rfl
  | 5, i2 => rfl
  | 6, i2 => rfl
  | 7, i2 => by
    by_cases e : i2 = i
    · subst e
      rw [if_pos ⟨rfl, rfl⟩]
      show (if i2 < fl then some (Ob 1 [.int (S.2 36 i2), .int (S.2 37 i2), .int (S.2 38 i2), .int (S.2 39 i2), .int (S.2 40 i2), .int (S.2 41 i2), .int (upd (S.2 42) i2 v i2), .int (S.2 43 i2), .int (S.2 44 i2)]) else none) = some (Ob 1 [.int (S.2 36 i2), .int (S.2 37 i2), .int (S.2 38 i2), .int (S.2 39 i2), .int (S.2 40 i2), .int (S.2 41 i2), .int v, .int (S.2 43 i2), .int (S.2 44 i2)])
      rw [if_pos hi, pk_us]
    · rw [if_neg (fun z => e z.2)]
      show (if i2 < fl then some (Ob 1 [.int (S.2 36 i2), .int (S.2 37 i2), .int (S.2 38 i2), .int (S.2 39 i2), .int (S.2 40 i2), .int (S.2 41 i2), .int (upd (S.2 42) i v i2), .int (S.2 43 i2), .int (S.2 44 i2)]) else none) = (if i2 < fl then some (Ob 1 [.int (S.2 36 i2), .int (S.2 37 i2), .int (S.2 38 i2), .int (S.2 39 i2), .int (S.2 40 i2), .int (S.2 41 i2), .int (S.2 42 i2), .int (S.2 43 i2), .int (S.2 44 i2)]) else none)
      rw [pk_un e]
  | 8, i2 => rfl
  | 9, i2 => rfl
  | 10, i2 => rfl
  | 11, i2 => rfl
  | 12, i2 => rfl
  | 13, i2 => rfl
  | 14, i2 => rfl
  | 15, i2 => rfl
  | 16, i2 => rfl
  | 17, i2 => rfl
  | n + 18, i2 => rfl
theorem ks_7_6 {i : Nat} {v : Int32} (hi : i < fl) {Y : YM} {d kc ks pc : Nat} {lv : List (Option Value)} {st : List Value} {post : Option Value → AH → Prop} (hK : KR G O ad S X L wn sl fl h) (hF : KF O h0 h) (kk : ∀ h, KR G O ad (S.1, u2 S.2 42 i v) X L wn sl fl h → KF O h0 h → J Y d G kc ks pc lv st h post) : J Y d G kc ks pc lv st (hu h (ad 7 i) (.inr (1, (fFlt S i).set 6 (.int v)))) post := by
  exact kk _ (hK.set (cs_flt hi) (kc_7_6 hi)) (hF.hu (hK.own (cs_flt hi)))
theorem kc_7_7 {i : Nat} {v : Int32} (hi : i < fl) : ∀ c2 i2, cs ad (S.1, u2 S.2 43 i v) X L wn sl fl c2 i2 = if c2 = 7 ∧ i2 = i then some (Ob 1 ((fFlt S i).set 7 (.int v))) else cs ad S X L wn sl fl c2 i2
  | 0, i2 => rfl
  | 1, i2 => rfl
  | 2, i2 => rfl
  | 3, i2 => rfl
  | 4, i2 => rfl
  | 5, i2 => rfl
  | 6, i2 => rfl
  | 7, i2 => by
    by_cases e : i2 = i
    · subst e
      rw [if_pos ⟨rfl, rfl⟩]
      show (if i2 < fl then some (Ob 1 [.int (S.2 36 i2), .int (S.2 37 i2), .int (S.2 38 i2), .int (S.2 39 i2), .int (S.2 40 i2), .int (S.2 41 i2), .int (S.2 42 i2), .int (upd (S.2 43) i2 v i2), .int (S.2 44 i2)]) else none) = some (Ob 1 [.int (S.2 36 i2), .int (S.2 37 i2), .int (S.2 38 i2), .int (S.2 39 i2), .int (S.2 40 i2), .int (S.2 41 i2), .int (S.2 42 i2), .int v, .int (S.2 44 i2)])
      rw [if_pos hi, pk_us]
    · rw [if_neg (fun z => e z.2)]
      show (if i2 < fl then some (Ob 1 [.int (S.2 36 i2), .int (S.2 37 i2), .int (S.2 38 i2), .int (S.2 39 i2), .int (S.2 40 i2), .int (S.2 41 i2), .int (S.2 42 i2), .int (upd (S.2 43) i v i2), .int (S.2 44 i2)]) else none) = (if i2 < fl then some (Ob 1 [.int (S.2 36 i2), .int (S.2 37 i2), .int (S.2 38 i2), .int (S.2 39 i2), .int (S.2 40 i2), .int (S.2 41 i2), .int (S.2 42 i2), .int (S.2 43 i2), .int (S.2 44 i2)]) else none)
      rw [pk_un e]
  | 8, i2 => rfl
  | 9, i2 => rfl
  | 10, i2 => rfl
  | 11, i2 => rfl
  | 12, i2 => rfl
  | 13, i2 => rfl
  | 14, i2 => rfl
  | 15, i2 => rfl
  | 16, i2 => rfl
  | 17, i2 => rfl
  | n + 18, i2 => rfl
theorem ks_7_7 {i : Nat} {v : Int32} (hi : i < fl) {Y : YM} {d kc ks pc : Nat} {lv : List (Option Value)} {st : List Value} {post : Option Value → AH → Prop} (hK : KR G O ad S X L wn sl fl h) (hF : KF O h0 h) (kk : ∀ h, KR G O ad (S.1, u2 S.2 43 i v) X L wn sl fl h → KF O h0 h → J Y d G kc ks pc lv st h post) : J Y d G kc ks pc lv st (hu h (ad 7 i) (.inr (1, (fFlt S i).set 7 (.int v)))) post := by
  exact kk _ (hK.set (cs_flt hi) (kc_7_7 hi)) (hF.hu (hK.own (cs_flt hi)))
theorem kc_7_8 {i : Nat} {v : Int32} (hi : i < fl) : ∀ c2 i2, cs ad (S.1, u2 S.2 44 i v) X L wn sl fl c2 i2 = if c2 = 7 ∧ i2 = i then some (Ob 1 ((fFlt S i).set 8 (.int v))) else cs ad S X L wn sl fl c2 i2
  | 0, i2 => rfl
  | 1, i2 => rfl
  | 2, i2 => rfl
  | 3, i2 => rfl
  | 4, i2 => rfl
  | 5, i2 => rfl
  | 6, i2 => rfl
  | 7, i2 => by
    by_cases e : i2 = i
    · subst e
      rw [if_pos ⟨rfl, rfl⟩]
      show (if i2 < fl then some (Ob 1 [.int (S.2 36 i2), .int (S.2 37 i2), .int (S.2 38 i2), .int (S.2 39 i2), .int (S.2 40 i2), .int (S.2 41 i2), .int (S.2 42 i2), .int (S.2 43 i2), .int (upd (S.2 44) i2 v i2)]) else none) = some (Ob 1 [.int (S.2 36 i2), .int (S.2 37 i2), .int (S.2 38 i2), .int (S.2 39 i2), .int (S.2 40 i2), .int (S.2 41 i2), .int (S.2 42 i2), .int (S.2 43 i2), .int v])
      rw [if_pos hi, pk_us]
    · rw [if_neg (fun z => e z.2)]
      show (if i2 < fl then some (Ob 1 [.int (S.2 36 i2), .int (S.2 37 i2), .int (S.2 38 i2), .int (S.2 39 i2), .int (S.2 40 i2), .int (S.2 41 i2), .int (S.2 42 i2), .int (S.2 43 i2), .int (upd (S.2 44) i v i2)]) else none) = (if i2 < fl then some (Ob 1 [.int (S.2 36 i2), .int (S.2 37 i2), .int (S.2 38 i2), .int (S.2 39 i2), .int (S.2 40 i2), .int (S.2 41 i2), .int (S.2 42 i2), .int (S.2 43 i2), .int (S.2 44 i2)]) else none)
      rw [pk_un e]
  | 8, i2 => rfl
  | 9, i2 => rfl
  | 10, i2 => rfl
  | 11, i2 => rfl
  | 12, i2 => rfl
  | 13, i2 => rfl
  | 14, i2 => rfl
  | 15, i2 => rfl
  | 16, i2 => rfl
  | 17, i2 => rfl
  | n + 18, i2 => rfl
theorem ks_7_8 {i : Nat} {v : Int32} (hi : i < fl) {Y : YM} {d kc ks pc : Nat} {lv : List (Option Value)} {st : List Value} {post : Option Value → AH → Prop} (hK : KR G O ad S X L wn sl fl h) (hF : KF O h0 h) (kk : ∀ h, KR G O ad (S.1, u2 S.2 44 i v) X L wn sl fl h → KF O h0 h → J Y d G kc ks pc lv st h post) : J Y d G kc ks pc lv st (hu h (ad 7 i) (.inr (1, (fFlt S i).set 8 (.int v)))) post := by
  exact kk _ (hK.set (cs_flt hi) (kc_7_8 hi)) (hF.hu (hK.own (cs_flt hi)))
theorem kc_0_11 {v : Int32} : ∀ c2 i2, cs ad (vf_upd S.1 0 v, S.2) X L wn sl fl c2 i2 = if c2 = 0 ∧ i2 = 0 then some (Ob 12 ((fHut ad S).set 11 (.int v))) else cs ad S X L wn sl fl c2 i2
  | 0, i2 => by
    by_cases e : i2 = 0
    · subst e
      rfl
    · rw [if_neg (fun z => e z.2)]
      show (if i2 = 0 then _ else none) = (if i2 = 0 then _ else none)
      rw [if_neg e, if_neg e]
  | 1, i2 => rfl
  | 2, i2 => rfl
  | 3, i2 => rfl
  | 4, i2 => rfl
  | 5, i2 => rfl
  | 6, i2 => rfl
  | 7, i2 => rfl
  | 8, i2 => rfl
  | 9, i2 => rfl
  | 10, i2 => rfl
  | 11, i2 => rfl
  | 12, i2 => rfl
  | 13, i2 => rfl
  | 14, i2 => rfl
  | 15, i2 => rfl
  | 16, i2 => rfl
  | 17, i2 => rfl
  | n + 18, i2 => rfl
theorem ks_0_11 {v : Int32} {Y : YM} {d kc ks pc : Nat} {lv : List (Option Value)} {st : List Value} {post : Option Value → AH → Prop} (hK : KR G O ad S X L wn sl fl h) (hF : KF O h0 h) (kk : ∀ h, KR G O ad (vf_upd S.1 0 v, S.2) X L wn sl fl h → KF O h0 h → J Y d G kc ks pc lv st h post) : J Y d G kc ks pc lv st (hu h (ad 0 0) (.inr (12, (fHut ad S).set 11 (.int v)))) post := by
  exact kk _ (hK.set cs_hut kc_0_11) (hF.hu (hK.own cs_hut))
theorem kc_11_1 {v : Int32} : ∀ c2 i2, cs ad (vf_upd S.1 30 v, S.2) X L wn sl fl c2 i2 = if c2 = 11 ∧ i2 = 0 then some (Ob 10 ((fTape ad S).set 1 (.int v))) else cs ad S X L wn sl fl c2 i2
  | 0, i2 => rfl
  | 1, i2 => rfl
  | 2, i2 => rfl
  | 3, i2 => rfl
  | 4, i2 => rfl
  | 5, i2 => rfl
  | 6, i2 => rfl
  | 7, i2 => rfl
  | 8, i2 => rfl
  | 9, i2 => rfl
  | 10, i2 => rfl
  | 11, i2 => by
    by_cases e : i2 = 0
    · subst e
      rfl
    · rw [if_neg (fun z => e z.2)]
      show (if i2 = 0 then _ else none) = (if i2 = 0 then _ else none)
      rw [if_neg e, if_neg e]
  | 12, i2 => rfl
  | 13, i2 => rfl
  | 14, i2 => rfl
  | 15, i2 => rfl
  | 16, i2 => rfl
  | 17, i2 => rfl
  | n + 18, i2 => rfl
theorem ks_11_1 {v : Int32} {Y : YM} {d kc ks pc : Nat} {lv : List (Option Value)} {st : List Value} {post : Option Value → AH → Prop} (hK : KR G O ad S X L wn sl fl h) (hF : KF O h0 h) (kk : ∀ h, KR G O ad (vf_upd S.1 30 v, S.2) X L wn sl fl h → KF O h0 h → J Y d G kc ks pc lv st h post) : J Y d G kc ks pc lv st (hu h (ad 11 0) (.inr (10, (fTape ad S).set 1 (.int v)))) post := by
  exact kk _ (hK.set cs_tape kc_11_1) (hF.hu (hK.own cs_tape))
theorem kc_12_3 {v : Int32} : ∀ c2 i2, cs ad S (vf_upd X.1 0 v, X.2) L wn sl fl c2 i2 = if c2 = 12 ∧ i2 = 0 then some (Ob 9 ((fBook ad X).set 3 (.int v))) else cs ad S X L wn sl fl c2 i2
  | 0, i2 => rfl
  | 1, i2 => rfl
  | 2, i2 => rfl
  | 3, i2 => rfl
  | 4, i2 => rfl
  | 5, i2 => rfl
  | 6, i2 => rfl
  | 7, i2 => rfl
  | 8, i2 => rfl
  | 9, i2 => rfl
  | 10, i2 => rfl
  | 11, i2 => rfl
  | 12, i2 => by
    by_cases e : i2 = 0
    · subst e
      rfl
    · rw [if_neg (fun z => e z.2)]
      show (if i2 = 0 then _ else none) = (if i2 = 0 then _ else none)
      rw [if_neg e, if_neg e]
  | 13, i2 => rfl
  | 14, i2 => rfl
  | 15, i2 => rfl
  | 16, i2 => rfl
  | 17, i2 => rfl
  | n + 18, i2 => rfl
theorem ks_12_3 {v : Int32} {Y : YM} {d kc ks pc : Nat} {lv : List (Option Value)} {st : List Value} {post : Option Value → AH → Prop} (hK : KR G O ad S X L wn sl fl h) (hF : KF O h0 h) (kk : ∀ h, KR G O ad S (vf_upd X.1 0 v, X.2) L wn sl fl h → KF O h0 h → J Y d G kc ks pc lv st h post) : J Y d G kc ks pc lv st (hu h (ad 12 0) (.inr (9, (fBook ad X).set 3 (.int v)))) post := by
  exact kk _ (hK.set cs_book kc_12_3) (hF.hu (hK.own cs_book))
theorem kc_13_3 {v : Int32} : ∀ c2 i2, cs ad S (vf_upd X.1 1 v, X.2) L wn sl fl c2 i2 = if c2 = 13 ∧ i2 = 0 then some (Ob 5 ((fPack ad X).set 3 (.int v))) else cs ad S X L wn sl fl c2 i2
  | 0, i2 => rfl
  | 1, i2 => rfl
  | 2, i2 => rfl
  | 3, i2 => rfl
  | 4, i2 => rfl
  | 5, i2 => rfl
  | 6, i2 => rfl
  | 7, i2 => rfl
  | 8, i2 => rfl
  | 9, i2 => rfl
  | 10, i2 => rfl
  | 11, i2 => rfl
  | 12, i2 => rfl
  | 13, i2 => by
    by_cases e : i2 = 0
    · subst e
      rfl
    · rw [if_neg (fun z => e z.2)]
      show (if i2 = 0 then _ else none) = (if i2 = 0 then _ else none)
      rw [if_neg e, if_neg e]
  | 14, i2 => rfl
  | 15, i2 => rfl
  | 16, i2 => rfl
  | 17, i2 => rfl
  | n + 18, i2 => rfl
theorem ks_13_3 {v : Int32} {Y : YM} {d kc ks pc : Nat} {lv : List (Option Value)} {st : List Value} {post : Option Value → AH → Prop} (hK : KR G O ad S X L wn sl fl h) (hF : KF O h0 h) (kk : ∀ h, KR G O ad S (vf_upd X.1 1 v, X.2) L wn sl fl h → KF O h0 h → J Y d G kc ks pc lv st h post) : J Y d G kc ks pc lv st (hu h (ad 13 0) (.inr (5, (fPack ad X).set 3 (.int v)))) post := by
  exact kk _ (hK.set cs_pack kc_13_3) (hF.hu (hK.own cs_pack))
theorem kc_13_4 {v : Int32} : ∀ c2 i2, cs ad S (vf_upd X.1 2 v, X.2) L wn sl fl c2 i2 = if c2 = 13 ∧ i2 = 0 then some (Ob 5 ((fPack ad X).set 4 (.int v))) else cs ad S X L wn sl fl c2 i2
  | 0, i2 => rfl
  | 1, i2 => rfl
  | 2, i2 => rfl
  | 3, i2 => rfl
  | 4, i2 => rfl
  | 5, i2 => rfl
  | 6, i2 => rfl
  | 7, i2 => rfl
  | 8, i2 => rfl
  | 9, i2 => rfl
  | 10, i2 => rfl
  | 11, i2 => rfl
  | 12, i2 => rfl
  | 13, i2 => by
    by_cases e : i2 = 0
    · subst e
      rfl
    · rw [if_neg (fun z => e z.2)]
      show (if i2 = 0 then _ else none) = (if i2 = 0 then _ else none)
      rw [if_neg e, if_neg e]
  | 14, i2 => rfl
  | 15, i2 => rfl
  | 16, i2 => rfl
  | 17, i2 => rfl
  | n + 18, i2 => rfl
theorem ks_13_4 {v : Int32} {Y : YM} {d kc ks pc : Nat} {lv : List (Option Value)} {st : List Value} {post : Option Value → AH → Prop} (hK : KR G O ad S X L wn sl fl h) (hF : KF O h0 h) (kk : ∀ h, KR G O ad S (vf_upd X.1 2 v, X.2) L wn sl fl h → KF O h0 h → J Y d G kc ks pc lv st h post) : J Y d G kc ks pc lv st (hu h (ad 13 0) (.inr (5, (fPack ad X).set 4 (.int v)))) post := by
  exact kk _ (hK.set cs_pack kc_13_4) (hF.hu (hK.own cs_pack))
theorem kc_14_4 {v : Int32} : ∀ c2 i2, cs ad S (vf_upd X.1 3 v, X.2) L wn sl fl c2 i2 = if c2 = 14 ∧ i2 = 0 then some (Ob 4 ((fSea ad X).set 4 (.int v))) else cs ad S X L wn sl fl c2 i2
  | 0, i2 => rfl
  | 1, i2 => rfl
  | 2, i2 => rfl
  | 3, i2 => rfl
  | 4, i2 => rfl
  | 5, i2 => rfl
  | 6, i2 => rfl
  | 7, i2 => rfl
  | 8, i2 => rfl
  | 9, i2 => rfl
  | 10, i2 => rfl
  | 11, i2 => rfl
  | 12, i2 => rfl
  | 13, i2 => rfl
  | 14, i2 => by
    by_cases e : i2 = 0
    · subst e
      rfl
    · rw [if_neg (fun z => e z.2)]
      show (if i2 = 0 then _ else none) = (if i2 = 0 then _ else none)
      rw [if_neg e, if_neg e]
  | 15, i2 => rfl
  | 16, i2 => rfl
  | 17, i2 => rfl
  | n + 18, i2 => rfl
theorem ks_14_4 {v : Int32} {Y : YM} {d kc ks pc : Nat} {lv : List (Option Value)} {st : List Value} {post : Option Value → AH → Prop} (hK : KR G O ad S X L wn sl fl h) (hF : KF O h0 h) (kk : ∀ h, KR G O ad S (vf_upd X.1 3 v, X.2) L wn sl fl h → KF O h0 h → J Y d G kc ks pc lv st h post) : J Y d G kc ks pc lv st (hu h (ad 14 0) (.inr (4, (fSea ad X).set 4 (.int v)))) post := by
  exact kk _ (hK.set cs_sea kc_14_4) (hF.hu (hK.own cs_sea))
theorem kc_14_5 {v : Int32} : ∀ c2 i2, cs ad S (vf_upd X.1 4 v, X.2) L wn sl fl c2 i2 = if c2 = 14 ∧ i2 = 0 then some (Ob 4 ((fSea ad X).set 5 (.int v))) else cs ad S X L wn sl fl c2 i2
  | 0, i2 => rfl
  | 1, i2 => rfl
  | 2, i2 => rfl
  | 3, i2 => rfl
  | 4, i2 => rfl
  | 5, i2 => rfl
  | 6, i2 => rfl
  | 7, i2 => rfl
  | 8, i2 => rfl
  | 9, i2 => rfl
  | 10, i2 => rfl
  | 11, i2 => rfl
  | 12, i2 => rfl
  | 13, i2 => rfl
  | 14, i2 => by
    by_cases e : i2 = 0
    · subst e
      rfl
    · rw [if_neg (fun z => e z.2)]
      show (if i2 = 0 then _ else none) = (if i2 = 0 then _ else none)
      rw [if_neg e, if_neg e]
  | 15, i2 => rfl
  | 16, i2 => rfl
  | 17, i2 => rfl
  | n + 18, i2 => rfl
theorem ks_14_5 {v : Int32} {Y : YM} {d kc ks pc : Nat} {lv : List (Option Value)} {st : List Value} {post : Option Value → AH → Prop} (hK : KR G O ad S X L wn sl fl h) (hF : KF O h0 h) (kk : ∀ h, KR G O ad S (vf_upd X.1 4 v, X.2) L wn sl fl h → KF O h0 h → J Y d G kc ks pc lv st h post) : J Y d G kc ks pc lv st (hu h (ad 14 0) (.inr (4, (fSea ad X).set 5 (.int v)))) post := by
  exact kk _ (hK.set cs_sea kc_14_5) (hF.hu (hK.own cs_sea))
theorem kc_14_6 {v : Int32} : ∀ c2 i2, cs ad S (vf_upd X.1 5 v, X.2) L wn sl fl c2 i2 = if c2 = 14 ∧ i2 = 0 then some (Ob 4 ((fSea ad X).set 6 (.int v))) else cs ad S X L wn sl fl c2 i2
  | 0, i2 => rfl
  | 1, i2 => rfl
  | 2, i2 => rfl
  | 3, i2 => rfl
  | 4, i2 => rfl
  | 5, i2 => rfl
  | 6, i2 => rfl
  | 7, i2 => rfl
  | 8, i2 => rfl
  | 9, i2 => rfl
  | 10, i2 => rfl
  | 11, i2 => rfl
  | 12, i2 => rfl
  | 13, i2 => rfl
  | 14, i2 => by
    by_cases e : i2 = 0
    · subst e
      rfl
    · rw [if_neg (fun z => e z.2)]
      show (if i2 = 0 then _ else none) = (if i2 = 0 then _ else none)
      rw [if_neg e, if_neg e]
  | 15, i2 => rfl
  | 16, i2 => rfl
  | 17, i2 => rfl
  | n + 18, i2 => rfl
theorem ks_14_6 {v : Int32} {Y : YM} {d kc ks pc : Nat} {lv : List (Option Value)} {st : List Value} {post : Option Value → AH → Prop} (hK : KR G O ad S X L wn sl fl h) (hF : KF O h0 h) (kk : ∀ h, KR G O ad S (vf_upd X.1 5 v, X.2) L wn sl fl h → KF O h0 h → J Y d G kc ks pc lv st h post) : J Y d G kc ks pc lv st (hu h (ad 14 0) (.inr (4, (fSea ad X).set 6 (.int v)))) post := by
  exact kk _ (hK.set cs_sea kc_14_6) (hF.hu (hK.own cs_sea))
theorem kc_14_7 {v : Int32} : ∀ c2 i2, cs ad S (vf_upd X.1 6 v, X.2) L wn sl fl c2 i2 = if c2 = 14 ∧ i2 = 0 then some (Ob 4 ((fSea ad X).set 7 (.int v))) else cs ad S X L wn sl fl c2 i2
  | 0, i2 => rfl
  | 1, i2 => rfl
  | 2, i2 => rfl
  | 3, i2 => rfl
  | 4, i2 => rfl
  | 5, i2 => rfl
  | 6, i2 => rfl
  | 7, i2 => rfl
  | 8, i2 => rfl
  | 9, i2 => rfl
  | 10, i2 => rfl
  | 11, i2 => rfl
  | 12, i2 => rfl
  | 13, i2 => rfl
  | 14, i2 => by
    by_cases e : i2 = 0
    · subst e
      rfl
    · rw [if_neg (fun z => e z.2)]
      show (if i2 = 0 then _ else none) = (if i2 = 0 then _ else none)
      rw [if_neg e, if_neg e]
  | 15, i2 => rfl
  | 16, i2 => rfl
  | 17, i2 => rfl
  | n + 18, i2 => rfl
theorem ks_14_7 {v : Int32} {Y : YM} {d kc ks pc : Nat} {lv : List (Option Value)} {st : List Value} {post : Option Value → AH → Prop} (hK : KR G O ad S X L wn sl fl h) (hF : KF O h0 h) (kk : ∀ h, KR G O ad S (vf_upd X.1 6 v, X.2) L wn sl fl h → KF O h0 h → J Y d G kc ks pc lv st h post) : J Y d G kc ks pc lv st (hu h (ad 14 0) (.inr (4, (fSea ad X).set 7 (.int v)))) post := by
  exact kk _ (hK.set cs_sea kc_14_7) (hF.hu (hK.own cs_sea))
theorem kc_15_0 {p : Nat} {v : Int32} : ∀ c2 i2, cs ad (S.1, u2 S.2 4 p v) X L wn sl fl c2 i2 = if c2 = 15 ∧ i2 = 0 then some (Ai 12 (upd (S.2 4) p v)) else cs ad S X L wn sl fl c2 i2
  | 0, i2 => rfl
  | 1, i2 => rfl
  | 2, i2 => rfl
  | 3, i2 => rfl
  | 4, i2 => rfl
  | 5, i2 => rfl
  | 6, i2 => rfl
  | 7, i2 => rfl
  | 8, i2 => rfl
  | 9, i2 => rfl
  | 10, i2 => rfl
  | 11, i2 => rfl
  | 12, i2 => rfl
  | 13, i2 => rfl
  | 14, i2 => rfl
  | 15, i2 => by
    match i2 with
    | 0 => rfl
    | 1 => rfl
    | 2 => rfl
    | 3 => rfl
    | 4 => rfl
    | 5 => rfl
    | 6 => rfl
    | 7 => rfl
    | 8 => rfl
    | 9 => rfl
    | n + 10 => rfl
  | 16, i2 => rfl
  | 17, i2 => rfl
  | n + 18, i2 => rfl
theorem ks_15_0 {p : Nat} {v : Int32} {Y : YM} {d kc ks pc : Nat} {lv : List (Option Value)} {st : List Value} {post : Option Value → AH → Prop} (hK : KR G O ad S X L wn sl fl h) (hF : KF O h0 h) (kk : ∀ h, KR G O ad (S.1, u2 S.2 4 p v) X L wn sl fl h → KF O h0 h → J Y d G kc ks pc lv st h post) : J Y d G kc ks pc lv st (hu h (ad 15 0) (Ai 12 (upd (S.2 4) p v))) post := by
  exact kk _ (hK.set (c := 15) (i := 0) rfl kc_15_0) (hF.hu (hK.own (c := 15) (i := 0) rfl))
theorem kc_15_1 {p : Nat} {v : Int32} : ∀ c2 i2, cs ad (S.1, u2 S.2 5 p v) X L wn sl fl c2 i2 = if c2 = 15 ∧ i2 = 1 then some (Ai 12 (upd (S.2 5) p v)) else cs ad S X L wn sl fl c2 i2
  | 0, i2 => rfl
  | 1, i2 => rfl
  | 2, i2 => rfl
  | 3, i2 => rfl
  | 4, i2 => rfl
  | 5, i2 => rfl
  | 6, i2 => rfl
  | 7, i2 => rfl
  | 8, i2 => rfl
  | 9, i2 => rfl
  | 10, i2 => rfl
  | 11, i2 => rfl
  | 12, i2 => rfl
  | 13, i2 => rfl
  | 14, i2 => rfl
  | 15, i2 => by
    match i2 with
    | 0 => rfl
    | 1 => rfl
    | 2 => rfl
    | 3 => rfl
    | 4 => rfl
    | 5 => rfl
    | 6 => rfl
    | 7 => rfl
    | 8 => rfl
    | 9 => rfl
    | n + 10 => rfl
  | 16, i2 => rfl
  | 17, i2 => rfl
  | n + 18, i2 => rfl
theorem ks_15_1 {p : Nat} {v : Int32} {Y : YM} {d kc ks pc : Nat} {lv : List (Option Value)} {st : List Value} {post : Option Value → AH → Prop} (hK : KR G O ad S X L wn sl fl h) (hF : KF O h0 h) (kk : ∀ h, KR G O ad (S.1, u2 S.2 5 p v) X L wn sl fl h → KF O h0 h → J Y d G kc ks pc lv st h post) : J Y d G kc ks pc lv st (hu h (ad 15 1) (Ai 12 (upd (S.2 5) p v))) post := by
  exact kk _ (hK.set (c := 15) (i := 1) rfl kc_15_1) (hF.hu (hK.own (c := 15) (i := 1) rfl))
theorem kc_15_2 {p : Nat} {v : Int32} : ∀ c2 i2, cs ad (S.1, u2 S.2 6 p v) X L wn sl fl c2 i2 = if c2 = 15 ∧ i2 = 2 then some (Ai 12 (upd (S.2 6) p v)) else cs ad S X L wn sl fl c2 i2
  | 0, i2 => rfl
  | 1, i2 => rfl
  | 2, i2 => rfl
  | 3, i2 => rfl
  | 4, i2 => rfl
  | 5, i2 => rfl
  | 6, i2 => rfl
  | 7, i2 => rfl
  | 8, i2 => rfl
  | 9, i2 => rfl
  | 10, i2 => rfl
  | 11, i2 => rfl
  | 12, i2 => rfl
  | 13, i2 => rfl
  | 14, i2 => rfl
  | 15, i2 => by
    match i2 with
    | 0 => rfl
    | 1 => rfl
    | 2 => rfl
    | 3 => rfl
    | 4 => rfl
    | 5 => rfl
    | 6 => rfl
    | 7 => rfl
    | 8 => rfl
    | 9 => rfl
    | n + 10 => rfl
  | 16, i2 => rfl
  | 17, i2 => rfl
  | n + 18, i2 => rfl
theorem ks_15_2 {p : Nat} {v : Int32} {Y : YM} {d kc ks pc : Nat} {lv : List (Option Value)} {st : List Value} {post : Option Value → AH → Prop} (hK : KR G O ad S X L wn sl fl h) (hF : KF O h0 h) (kk : ∀ h, KR G O ad (S.1, u2 S.2 6 p v) X L wn sl fl h → KF O h0 h → J Y d G kc ks pc lv st h post) : J Y d G kc ks pc lv st (hu h (ad 15 2) (Ai 12 (upd (S.2 6) p v))) post := by
  exact kk _ (hK.set (c := 15) (i := 2) rfl kc_15_2) (hF.hu (hK.own (c := 15) (i := 2) rfl))
theorem kc_15_3 {p : Nat} {v : Int32} : ∀ c2 i2, cs ad (S.1, u2 S.2 29 p v) X L wn sl fl c2 i2 = if c2 = 15 ∧ i2 = 3 then some (Ai 60 (upd (S.2 29) p v)) else cs ad S X L wn sl fl c2 i2
  | 0, i2 => rfl
  | 1, i2 => rfl
  | 2, i2 => rfl
  | 3, i2 => rfl
  | 4, i2 => rfl
  | 5, i2 => rfl
  | 6, i2 => rfl
  | 7, i2 => rfl
  | 8, i2 => rfl
  | 9, i2 => rfl
  | 10, i2 => rfl
  | 11, i2 => rfl
  | 12, i2 => rfl
  | 13, i2 => rfl
  | 14, i2 => rfl
  | 15, i2 => by
    match i2 with
    | 0 => rfl
    | 1 => rfl
    | 2 => rfl
    | 3 => rfl
    | 4 => rfl
    | 5 => rfl
    | 6 => rfl
    | 7 => rfl
    | 8 => rfl
    | 9 => rfl
    | n + 10 => rfl
  | 16, i2 => rfl
  | 17, i2 => rfl
  | n + 18, i2 => rfl
theorem ks_15_3 {p : Nat} {v : Int32} {Y : YM} {d kc ks pc : Nat} {lv : List (Option Value)} {st : List Value} {post : Option Value → AH → Prop} (hK : KR G O ad S X L wn sl fl h) (hF : KF O h0 h) (kk : ∀ h, KR G O ad (S.1, u2 S.2 29 p v) X L wn sl fl h → KF O h0 h → J Y d G kc ks pc lv st h post) : J Y d G kc ks pc lv st (hu h (ad 15 3) (Ai 60 (upd (S.2 29) p v))) post := by
  exact kk _ (hK.set (c := 15) (i := 3) rfl kc_15_3) (hF.hu (hK.own (c := 15) (i := 3) rfl))
theorem kc_15_4 {p : Nat} {v : Int32} : ∀ c2 i2, cs ad S (X.1, u2 X.2 1 p v) L wn sl fl c2 i2 = if c2 = 15 ∧ i2 = 4 then some (Ai 11 (upd (X.2 1) p v)) else cs ad S X L wn sl fl c2 i2
  | 0, i2 => rfl
  | 1, i2 => rfl
  | 2, i2 => rfl
  | 3, i2 => rfl
  | 4, i2 => rfl
  | 5, i2 => rfl
  | 6, i2 => rfl
  | 7, i2 => rfl
  | 8, i2 => rfl
  | 9, i2 => by
    show (if i2 < (L 6).length then some (Ai (sl i2) (u2 X.2 1 p v (100 + i2))) else none) = (if i2 < (L 6).length then some (Ai (sl i2) (X.2 (100 + i2))) else none)
    rw [u2_n (by omega)]
  | 10, i2 => rfl
  | 11, i2 => rfl
  | 12, i2 => rfl
  | 13, i2 => rfl
  | 14, i2 => rfl
  | 15, i2 => by
    match i2 with
    | 0 => rfl
    | 1 => rfl
    | 2 => rfl
    | 3 => rfl
    | 4 => rfl
    | 5 => rfl
    | 6 => rfl
    | 7 => rfl
    | 8 => rfl
    | 9 => rfl
    | n + 10 => rfl
  | 16, i2 => rfl
  | 17, i2 => rfl
  | n + 18, i2 => rfl
theorem ks_15_4 {p : Nat} {v : Int32} {Y : YM} {d kc ks pc : Nat} {lv : List (Option Value)} {st : List Value} {post : Option Value → AH → Prop} (hK : KR G O ad S X L wn sl fl h) (hF : KF O h0 h) (kk : ∀ h, KR G O ad S (X.1, u2 X.2 1 p v) L wn sl fl h → KF O h0 h → J Y d G kc ks pc lv st h post) : J Y d G kc ks pc lv st (hu h (ad 15 4) (Ai 11 (upd (X.2 1) p v))) post := by
  exact kk _ (hK.set (c := 15) (i := 4) rfl kc_15_4) (hF.hu (hK.own (c := 15) (i := 4) rfl))
theorem kc_15_5 {p : Nat} {v : Int32} : ∀ c2 i2, cs ad S (X.1, u2 X.2 2 p v) L wn sl fl c2 i2 = if c2 = 15 ∧ i2 = 5 then some (Ai 20 (upd (X.2 2) p v)) else cs ad S X L wn sl fl c2 i2
  | 0, i2 => rfl
  | 1, i2 => rfl
  | 2, i2 => rfl
  | 3, i2 => rfl
  | 4, i2 => rfl
  | 5, i2 => rfl
  | 6, i2 => rfl
  | 7, i2 => rfl
  | 8, i2 => rfl
  | 9, i2 => by
    show (if i2 < (L 6).length then some (Ai (sl i2) (u2 X.2 2 p v (100 + i2))) else none) = (if i2 < (L 6).length then some (Ai (sl i2) (X.2 (100 + i2))) else none)
    rw [u2_n (by omega)]
  | 10, i2 => rfl
  | 11, i2 => rfl
  | 12, i2 => rfl
  | 13, i2 => rfl
  | 14, i2 => rfl
  | 15, i2 => by
    match i2 with
    | 0 => rfl
    | 1 => rfl
    | 2 => rfl
    | 3 => rfl
    | 4 => rfl
    | 5 => rfl
    | 6 => rfl
    | 7 => rfl
    | 8 => rfl
    | 9 => rfl
    | n + 10 => rfl
  | 16, i2 => rfl
  | 17, i2 => rfl
  | n + 18, i2 => rfl
theorem ks_15_5 {p : Nat} {v : Int32} {Y : YM} {d kc ks pc : Nat} {lv : List (Option Value)} {st : List Value} {post : Option Value → AH → Prop} (hK : KR G O ad S X L wn sl fl h) (hF : KF O h0 h) (kk : ∀ h, KR G O ad S (X.1, u2 X.2 2 p v) L wn sl fl h → KF O h0 h → J Y d G kc ks pc lv st h post) : J Y d G kc ks pc lv st (hu h (ad 15 5) (Ai 20 (upd (X.2 2) p v))) post := by
  exact kk _ (hK.set (c := 15) (i := 5) rfl kc_15_5) (hF.hu (hK.own (c := 15) (i := 5) rfl))
theorem kc_15_6 {p : Nat} {v : Int32} : ∀ c2 i2, cs ad S (X.1, u2 X.2 3 p v) L wn sl fl c2 i2 = if c2 = 15 ∧ i2 = 6 then some (Ai 9 (upd (X.2 3) p v)) else cs ad S X L wn sl fl c2 i2
  | 0, i2 => rfl
  | 1, i2 => rfl
  | 2, i2 => rfl
  | 3, i2 => rfl
  | 4, i2 => rfl
  | 5, i2 => rfl
  | 6, i2 => rfl
  | 7, i2 => rfl
  | 8, i2 => rfl
  | 9, i2 => by
    show (if i2 < (L 6).length then some (Ai (sl i2) (u2 X.2 3 p v (100 + i2))) else none) = (if i2 < (L 6).length then some (Ai (sl i2) (X.2 (100 + i2))) else none)
    rw [u2_n (by omega)]
  | 10, i2 => rfl
  | 11, i2 => rfl
  | 12, i2 => rfl
  | 13, i2 => rfl
  | 14, i2 => rfl
  | 15, i2 => by
    match i2 with
    | 0 => rfl
    | 1 => rfl
    | 2 => rfl
    | 3 => rfl
    | 4 => rfl
    | 5 => rfl
    | 6 => rfl
    | 7 => rfl
    | 8 => rfl
    | 9 => rfl
    | n + 10 => rfl
  | 16, i2 => rfl
  | 17, i2 => rfl
  | n + 18, i2 => rfl
theorem ks_15_6 {p : Nat} {v : Int32} {Y : YM} {d kc ks pc : Nat} {lv : List (Option Value)} {st : List Value} {post : Option Value → AH → Prop} (hK : KR G O ad S X L wn sl fl h) (hF : KF O h0 h) (kk : ∀ h, KR G O ad S (X.1, u2 X.2 3 p v) L wn sl fl h → KF O h0 h → J Y d G kc ks pc lv st h post) : J Y d G kc ks pc lv st (hu h (ad 15 6) (Ai 9 (upd (X.2 3) p v))) post := by
  exact kk _ (hK.set (c := 15) (i := 6) rfl kc_15_6) (hF.hu (hK.own (c := 15) (i := 6) rfl))
theorem kc_15_7 {p : Nat} {v : Int32} : ∀ c2 i2, cs ad S (X.1, u2 X.2 4 p v) L wn sl fl c2 i2 = if c2 = 15 ∧ i2 = 7 then some (Ai 9 (upd (X.2 4) p v)) else cs ad S X L wn sl fl c2 i2
  | 0, i2 => rfl
  | 1, i2 => rfl
  | 2, i2 => rfl
  | 3, i2 => rfl
  | 4, i2 => rfl
  | 5, i2 => rfl
  | 6, i2 => rfl
  | 7, i2 => rfl
  | 8, i2 => rfl
  | 9, i2 => by
    show (if i2 < (L 6).length then some (Ai (sl i2) (u2 X.2 4 p v (100 + i2))) else none) = (if i2 < (L 6).length then some (Ai (sl i2) (X.2 (100 + i2))) else none)
    rw [u2_n (by omega)]
  | 10, i2 => rfl
  | 11, i2 => rfl
  | 12, i2 => rfl
  | 13, i2 => rfl
  | 14, i2 => rfl
  | 15, i2 => by
    match i2 with
    | 0 => rfl
    | 1 => rfl
    | 2 => rfl
    | 3 => rfl
    | 4 => rfl
    | 5 => rfl
    | 6 => rfl
    | 7 => rfl
    | 8 => rfl
    | 9 => rfl
    | n + 10 => rfl
  | 16, i2 => rfl
  | 17, i2 => rfl
  | n + 18, i2 => rfl
theorem ks_15_7 {p : Nat} {v : Int32} {Y : YM} {d kc ks pc : Nat} {lv : List (Option Value)} {st : List Value} {post : Option Value → AH → Prop} (hK : KR G O ad S X L wn sl fl h) (hF : KF O h0 h) (kk : ∀ h, KR G O ad S (X.1, u2 X.2 4 p v) L wn sl fl h → KF O h0 h → J Y d G kc ks pc lv st h post) : J Y d G kc ks pc lv st (hu h (ad 15 7) (Ai 9 (upd (X.2 4) p v))) post := by
  exact kk _ (hK.set (c := 15) (i := 7) rfl kc_15_7) (hF.hu (hK.own (c := 15) (i := 7) rfl))
theorem kc_15_8 {p : Nat} {v : Int32} : ∀ c2 i2, cs ad S (X.1, u2 X.2 5 p v) L wn sl fl c2 i2 = if c2 = 15 ∧ i2 = 8 then some (Ai 5 (upd (X.2 5) p v)) else cs ad S X L wn sl fl c2 i2
  | 0, i2 => rfl
  | 1, i2 => rfl
  | 2, i2 => rfl
  | 3, i2 => rfl
  | 4, i2 => rfl
  | 5, i2 => rfl
  | 6, i2 => rfl
  | 7, i2 => rfl
  | 8, i2 => rfl
  | 9, i2 => by
    show (if i2 < (L 6).length then some (Ai (sl i2) (u2 X.2 5 p v (100 + i2))) else none) = (if i2 < (L 6).length then some (Ai (sl i2) (X.2 (100 + i2))) else none)
    rw [u2_n (by omega)]
  | 10, i2 => rfl
  | 11, i2 => rfl
  | 12, i2 => rfl
  | 13, i2 => rfl
  | 14, i2 => rfl
  | 15, i2 => by
    match i2 with
    | 0 => rfl
    | 1 => rfl
    | 2 => rfl
    | 3 => rfl
    | 4 => rfl
    | 5 => rfl
    | 6 => rfl
    | 7 => rfl
    | 8 => rfl
    | 9 => rfl
    | n + 10 => rfl
  | 16, i2 => rfl
  | 17, i2 => rfl
  | n + 18, i2 => rfl
theorem ks_15_8 {p : Nat} {v : Int32} {Y : YM} {d kc ks pc : Nat} {lv : List (Option Value)} {st : List Value} {post : Option Value → AH → Prop} (hK : KR G O ad S X L wn sl fl h) (hF : KF O h0 h) (kk : ∀ h, KR G O ad S (X.1, u2 X.2 5 p v) L wn sl fl h → KF O h0 h → J Y d G kc ks pc lv st h post) : J Y d G kc ks pc lv st (hu h (ad 15 8) (Ai 5 (upd (X.2 5) p v))) post := by
  exact kk _ (hK.set (c := 15) (i := 8) rfl kc_15_8) (hF.hu (hK.own (c := 15) (i := 8) rfl))
theorem kc_15_9 {p : Nat} {v : Int32} : ∀ c2 i2, cs ad S (X.1, u2 X.2 6 p v) L wn sl fl c2 i2 = if c2 = 15 ∧ i2 = 9 then some (Ai 5 (upd (X.2 6) p v)) else cs ad S X L wn sl fl c2 i2
  | 0, i2 => rfl
  | 1, i2 => rfl
  | 2, i2 => rfl
  | 3, i2 => rfl
  | 4, i2 => rfl
  | 5, i2 => rfl
  | 6, i2 => rfl
  | 7, i2 => rfl
  | 8, i2 => rfl
  | 9, i2 => by
    show (if i2 < (L 6).length then some (Ai (sl i2) (u2 X.2 6 p v (100 + i2))) else none) = (if i2 < (L 6).length then some (Ai (sl i2) (X.2 (100 + i2))) else none)
    rw [u2_n (by omega)]
  | 10, i2 => rfl
  | 11, i2 => rfl
  | 12, i2 => rfl
  | 13, i2 => rfl
  | 14, i2 => rfl
  | 15, i2 => by
    match i2 with
    | 0 => rfl
    | 1 => rfl
    | 2 => rfl
    | 3 => rfl
    | 4 => rfl
    | 5 => rfl
    | 6 => rfl
    | 7 => rfl
    | 8 => rfl
    | 9 => rfl
    | n + 10 => rfl
  | 16, i2 => rfl
  | 17, i2 => rfl
  | n + 18, i2 => rfl
theorem ks_15_9 {p : Nat} {v : Int32} {Y : YM} {d kc ks pc : Nat} {lv : List (Option Value)} {st : List Value} {post : Option Value → AH → Prop} (hK : KR G O ad S X L wn sl fl h) (hF : KF O h0 h) (kk : ∀ h, KR G O ad S (X.1, u2 X.2 6 p v) L wn sl fl h → KF O h0 h → J Y d G kc ks pc lv st h post) : J Y d G kc ks pc lv st (hu h (ad 15 9) (Ai 5 (upd (X.2 6) p v))) post := by
  exact kk _ (hK.set (c := 15) (i := 9) rfl kc_15_9) (hF.hu (hK.own (c := 15) (i := 9) rfl))
theorem kc_16 {p : Nat} {v : Int32} : ∀ c2 i2, cs ad S (X.1, u2 X.2 7 p v) L wn sl fl c2 i2 = if c2 = 16 ∧ i2 = 0 then some (Ai 32 (upd (X.2 7) p v)) else cs ad S X L wn sl fl c2 i2
  | 0, i2 => rfl
  | 1, i2 => rfl
  | 2, i2 => rfl
  | 3, i2 => rfl
  | 4, i2 => rfl
  | 5, i2 => rfl
  | 6, i2 => rfl
  | 7, i2 => rfl
  | 8, i2 => rfl
  | 9, i2 => by
    show (if i2 < (L 6).length then some (Ai (sl i2) (u2 X.2 7 p v (100 + i2))) else none) = (if i2 < (L 6).length then some (Ai (sl i2) (X.2 (100 + i2))) else none)
    rw [u2_n (by omega)]
  | 10, i2 => rfl
  | 11, i2 => rfl
  | 12, i2 => rfl
  | 13, i2 => rfl
  | 14, i2 => rfl
  | 15, i2 => rfl
  | 16, i2 => by
    by_cases e : i2 = 0
    · subst e
      rfl
    · rw [if_neg (fun z => e z.2)]
      show (if i2 = 0 then _ else none) = (if i2 = 0 then _ else none)
      rw [if_neg e, if_neg e]
  | 17, i2 => rfl
  | n + 18, i2 => rfl
theorem ks_16 {p : Nat} {v : Int32} {Y : YM} {d kc ks pc : Nat} {lv : List (Option Value)} {st : List Value} {post : Option Value → AH → Prop} (hK : KR G O ad S X L wn sl fl h) (hF : KF O h0 h) (kk : ∀ h, KR G O ad S (X.1, u2 X.2 7 p v) L wn sl fl h → KF O h0 h → J Y d G kc ks pc lv st h post) : J Y d G kc ks pc lv st (hu h (ad 16 0) (Ai 32 (upd (X.2 7) p v))) post := by
  exact kk _ (hK.set cs_taken kc_16) (hF.hu (hK.own cs_taken))
theorem kc_17 {p x : Nat} : ∀ c2 i2, cs ad S X L (va_up wn p (some x)) sl fl c2 i2 = if c2 = 17 ∧ i2 = 0 then some (Aq "HutLift$Place" 5 (va_up (fun j => (wn j).map (ad 3)) p (some (ad 3 x)))) else cs ad S X L wn sl fl c2 i2
  | 0, i2 => rfl
  | 1, i2 => rfl
  | 2, i2 => rfl
  | 3, i2 => rfl
  | 4, i2 => rfl
  | 5, i2 => rfl
  | 6, i2 => rfl
  | 7, i2 => rfl
  | 8, i2 => rfl
  | 9, i2 => rfl
  | 10, i2 => rfl
  | 11, i2 => rfl
  | 12, i2 => rfl
  | 13, i2 => rfl
  | 14, i2 => rfl
  | 15, i2 => rfl
  | 16, i2 => rfl
  | 17, i2 => by
    by_cases e : i2 = 0
    · subst e
      show some (Aq "HutLift$Place" 5 (fun j => (va_up wn p (some x) j).map (ad 3))) = some (Aq "HutLift$Place" 5 (va_up (fun j => (wn j).map (ad 3)) p (some (ad 3 x))))
      congr 2
      refine funext fun j => ?_
      by_cases q : j = p
      · subst q
        rw [va_up_self, va_up_self]
        rfl
      · rw [va_up_ne _ _ q, va_up_ne _ _ q]
    · rw [if_neg (fun z => e z.2)]
      show (if i2 = 0 then _ else none) = (if i2 = 0 then _ else none)
      rw [if_neg e, if_neg e]
  | n + 18, i2 => rfl
theorem ks_17 {p x : Nat} {Y : YM} {d kc ks pc : Nat} {lv : List (Option Value)} {st : List Value} {post : Option Value → AH → Prop} (hK : KR G O ad S X L wn sl fl h) (hF : KF O h0 h) (kk : ∀ h, KR G O ad S X L (va_up wn p (some x)) sl fl h → KF O h0 h → J Y d G kc ks pc lv st h post) : J Y d G kc ks pc lv st (hu h (ad 17 0) (Aq "HutLift$Place" 5 (va_up (fun j => (wn j).map (ad 3)) p (some (ad 3 x))))) post := by
  exact kk _ (hK.set cs_wanted kc_17) (hF.hu (hK.own cs_wanted))
end KRS
