/-! the model: S.1 k: the int in slot k; S.2 k: the row in slot k -/
abbrev MS : Type := (Nat → Int32) × (Nat → Nat → Int32)
def u2 (f : Nat → Nat → Int32) (k i : Nat) (x : Int32) : Nat → Nat → Int32 := fun j => if j = k then upd (f k) i x else f j
theorem u2_s {f : Nat → Nat → Int32} {k i : Nat} {x : Int32} : u2 f k i x k = upd (f k) i x := if_pos rfl
theorem u2_n {f : Nat → Nat → Int32} {k i j : Nat} {x : Int32} (n : j ≠ k) : u2 f k i x j = f j := if_neg n
def mlen : Nat → Nat := fun k => match k with
  | 1 => 12
  | 2 => 12
  | 4 => 12
  | 5 => 12
  | 6 => 12
  | 7 => 4
  | 8 => 4
  | 9 => 4
  | 10 => 4
  | 12 => 6
  | 13 => 6
  | 14 => 6
  | 15 => 6
  | 17 => 80
  | 18 => 80
  | 19 => 80
  | 20 => 80
  | 21 => 80
  | 22 => 80
  | 23 => 80
  | 24 => 80
  | 25 => 80
  | 26 => 80
  | 27 => 80
  | 29 => 60
  | 31 => 600
  | 32 => 10
  | 34 => 20
  | 36 => 200
  | 37 => 200
  | 38 => 200
  | 39 => 200
  | 40 => 200
  | 41 => 200
  | 42 => 200
  | 43 => 200
  | 44 => 200
  | 49 => 80
  | 50 => 5
  | 52 => 5
  | 53 => 5
  | 54 => 5
  | 58 => 9
  | 59 => 9
  | 61 => 5
  | _ => 0
def mk : Nat → Bool := fun k => match k with
  | 1 => true
  | 2 => true
  | 4 => true
  | 5 => true
  | 6 => true
  | 7 => true
  | 8 => true
  | 9 => true
  | 10 => true
  | 12 => true
  | 13 => true
  | 14 => true
  | 15 => true
  | 17 => true
  | 18 => true
  | 19 => true
  | 20 => true
  | 21 => true
  | 22 => true
  | 23 => true
  | 24 => true
  | 25 => true
  | 26 => true
  | 27 => true
  | 29 => true
  | 31 => true
  | 32 => true
  | 34 => true
  | 36 => true
  | 37 => true
  | 38 => true
  | 39 => true
  | 40 => true
  | 41 => true
  | 42 => true
  | 43 => true
  | 44 => true
  | 49 => true
  | 50 => true
  | 52 => true
  | 53 => true
  | 54 => true
  | 58 => true
  | 59 => true
  | 61 => true
  | _ => false
def mz : Nat → Bool := fun k => match k with
  | 49 => true
  | 54 => true
  | _ => false
def mfl (ad : Nat → Nat) (S : MS) : List Value := [.int (S.1 0), .ref (ad 1), .ref (ad 2), .int (S.1 3), .ref (ad 4), .ref (ad 5), .ref (ad 6), .ref (ad 7), .ref (ad 8), .ref (ad 9), .ref (ad 10), .int (S.1 11), .ref (ad 12), .ref (ad 13), .ref (ad 14), .ref (ad 15), .int (S.1 16), .ref (ad 17), .ref (ad 18), .ref (ad 19), .ref (ad 20), .ref (ad 21), .ref (ad 22), .ref (ad 23), .ref (ad 24), .ref (ad 25), .ref (ad 26), .ref (ad 27), .int (S.1 28), .ref (ad 29), .int (S.1 30), .ref (ad 31), .ref (ad 32), .int (S.1 33), .ref (ad 34), .int (S.1 35), .ref (ad 36), .ref (ad 37), .ref (ad 38), .ref (ad 39), .ref (ad 40), .ref (ad 41), .ref (ad 42), .ref (ad 43), .ref (ad 44), .int (S.1 45), .int (S.1 46), .int (S.1 47), .int (S.1 48), .ref (ad 49), .ref (ad 50), .int (S.1 51), .ref (ad 52), .ref (ad 53), .ref (ad 54), .int (S.1 55), .int (S.1 56), .int (S.1 57), .ref (ad 58), .ref (ad 59), .int (S.1 60), .ref (ad 61)]
def marr (k : Nat) (f : Nat → Int32) : AE := if mz k = true then Az (mlen k) f else Ai (mlen k) f
def MR (m0 : Nat) (ad : Nat → Nat) (S : MS) (h : AH) : Prop := h m0 = some (Ob 13 (mfl ad S)) ∧ (∀ k, mk k = true → h (ad k) = some (marr k (S.2 k))) ∧ (∀ k, mk k = true → ad k ≠ m0) ∧ ∀ j k, mk j = true → mk k = true → ad j = ad k → j = k
def MF (m0 : Nat) (ad : Nat → Nat) (h0 h : AH) : Prop := ∀ a, a ≠ m0 → (∀ k, mk k = true → a ≠ ad k) → h a = h0 a
theorem MR.ints {m0 : Nat} {ad : Nat → Nat} {S : MS} {h : AH} (hM : MR m0 ad S h) (f : Nat → Int32) : MR m0 ad (f, S.2) (hu h m0 (Ob 13 (mfl ad (f, S.2)))) := by
  obtain ⟨h1, h2, h3, h4⟩ := hM
  exact ⟨hu_s, fun k hk => by rw [hu_n (h3 k hk)]; exact h2 k hk, h3, h4⟩
theorem MF.ints {m0 : Nat} {ad : Nat → Nat} {h0 h : AH} (hF : MF m0 ad h0 h) (e : AE) : MF m0 ad h0 (hu h m0 e) := fun a g1 g2 => by rw [hu_n g1]; exact hF a g1 g2
theorem MR.rows {m0 : Nat} {ad : Nat → Nat} {S : MS} {h : AH} (hM : MR m0 ad S h) {k : Nat} (hk : mk k = true) (i : Nat) (x : Int32) : MR m0 ad (S.1, u2 S.2 k i x) (hu h (ad k) (marr k (upd (S.2 k) i x))) := by
  obtain ⟨h1, h2, h3, h4⟩ := hM
  refine ⟨by rw [hu_n (Ne.symm (h3 k hk))]; exact h1, fun j hj => ?_, h3, h4⟩
  by_cases e : j = k
  · subst e
    show _ = some (marr j (u2 S.2 j i x j))
    rw [hu_s, u2_s]
  · show _ = some (marr j (u2 S.2 k i x j))
    rw [hu_n (fun z => e (h4 j k hj hk z)), u2_n e]
    exact h2 j hj
theorem MF.rows {m0 : Nat} {ad : Nat → Nat} {h0 h : AH} (hF : MF m0 ad h0 h) {k : Nat} (hk : mk k = true) (e : AE) : MF m0 ad h0 (hu h (ad k) e) := fun a g1 g2 => by rw [hu_n (g2 k hk)]; exact hF a g1 g2
theorem MF.refl {m0 : Nat} {ad : Nat → Nat} {h : AH} : MF m0 ad h h := fun _ _ _ => rfl
/-- a contract of the model's: the answer and the state behind it -/
def CM (Y : YM) (d : Nat) (av : List Value) (S : MS) (post : Option Value → MS → Prop) : Prop :=
  ∀ (G : Nat → Nat) (m0 : Nat) (ad : Nat → Nat) (h0 h : AH), MR m0 ad S h → MF m0 ad h0 h → Ct Y d G 0 0 (.ref m0 :: av) h (fun r h2 => ∃ S2, post r S2 ∧ MR m0 ad S2 h2 ∧ MF m0 ad h0 h2)
/-- a contract of a function of numbers -/
def CF (Y : YM) (d : Nat) (av : List Value) (v : Int32) : Prop := ∀ (G : Nat → Nat) (h : AH), Ct Y d G 0 0 av h (fun r h2 => r = some (.int v) ∧ h2 = h)
section ML
variable {Y : YM} {d kc ks pc m0 : Nat} {G : Nat → Nat} {lv : List (Option Value)} {st : List Value} {h h0 : AH} {post : Option Value → AH → Prop} {ad : Nat → Nat} {S : MS}
theorem ml_ia {k : Nat} {i : Int32} (hM : MR m0 ad S h) (j : Nat) (hj : i.toNatClampNeg = j) {x : Int32} (hv : S.2 k j = x) (hz : mz k = false) (hk : mk k = true) (hin : vp_in i (mlen k)) (pn : Nat) (hd : decode Y.2.1 pc = .ok (.iaload, 1)) (hn : pc + 1 = pn) (kk : J Y d G kc ks pn lv (.int x :: st) h post) : J Y d G kc ks pc lv (.int i :: .ref (ad k) :: st) h post := by
  subst hj
  subst hv
  have h2 := hM.2.1 k hk
  rw [marr, if_neg (by rw [hz]; decide)] at h2
  exact J.iald pn hd hn h2 hin kk
theorem ml_za {k : Nat} {i : Int32} (hM : MR m0 ad S h) (j : Nat) (hj : i.toNatClampNeg = j) {x : Int32} (hv : S.2 k j = x) (hz : mz k = true) (hk : mk k = true) (hin : vp_in i (mlen k)) (pn : Nat) (hd : decode Y.2.1 pc = .ok (.baload, 1)) (hn : pc + 1 = pn) (kk : J Y d G kc ks pn lv (.int x :: st) h post) : J Y d G kc ks pc lv (.int i :: .ref (ad k) :: st) h post := by
  subst hj
  subst hv
  have h2 := hM.2.1 k hk
  rw [marr, if_pos hz] at h2
  exact J.zald pn hd hn h2 hin kk
theorem ml_is {k : Nat} {i x : Int32} (hM : MR m0 ad S h) (hF : MF m0 ad h0 h) (j : Nat) (hj : i.toNatClampNeg = j) (hz : mz k = false) (hk : mk k = true) (hin : vp_in i (mlen k)) (pn : Nat) (hd : decode Y.2.1 pc = .ok (.iastore, 1)) (hn : pc + 1 = pn) (kk : ∀ h, MR m0 ad (S.1, u2 S.2 k j x) h → MF m0 ad h0 h → J Y d G kc ks pn lv st h post) : J Y d G kc ks pc lv (.int x :: .int i :: .ref (ad k) :: st) h post := by
  subst hj
  have h2 := hM.2.1 k hk
  rw [marr, if_neg (by rw [hz]; decide)] at h2
  refine J.iast pn hd hn h2 hin (kk _ ?_ (hF.rows hk _))
  have := hM.rows hk i.toNatClampNeg x
  rw [marr, if_neg (by rw [hz]; decide)] at this
  exact this
theorem ml_zs {k : Nat} {i x : Int32} (hM : MR m0 ad S h) (hF : MF m0 ad h0 h) (j : Nat) (hj : i.toNatClampNeg = j) (hx : x = 0 ∨ x = 1) (hz : mz k = true) (hk : mk k = true) (hin : vp_in i (mlen k)) (pn : Nat) (hd : decode Y.2.1 pc = .ok (.bastore, 1)) (hn : pc + 1 = pn) (kk : ∀ h, MR m0 ad (S.1, u2 S.2 k j x) h → MF m0 ad h0 h → J Y d G kc ks pn lv st h post) : J Y d G kc ks pc lv (.int x :: .int i :: .ref (ad k) :: st) h post := by
  subst hj
  have h2 := hM.2.1 k hk
  rw [marr, if_pos hz] at h2
  refine J.zast pn hd hn h2 hin (kk _ ?_ (hF.rows hk _))
  have := hM.rows hk i.toNatClampNeg x
  rw [marr, if_pos hz] at this
  have e : vp_nar .boolean x = x := by rcases hx with rfl | rfl <;> rfl
  rw [e]
  exact this
theorem mg_101 (hM : MR m0 ad S h) (hy : Y.1.cls = RX12) (pn : Nat) (hd : decode Y.2.1 pc = .ok (.getfield 101, 3)) (hn : pc + 3 = pn) (kk : J Y d G kc ks pn lv (.ref (ad 37) :: st) h post) : J Y d G kc ks pc lv (.ref m0 :: st) h post := gf_X12_101 hy pn hd hn hM.1 rfl kk
theorem mg_104 (hM : MR m0 ad S h) (hy : Y.1.cls = RX12) (pn : Nat) (hd : decode Y.2.1 pc = .ok (.getfield 104, 3)) (hn : pc + 3 = pn) (kk : J Y d G kc ks pn lv (.ref (ad 38) :: st) h post) : J Y d G kc ks pc lv (.ref m0 :: st) h post := gf_X12_104 hy pn hd hn hM.1 rfl kk
theorem mg_107 (hM : MR m0 ad S h) (hy : Y.1.cls = RX12) (pn : Nat) (hd : decode Y.2.1 pc = .ok (.getfield 107, 3)) (hn : pc + 3 = pn) (kk : J Y d G kc ks pn lv (.ref (ad 39) :: st) h post) : J Y d G kc ks pc lv (.ref m0 :: st) h post := gf_X12_107 hy pn hd hn hM.1 rfl kk
theorem mg_110 (hM : MR m0 ad S h) (hy : Y.1.cls = RX12) (pn : Nat) (hd : decode Y.2.1 pc = .ok (.getfield 110, 3)) (hn : pc + 3 = pn) (kk : J Y d G kc ks pn lv (.ref (ad 40) :: st) h post) : J Y d G kc ks pc lv (.ref m0 :: st) h post := gf_X12_110 hy pn hd hn hM.1 rfl kk
theorem mg_113 (hM : MR m0 ad S h) (hy : Y.1.cls = RX12) (pn : Nat) (hd : decode Y.2.1 pc = .ok (.getfield 113, 3)) (hn : pc + 3 = pn) (kk : J Y d G kc ks pn lv (.ref (ad 41) :: st) h post) : J Y d G kc ks pc lv (.ref m0 :: st) h post := gf_X12_113 hy pn hd hn hM.1 rfl kk
theorem mg_116 (hM : MR m0 ad S h) (hy : Y.1.cls = RX12) (pn : Nat) (hd : decode Y.2.1 pc = .ok (.getfield 116, 3)) (hn : pc + 3 = pn) (kk : J Y d G kc ks pn lv (.ref (ad 42) :: st) h post) : J Y d G kc ks pc lv (.ref m0 :: st) h post := gf_X12_116 hy pn hd hn hM.1 rfl kk
theorem mg_119 (hM : MR m0 ad S h) (hy : Y.1.cls = RX12) (pn : Nat) (hd : decode Y.2.1 pc = .ok (.getfield 119, 3)) (hn : pc + 3 = pn) (kk : J Y d G kc ks pn lv (.ref (ad 43) :: st) h post) : J Y d G kc ks pc lv (.ref m0 :: st) h post := gf_X12_119 hy pn hd hn hM.1 rfl kk
theorem mg_122 (hM : MR m0 ad S h) (hy : Y.1.cls = RX12) (pn : Nat) (hd : decode Y.2.1 pc = .ok (.getfield 122, 3)) (hn : pc + 3 = pn) (kk : J Y d G kc ks pn lv (.ref (ad 44) :: st) h post) : J Y d G kc ks pc lv (.ref m0 :: st) h post := gf_X12_122 hy pn hd hn hM.1 rfl kk
theorem mg_125 (hM : MR m0 ad S h) (hy : Y.1.cls = RX12) (pn : Nat) (hd : decode Y.2.1 pc = .ok (.getfield 125, 3)) (hn : pc + 3 = pn) (kk : J Y d G kc ks pn lv (.ref (ad 49) :: st) h post) : J Y d G kc ks pc lv (.ref m0 :: st) h post := gf_X12_125 hy pn hd hn hM.1 rfl kk
theorem mg_129 (hM : MR m0 ad S h) (hy : Y.1.cls = RX12) (pn : Nat) (hd : decode Y.2.1 pc = .ok (.getfield 129, 3)) (hn : pc + 3 = pn) (kk : J Y d G kc ks pn lv (.ref (ad 50) :: st) h post) : J Y d G kc ks pc lv (.ref m0 :: st) h post := gf_X12_129 hy pn hd hn hM.1 rfl kk
theorem mg_13 (hM : MR m0 ad S h) (hy : Y.1.cls = RX12) (pn : Nat) (hd : decode Y.2.1 pc = .ok (.getfield 13, 3)) (hn : pc + 3 = pn) (kk : J Y d G kc ks pn lv (.ref (ad 2) :: st) h post) : J Y d G kc ks pc lv (.ref m0 :: st) h post := gf_X12_13 hy pn hd hn hM.1 rfl kk
theorem mg_132 (hM : MR m0 ad S h) (hy : Y.1.cls = RX12) (pn : Nat) (hd : decode Y.2.1 pc = .ok (.getfield 132, 3)) (hn : pc + 3 = pn) (kk : J Y d G kc ks pn lv (.ref (ad 52) :: st) h post) : J Y d G kc ks pc lv (.ref m0 :: st) h post := gf_X12_132 hy pn hd hn hM.1 rfl kk
theorem mg_135 (hM : MR m0 ad S h) (hy : Y.1.cls = RX12) (pn : Nat) (hd : decode Y.2.1 pc = .ok (.getfield 135, 3)) (hn : pc + 3 = pn) (kk : J Y d G kc ks pn lv (.ref (ad 53) :: st) h post) : J Y d G kc ks pc lv (.ref m0 :: st) h post := gf_X12_135 hy pn hd hn hM.1 rfl kk
theorem mg_138 (hM : MR m0 ad S h) (hy : Y.1.cls = RX12) (pn : Nat) (hd : decode Y.2.1 pc = .ok (.getfield 138, 3)) (hn : pc + 3 = pn) (kk : J Y d G kc ks pn lv (.ref (ad 54) :: st) h post) : J Y d G kc ks pc lv (.ref m0 :: st) h post := gf_X12_138 hy pn hd hn hM.1 rfl kk
theorem mg_141 (hM : MR m0 ad S h) {x : Int32} (hv : S.1 55 = x) (hy : Y.1.cls = RX12) (pn : Nat) (hd : decode Y.2.1 pc = .ok (.getfield 141, 3)) (hn : pc + 3 = pn) (kk : J Y d G kc ks pn lv (.int x :: st) h post) : J Y d G kc ks pc lv (.ref m0 :: st) h post := by
  subst hv
  exact gf_X12_141 hy pn hd hn hM.1 rfl kk
theorem mp_141 {x : Int32} (hM : MR m0 ad S h) (hF : MF m0 ad h0 h) (hy : Y.1.cls = RX12) (pn : Nat) (hd : decode Y.2.1 pc = .ok (.putfield 141, 3)) (hn : pc + 3 = pn) (kk : ∀ h, MR m0 ad (vf_upd S.1 55 x, S.2) h → MF m0 ad h0 h → J Y d G kc ks pn lv st h post) : J Y d G kc ks pc lv (.int x :: .ref m0 :: st) h post := pf_X12_141 hy pn hd hn hM.1 (by show 55 < 62; decide) (kk _ (hM.ints _) (hF.ints _))
theorem mg_144 (hM : MR m0 ad S h) (hy : Y.1.cls = RX12) (pn : Nat) (hd : decode Y.2.1 pc = .ok (.getfield 144, 3)) (hn : pc + 3 = pn) (kk : J Y d G kc ks pn lv (.ref (ad 58) :: st) h post) : J Y d G kc ks pc lv (.ref m0 :: st) h post := gf_X12_144 hy pn hd hn hM.1 rfl kk
theorem mg_147 (hM : MR m0 ad S h) (hy : Y.1.cls = RX12) (pn : Nat) (hd : decode Y.2.1 pc = .ok (.getfield 147, 3)) (hn : pc + 3 = pn) (kk : J Y d G kc ks pn lv (.ref (ad 59) :: st) h post) : J Y d G kc ks pc lv (.ref m0 :: st) h post := gf_X12_147 hy pn hd hn hM.1 rfl kk
theorem mg_150 (hM : MR m0 ad S h) (hy : Y.1.cls = RX12) (pn : Nat) (hd : decode Y.2.1 pc = .ok (.getfield 150, 3)) (hn : pc + 3 = pn) (kk : J Y d G kc ks pn lv (.ref (ad 61) :: st) h post) : J Y d G kc ks pc lv (.ref m0 :: st) h post := gf_X12_150 hy pn hd hn hM.1 rfl kk
theorem mg_157 (hM : MR m0 ad S h) {x : Int32} (hv : S.1 11 = x) (hy : Y.1.cls = RX12) (pn : Nat) (hd : decode Y.2.1 pc = .ok (.getfield 157, 3)) (hn : pc + 3 = pn) (kk : J Y d G kc ks pn lv (.int x :: st) h post) : J Y d G kc ks pc lv (.ref m0 :: st) h post := by
  subst hv
  exact gf_X12_157 hy pn hd hn hM.1 rfl kk
theorem mp_157 {x : Int32} (hM : MR m0 ad S h) (hF : MF m0 ad h0 h) (hy : Y.1.cls = RX12) (pn : Nat) (hd : decode Y.2.1 pc = .ok (.putfield 157, 3)) (hn : pc + 3 = pn) (kk : ∀ h, MR m0 ad (vf_upd S.1 11 x, S.2) h → MF m0 ad h0 h → J Y d G kc ks pn lv st h post) : J Y d G kc ks pc lv (.int x :: .ref m0 :: st) h post := pf_X12_157 hy pn hd hn hM.1 (by show 11 < 62; decide) (kk _ (hM.ints _) (hF.ints _))
theorem mg_16 (hM : MR m0 ad S h) {x : Int32} (hv : S.1 3 = x) (hy : Y.1.cls = RX12) (pn : Nat) (hd : decode Y.2.1 pc = .ok (.getfield 16, 3)) (hn : pc + 3 = pn) (kk : J Y d G kc ks pn lv (.int x :: st) h post) : J Y d G kc ks pc lv (.ref m0 :: st) h post := by
  subst hv
  exact gf_X12_16 hy pn hd hn hM.1 rfl kk
theorem mp_16 {x : Int32} (hM : MR m0 ad S h) (hF : MF m0 ad h0 h) (hy : Y.1.cls = RX12) (pn : Nat) (hd : decode Y.2.1 pc = .ok (.putfield 16, 3)) (hn : pc + 3 = pn) (kk : ∀ h, MR m0 ad (vf_upd S.1 3 x, S.2) h → MF m0 ad h0 h → J Y d G kc ks pn lv st h post) : J Y d G kc ks pc lv (.int x :: .ref m0 :: st) h post := pf_X12_16 hy pn hd hn hM.1 (by show 3 < 62; decide) (kk _ (hM.ints _) (hF.ints _))
theorem mg_160 (hM : MR m0 ad S h) {x : Int32} (hv : S.1 16 = x) (hy : Y.1.cls = RX12) (pn : Nat) (hd : decode Y.2.1 pc = .ok (.getfield 160, 3)) (hn : pc + 3 = pn) (kk : J Y d G kc ks pn lv (.int x :: st) h post) : J Y d G kc ks pc lv (.ref m0 :: st) h post := by
  subst hv
  exact gf_X12_160 hy pn hd hn hM.1 rfl kk
theorem mp_160 {x : Int32} (hM : MR m0 ad S h) (hF : MF m0 ad h0 h) (hy : Y.1.cls = RX12) (pn : Nat) (hd : decode Y.2.1 pc = .ok (.putfield 160, 3)) (hn : pc + 3 = pn) (kk : ∀ h, MR m0 ad (vf_upd S.1 16 x, S.2) h → MF m0 ad h0 h → J Y d G kc ks pn lv st h post) : J Y d G kc ks pc lv (.int x :: .ref m0 :: st) h post := pf_X12_160 hy pn hd hn hM.1 (by show 16 < 62; decide) (kk _ (hM.ints _) (hF.ints _))
theorem mg_163 (hM : MR m0 ad S h) {x : Int32} (hv : S.1 28 = x) (hy : Y.1.cls = RX12) (pn : Nat) (hd : decode Y.2.1 pc = .ok (.getfield 163, 3)) (hn : pc + 3 = pn) (kk : J Y d G kc ks pn lv (.int x :: st) h post) : J Y d G kc ks pc lv (.ref m0 :: st) h post := by
  subst hv
  exact gf_X12_163 hy pn hd hn hM.1 rfl kk
theorem mp_163 {x : Int32} (hM : MR m0 ad S h) (hF : MF m0 ad h0 h) (hy : Y.1.cls = RX12) (pn : Nat) (hd : decode Y.2.1 pc = .ok (.putfield 163, 3)) (hn : pc + 3 = pn) (kk : ∀ h, MR m0 ad (vf_upd S.1 28 x, S.2) h → MF m0 ad h0 h → J Y d G kc ks pn lv st h post) : J Y d G kc ks pc lv (.int x :: .ref m0 :: st) h post := pf_X12_163 hy pn hd hn hM.1 (by show 28 < 62; decide) (kk _ (hM.ints _) (hF.ints _))
theorem mg_170 (hM : MR m0 ad S h) {x : Int32} (hv : S.1 30 = x) (hy : Y.1.cls = RX12) (pn : Nat) (hd : decode Y.2.1 pc = .ok (.getfield 170, 3)) (hn : pc + 3 = pn) (kk : J Y d G kc ks pn lv (.int x :: st) h post) : J Y d G kc ks pc lv (.ref m0 :: st) h post := by
  subst hv
  exact gf_X12_170 hy pn hd hn hM.1 rfl kk
theorem mp_170 {x : Int32} (hM : MR m0 ad S h) (hF : MF m0 ad h0 h) (hy : Y.1.cls = RX12) (pn : Nat) (hd : decode Y.2.1 pc = .ok (.putfield 170, 3)) (hn : pc + 3 = pn) (kk : ∀ h, MR m0 ad (vf_upd S.1 30 x, S.2) h → MF m0 ad h0 h → J Y d G kc ks pn lv st h post) : J Y d G kc ks pc lv (.int x :: .ref m0 :: st) h post := pf_X12_170 hy pn hd hn hM.1 (by show 30 < 62; decide) (kk _ (hM.ints _) (hF.ints _))
theorem mg_182 (hM : MR m0 ad S h) {x : Int32} (hv : S.1 33 = x) (hy : Y.1.cls = RX12) (pn : Nat) (hd : decode Y.2.1 pc = .ok (.getfield 182, 3)) (hn : pc + 3 = pn) (kk : J Y d G kc ks pn lv (.int x :: st) h post) : J Y d G kc ks pc lv (.ref m0 :: st) h post := by
  subst hv
  exact gf_X12_182 hy pn hd hn hM.1 rfl kk
theorem mp_182 {x : Int32} (hM : MR m0 ad S h) (hF : MF m0 ad h0 h) (hy : Y.1.cls = RX12) (pn : Nat) (hd : decode Y.2.1 pc = .ok (.putfield 182, 3)) (hn : pc + 3 = pn) (kk : ∀ h, MR m0 ad (vf_upd S.1 33 x, S.2) h → MF m0 ad h0 h → J Y d G kc ks pn lv st h post) : J Y d G kc ks pc lv (.int x :: .ref m0 :: st) h post := pf_X12_182 hy pn hd hn hM.1 (by show 33 < 62; decide) (kk _ (hM.ints _) (hF.ints _))
theorem mg_189 (hM : MR m0 ad S h) {x : Int32} (hv : S.1 35 = x) (hy : Y.1.cls = RX12) (pn : Nat) (hd : decode Y.2.1 pc = .ok (.getfield 189, 3)) (hn : pc + 3 = pn) (kk : J Y d G kc ks pn lv (.int x :: st) h post) : J Y d G kc ks pc lv (.ref m0 :: st) h post := by
  subst hv
  exact gf_X12_189 hy pn hd hn hM.1 rfl kk
theorem mp_189 {x : Int32} (hM : MR m0 ad S h) (hF : MF m0 ad h0 h) (hy : Y.1.cls = RX12) (pn : Nat) (hd : decode Y.2.1 pc = .ok (.putfield 189, 3)) (hn : pc + 3 = pn) (kk : ∀ h, MR m0 ad (vf_upd S.1 35 x, S.2) h → MF m0 ad h0 h → J Y d G kc ks pn lv st h post) : J Y d G kc ks pc lv (.int x :: .ref m0 :: st) h post := pf_X12_189 hy pn hd hn hM.1 (by show 35 < 62; decide) (kk _ (hM.ints _) (hF.ints _))
theorem mg_20 (hM : MR m0 ad S h) (hy : Y.1.cls = RX12) (pn : Nat) (hd : decode Y.2.1 pc = .ok (.getfield 20, 3)) (hn : pc + 3 = pn) (kk : J Y d G kc ks pn lv (.ref (ad 4) :: st) h post) : J Y d G kc ks pc lv (.ref m0 :: st) h post := gf_X12_20 hy pn hd hn hM.1 rfl kk
theorem mg_221 (hM : MR m0 ad S h) {x : Int32} (hv : S.1 0 = x) (hy : Y.1.cls = RX12) (pn : Nat) (hd : decode Y.2.1 pc = .ok (.getfield 221, 3)) (hn : pc + 3 = pn) (kk : J Y d G kc ks pn lv (.int x :: st) h post) : J Y d G kc ks pc lv (.ref m0 :: st) h post := by
  subst hv
  exact gf_X12_221 hy pn hd hn hM.1 rfl kk
theorem mp_221 {x : Int32} (hM : MR m0 ad S h) (hF : MF m0 ad h0 h) (hy : Y.1.cls = RX12) (pn : Nat) (hd : decode Y.2.1 pc = .ok (.putfield 221, 3)) (hn : pc + 3 = pn) (kk : ∀ h, MR m0 ad (vf_upd S.1 0 x, S.2) h → MF m0 ad h0 h → J Y d G kc ks pn lv st h post) : J Y d G kc ks pc lv (.int x :: .ref m0 :: st) h post := pf_X12_221 hy pn hd hn hM.1 (by show 0 < 62; decide) (kk _ (hM.ints _) (hF.ints _))
theorem mg_23 (hM : MR m0 ad S h) (hy : Y.1.cls = RX12) (pn : Nat) (hd : decode Y.2.1 pc = .ok (.getfield 23, 3)) (hn : pc + 3 = pn) (kk : J Y d G kc ks pn lv (.ref (ad 5) :: st) h post) : J Y d G kc ks pc lv (.ref m0 :: st) h post := gf_X12_23 hy pn hd hn hM.1 rfl kk
theorem mg_237 (hM : MR m0 ad S h) {x : Int32} (hv : S.1 46 = x) (hy : Y.1.cls = RX12) (pn : Nat) (hd : decode Y.2.1 pc = .ok (.getfield 237, 3)) (hn : pc + 3 = pn) (kk : J Y d G kc ks pn lv (.int x :: st) h post) : J Y d G kc ks pc lv (.ref m0 :: st) h post := by
  subst hv
  exact gf_X12_237 hy pn hd hn hM.1 rfl kk
theorem mp_237 {x : Int32} (hM : MR m0 ad S h) (hF : MF m0 ad h0 h) (hy : Y.1.cls = RX12) (pn : Nat) (hd : decode Y.2.1 pc = .ok (.putfield 237, 3)) (hn : pc + 3 = pn) (kk : ∀ h, MR m0 ad (vf_upd S.1 46 x, S.2) h → MF m0 ad h0 h → J Y d G kc ks pn lv st h post) : J Y d G kc ks pc lv (.int x :: .ref m0 :: st) h post := pf_X12_237 hy pn hd hn hM.1 (by show 46 < 62; decide) (kk _ (hM.ints _) (hF.ints _))
theorem mg_240 (hM : MR m0 ad S h) {x : Int32} (hv : S.1 47 = x) (hy : Y.1.cls = RX12) (pn : Nat) (hd : decode Y.2.1 pc = .ok (.getfield 240, 3)) (hn : pc + 3 = pn) (kk : J Y d G kc ks pn lv (.int x :: st) h post) : J Y d G kc ks pc lv (.ref m0 :: st) h post := by
  subst hv
  exact gf_X12_240 hy pn hd hn hM.1 rfl kk
theorem mp_240 {x : Int32} (hM : MR m0 ad S h) (hF : MF m0 ad h0 h) (hy : Y.1.cls = RX12) (pn : Nat) (hd : decode Y.2.1 pc = .ok (.putfield 240, 3)) (hn : pc + 3 = pn) (kk : ∀ h, MR m0 ad (vf_upd S.1 47 x, S.2) h → MF m0 ad h0 h → J Y d G kc ks pn lv st h post) : J Y d G kc ks pc lv (.int x :: .ref m0 :: st) h post := pf_X12_240 hy pn hd hn hM.1 (by show 47 < 62; decide) (kk _ (hM.ints _) (hF.ints _))
theorem mg_246 (hM : MR m0 ad S h) {x : Int32} (hv : S.1 48 = x) (hy : Y.1.cls = RX12) (pn : Nat) (hd : decode Y.2.1 pc = .ok (.getfield 246, 3)) (hn : pc + 3 = pn) (kk : J Y d G kc ks pn lv (.int x :: st) h post) : J Y d G kc ks pc lv (.ref m0 :: st) h post := by
  subst hv
  exact gf_X12_246 hy pn hd hn hM.1 rfl kk
theorem mp_246 {x : Int32} (hM : MR m0 ad S h) (hF : MF m0 ad h0 h) (hy : Y.1.cls = RX12) (pn : Nat) (hd : decode Y.2.1 pc = .ok (.putfield 246, 3)) (hn : pc + 3 = pn) (kk : ∀ h, MR m0 ad (vf_upd S.1 48 x, S.2) h → MF m0 ad h0 h → J Y d G kc ks pn lv st h post) : J Y d G kc ks pc lv (.int x :: .ref m0 :: st) h post := pf_X12_246 hy pn hd hn hM.1 (by show 48 < 62; decide) (kk _ (hM.ints _) (hF.ints _))
theorem mg_256 (hM : MR m0 ad S h) {x : Int32} (hv : S.1 45 = x) (hy : Y.1.cls = RX12) (pn : Nat) (hd : decode Y.2.1 pc = .ok (.getfield 256, 3)) (hn : pc + 3 = pn) (kk : J Y d G kc ks pn lv (.int x :: st) h post) : J Y d G kc ks pc lv (.ref m0 :: st) h post := by
  subst hv
  exact gf_X12_256 hy pn hd hn hM.1 rfl kk
theorem mp_256 {x : Int32} (hM : MR m0 ad S h) (hF : MF m0 ad h0 h) (hy : Y.1.cls = RX12) (pn : Nat) (hd : decode Y.2.1 pc = .ok (.putfield 256, 3)) (hn : pc + 3 = pn) (kk : ∀ h, MR m0 ad (vf_upd S.1 45 x, S.2) h → MF m0 ad h0 h → J Y d G kc ks pn lv st h post) : J Y d G kc ks pc lv (.int x :: .ref m0 :: st) h post := pf_X12_256 hy pn hd hn hM.1 (by show 45 < 62; decide) (kk _ (hM.ints _) (hF.ints _))
theorem mg_26 (hM : MR m0 ad S h) (hy : Y.1.cls = RX12) (pn : Nat) (hd : decode Y.2.1 pc = .ok (.getfield 26, 3)) (hn : pc + 3 = pn) (kk : J Y d G kc ks pn lv (.ref (ad 6) :: st) h post) : J Y d G kc ks pc lv (.ref m0 :: st) h post := gf_X12_26 hy pn hd hn hM.1 rfl kk
theorem mg_265 (hM : MR m0 ad S h) {x : Int32} (hv : S.1 60 = x) (hy : Y.1.cls = RX12) (pn : Nat) (hd : decode Y.2.1 pc = .ok (.getfield 265, 3)) (hn : pc + 3 = pn) (kk : J Y d G kc ks pn lv (.int x :: st) h post) : J Y d G kc ks pc lv (.ref m0 :: st) h post := by
  subst hv
  exact gf_X12_265 hy pn hd hn hM.1 rfl kk
theorem mp_265 {x : Int32} (hM : MR m0 ad S h) (hF : MF m0 ad h0 h) (hy : Y.1.cls = RX12) (pn : Nat) (hd : decode Y.2.1 pc = .ok (.putfield 265, 3)) (hn : pc + 3 = pn) (kk : ∀ h, MR m0 ad (vf_upd S.1 60 x, S.2) h → MF m0 ad h0 h → J Y d G kc ks pn lv st h post) : J Y d G kc ks pc lv (.int x :: .ref m0 :: st) h post := pf_X12_265 hy pn hd hn hM.1 (by show 60 < 62; decide) (kk _ (hM.ints _) (hF.ints _))
theorem mg_274 (hM : MR m0 ad S h) {x : Int32} (hv : S.1 51 = x) (hy : Y.1.cls = RX12) (pn : Nat) (hd : decode Y.2.1 pc = .ok (.getfield 274, 3)) (hn : pc + 3 = pn) (kk : J Y d G kc ks pn lv (.int x :: st) h post) : J Y d G kc ks pc lv (.ref m0 :: st) h post := by
  subst hv
  exact gf_X12_274 hy pn hd hn hM.1 rfl kk
theorem mp_274 {x : Int32} (hM : MR m0 ad S h) (hF : MF m0 ad h0 h) (hy : Y.1.cls = RX12) (pn : Nat) (hd : decode Y.2.1 pc = .ok (.putfield 274, 3)) (hn : pc + 3 = pn) (kk : ∀ h, MR m0 ad (vf_upd S.1 51 x, S.2) h → MF m0 ad h0 h → J Y d G kc ks pn lv st h post) : J Y d G kc ks pc lv (.int x :: .ref m0 :: st) h post := pf_X12_274 hy pn hd hn hM.1 (by show 51 < 62; decide) (kk _ (hM.ints _) (hF.ints _))
theorem mg_277 (hM : MR m0 ad S h) {x : Int32} (hv : S.1 57 = x) (hy : Y.1.cls = RX12) (pn : Nat) (hd : decode Y.2.1 pc = .ok (.getfield 277, 3)) (hn : pc + 3 = pn) (kk : J Y d G kc ks pn lv (.int x :: st) h post) : J Y d G kc ks pc lv (.ref m0 :: st) h post := by
  subst hv
  exact gf_X12_277 hy pn hd hn hM.1 rfl kk
theorem mp_277 {x : Int32} (hM : MR m0 ad S h) (hF : MF m0 ad h0 h) (hy : Y.1.cls = RX12) (pn : Nat) (hd : decode Y.2.1 pc = .ok (.putfield 277, 3)) (hn : pc + 3 = pn) (kk : ∀ h, MR m0 ad (vf_upd S.1 57 x, S.2) h → MF m0 ad h0 h → J Y d G kc ks pn lv st h post) : J Y d G kc ks pc lv (.int x :: .ref m0 :: st) h post := pf_X12_277 hy pn hd hn hM.1 (by show 57 < 62; decide) (kk _ (hM.ints _) (hF.ints _))
theorem mg_280 (hM : MR m0 ad S h) {x : Int32} (hv : S.1 56 = x) (hy : Y.1.cls = RX12) (pn : Nat) (hd : decode Y.2.1 pc = .ok (.getfield 280, 3)) (hn : pc + 3 = pn) (kk : J Y d G kc ks pn lv (.int x :: st) h post) : J Y d G kc ks pc lv (.ref m0 :: st) h post := by
  subst hv
  exact gf_X12_280 hy pn hd hn hM.1 rfl kk
theorem mp_280 {x : Int32} (hM : MR m0 ad S h) (hF : MF m0 ad h0 h) (hy : Y.1.cls = RX12) (pn : Nat) (hd : decode Y.2.1 pc = .ok (.putfield 280, 3)) (hn : pc + 3 = pn) (kk : ∀ h, MR m0 ad (vf_upd S.1 56 x, S.2) h → MF m0 ad h0 h → J Y d G kc ks pn lv st h post) : J Y d G kc ks pc lv (.int x :: .ref m0 :: st) h post := pf_X12_280 hy pn hd hn hM.1 (by show 56 < 62; decide) (kk _ (hM.ints _) (hF.ints _))
theorem mg_29 (hM : MR m0 ad S h) (hy : Y.1.cls = RX12) (pn : Nat) (hd : decode Y.2.1 pc = .ok (.getfield 29, 3)) (hn : pc + 3 = pn) (kk : J Y d G kc ks pn lv (.ref (ad 7) :: st) h post) : J Y d G kc ks pc lv (.ref m0 :: st) h post := gf_X12_29 hy pn hd hn hM.1 rfl kk
theorem mg_32 (hM : MR m0 ad S h) (hy : Y.1.cls = RX12) (pn : Nat) (hd : decode Y.2.1 pc = .ok (.getfield 32, 3)) (hn : pc + 3 = pn) (kk : J Y d G kc ks pn lv (.ref (ad 8) :: st) h post) : J Y d G kc ks pc lv (.ref m0 :: st) h post := gf_X12_32 hy pn hd hn hM.1 rfl kk
theorem mg_35 (hM : MR m0 ad S h) (hy : Y.1.cls = RX12) (pn : Nat) (hd : decode Y.2.1 pc = .ok (.getfield 35, 3)) (hn : pc + 3 = pn) (kk : J Y d G kc ks pn lv (.ref (ad 9) :: st) h post) : J Y d G kc ks pc lv (.ref m0 :: st) h post := gf_X12_35 hy pn hd hn hM.1 rfl kk
theorem mg_38 (hM : MR m0 ad S h) (hy : Y.1.cls = RX12) (pn : Nat) (hd : decode Y.2.1 pc = .ok (.getfield 38, 3)) (hn : pc + 3 = pn) (kk : J Y d G kc ks pn lv (.ref (ad 10) :: st) h post) : J Y d G kc ks pc lv (.ref m0 :: st) h post := gf_X12_38 hy pn hd hn hM.1 rfl kk
theorem mg_41 (hM : MR m0 ad S h) (hy : Y.1.cls = RX12) (pn : Nat) (hd : decode Y.2.1 pc = .ok (.getfield 41, 3)) (hn : pc + 3 = pn) (kk : J Y d G kc ks pn lv (.ref (ad 12) :: st) h post) : J Y d G kc ks pc lv (.ref m0 :: st) h post := gf_X12_41 hy pn hd hn hM.1 rfl kk
theorem mg_44 (hM : MR m0 ad S h) (hy : Y.1.cls = RX12) (pn : Nat) (hd : decode Y.2.1 pc = .ok (.getfield 44, 3)) (hn : pc + 3 = pn) (kk : J Y d G kc ks pn lv (.ref (ad 13) :: st) h post) : J Y d G kc ks pc lv (.ref m0 :: st) h post := gf_X12_44 hy pn hd hn hM.1 rfl kk
theorem mg_47 (hM : MR m0 ad S h) (hy : Y.1.cls = RX12) (pn : Nat) (hd : decode Y.2.1 pc = .ok (.getfield 47, 3)) (hn : pc + 3 = pn) (kk : J Y d G kc ks pn lv (.ref (ad 14) :: st) h post) : J Y d G kc ks pc lv (.ref m0 :: st) h post := gf_X12_47 hy pn hd hn hM.1 rfl kk
theorem mg_50 (hM : MR m0 ad S h) (hy : Y.1.cls = RX12) (pn : Nat) (hd : decode Y.2.1 pc = .ok (.getfield 50, 3)) (hn : pc + 3 = pn) (kk : J Y d G kc ks pn lv (.ref (ad 15) :: st) h post) : J Y d G kc ks pc lv (.ref m0 :: st) h post := gf_X12_50 hy pn hd hn hM.1 rfl kk
theorem mg_53 (hM : MR m0 ad S h) (hy : Y.1.cls = RX12) (pn : Nat) (hd : decode Y.2.1 pc = .ok (.getfield 53, 3)) (hn : pc + 3 = pn) (kk : J Y d G kc ks pn lv (.ref (ad 17) :: st) h post) : J Y d G kc ks pc lv (.ref m0 :: st) h post := gf_X12_53 hy pn hd hn hM.1 rfl kk
theorem mg_56 (hM : MR m0 ad S h) (hy : Y.1.cls = RX12) (pn : Nat) (hd : decode Y.2.1 pc = .ok (.getfield 56, 3)) (hn : pc + 3 = pn) (kk : J Y d G kc ks pn lv (.ref (ad 18) :: st) h post) : J Y d G kc ks pc lv (.ref m0 :: st) h post := gf_X12_56 hy pn hd hn hM.1 rfl kk
theorem mg_59 (hM : MR m0 ad S h) (hy : Y.1.cls = RX12) (pn : Nat) (hd : decode Y.2.1 pc = .ok (.getfield 59, 3)) (hn : pc + 3 = pn) (kk : J Y d G kc ks pn lv (.ref (ad 19) :: st) h post) : J Y d G kc ks pc lv (.ref m0 :: st) h post := gf_X12_59 hy pn hd hn hM.1 rfl kk
theorem mg_62 (hM : MR m0 ad S h) (hy : Y.1.cls = RX12) (pn : Nat) (hd : decode Y.2.1 pc = .ok (.getfield 62, 3)) (hn : pc + 3 = pn) (kk : J Y d G kc ks pn lv (.ref (ad 20) :: st) h post) : J Y d G kc ks pc lv (.ref m0 :: st) h post := gf_X12_62 hy pn hd hn hM.1 rfl kk
theorem mg_65 (hM : MR m0 ad S h) (hy : Y.1.cls = RX12) (pn : Nat) (hd : decode Y.2.1 pc = .ok (.getfield 65, 3)) (hn : pc + 3 = pn) (kk : J Y d G kc ks pn lv (.ref (ad 21) :: st) h post) : J Y d G kc ks pc lv (.ref m0 :: st) h post := gf_X12_65 hy pn hd hn hM.1 rfl kk
theorem mg_68 (hM : MR m0 ad S h) (hy : Y.1.cls = RX12) (pn : Nat) (hd : decode Y.2.1 pc = .ok (.getfield 68, 3)) (hn : pc + 3 = pn) (kk : J Y d G kc ks pn lv (.ref (ad 22) :: st) h post) : J Y d G kc ks pc lv (.ref m0 :: st) h post := gf_X12_68 hy pn hd hn hM.1 rfl kk
theorem mg_71 (hM : MR m0 ad S h) (hy : Y.1.cls = RX12) (pn : Nat) (hd : decode Y.2.1 pc = .ok (.getfield 71, 3)) (hn : pc + 3 = pn) (kk : J Y d G kc ks pn lv (.ref (ad 23) :: st) h post) : J Y d G kc ks pc lv (.ref m0 :: st) h post := gf_X12_71 hy pn hd hn hM.1 rfl kk
theorem mg_74 (hM : MR m0 ad S h) (hy : Y.1.cls = RX12) (pn : Nat) (hd : decode Y.2.1 pc = .ok (.getfield 74, 3)) (hn : pc + 3 = pn) (kk : J Y d G kc ks pn lv (.ref (ad 24) :: st) h post) : J Y d G kc ks pc lv (.ref m0 :: st) h post := gf_X12_74 hy pn hd hn hM.1 rfl kk
theorem mg_77 (hM : MR m0 ad S h) (hy : Y.1.cls = RX12) (pn : Nat) (hd : decode Y.2.1 pc = .ok (.getfield 77, 3)) (hn : pc + 3 = pn) (kk : J Y d G kc ks pn lv (.ref (ad 25) :: st) h post) : J Y d G kc ks pc lv (.ref m0 :: st) h post := gf_X12_77 hy pn hd hn hM.1 rfl kk
theorem mg_80 (hM : MR m0 ad S h) (hy : Y.1.cls = RX12) (pn : Nat) (hd : decode Y.2.1 pc = .ok (.getfield 80, 3)) (hn : pc + 3 = pn) (kk : J Y d G kc ks pn lv (.ref (ad 26) :: st) h post) : J Y d G kc ks pc lv (.ref m0 :: st) h post := gf_X12_80 hy pn hd hn hM.1 rfl kk
theorem mg_83 (hM : MR m0 ad S h) (hy : Y.1.cls = RX12) (pn : Nat) (hd : decode Y.2.1 pc = .ok (.getfield 83, 3)) (hn : pc + 3 = pn) (kk : J Y d G kc ks pn lv (.ref (ad 27) :: st) h post) : J Y d G kc ks pc lv (.ref m0 :: st) h post := gf_X12_83 hy pn hd hn hM.1 rfl kk
theorem mg_86 (hM : MR m0 ad S h) (hy : Y.1.cls = RX12) (pn : Nat) (hd : decode Y.2.1 pc = .ok (.getfield 86, 3)) (hn : pc + 3 = pn) (kk : J Y d G kc ks pn lv (.ref (ad 29) :: st) h post) : J Y d G kc ks pc lv (.ref m0 :: st) h post := gf_X12_86 hy pn hd hn hM.1 rfl kk
theorem mg_89 (hM : MR m0 ad S h) (hy : Y.1.cls = RX12) (pn : Nat) (hd : decode Y.2.1 pc = .ok (.getfield 89, 3)) (hn : pc + 3 = pn) (kk : J Y d G kc ks pn lv (.ref (ad 31) :: st) h post) : J Y d G kc ks pc lv (.ref m0 :: st) h post := gf_X12_89 hy pn hd hn hM.1 rfl kk
theorem mg_9 (hM : MR m0 ad S h) (hy : Y.1.cls = RX12) (pn : Nat) (hd : decode Y.2.1 pc = .ok (.getfield 9, 3)) (hn : pc + 3 = pn) (kk : J Y d G kc ks pn lv (.ref (ad 1) :: st) h post) : J Y d G kc ks pc lv (.ref m0 :: st) h post := gf_X12_9 hy pn hd hn hM.1 rfl kk
theorem mg_92 (hM : MR m0 ad S h) (hy : Y.1.cls = RX12) (pn : Nat) (hd : decode Y.2.1 pc = .ok (.getfield 92, 3)) (hn : pc + 3 = pn) (kk : J Y d G kc ks pn lv (.ref (ad 32) :: st) h post) : J Y d G kc ks pc lv (.ref m0 :: st) h post := gf_X12_92 hy pn hd hn hM.1 rfl kk
theorem mg_95 (hM : MR m0 ad S h) (hy : Y.1.cls = RX12) (pn : Nat) (hd : decode Y.2.1 pc = .ok (.getfield 95, 3)) (hn : pc + 3 = pn) (kk : J Y d G kc ks pn lv (.ref (ad 34) :: st) h post) : J Y d G kc ks pc lv (.ref m0 :: st) h post := gf_X12_95 hy pn hd hn hM.1 rfl kk
theorem mg_98 (hM : MR m0 ad S h) (hy : Y.1.cls = RX12) (pn : Nat) (hd : decode Y.2.1 pc = .ok (.getfield 98, 3)) (hn : pc + 3 = pn) (kk : J Y d G kc ks pn lv (.ref (ad 36) :: st) h post) : J Y d G kc ks pc lv (.ref m0 :: st) h post := gf_X12_98 hy pn hd hn hM.1 rfl kk
theorem mc_153 {av rest : List Value} {v : Int32} (ct : CF Y_X12_within d av v) (hy : Y.1.cls = RX12) (pn : Nat) (hd : decode Y.2.1 pc = .ok (.invokestatic 153, 3)) (hn : pc + 3 = pn) (hln : av.length = 3) (hst : st = av.reverse ++ rest) (hrm : (rest.map fun v => v.category).sum ≤ 8) (kk : J Y (d + 1) G kc ks pn lv (.int v :: rest) h post) : J Y (d + 1) G kc ks pc lv st h post := cs_X12_153 hy pn (ct G h) hd hn hln hst hrm (Nat.zero_le _) (Nat.zero_le _) (fun r h2 q => by obtain ⟨rfl, rfl⟩ := q; exact kk)
theorem mc_166 {av rest : List Value} {p2 : Option Value → MS → Prop} (hM : MR m0 ad S h) (hF : MF m0 ad h0 h) (ct : CM Y_X12_isHut d av S p2) (hy : Y.1.cls = RX12) (pn : Nat) (hd : decode Y.2.1 pc = .ok (.invokevirtual 166, 3)) (hn : pc + 3 = pn) (hln : av.length = 1) (hst : st = av.reverse ++ .ref m0 :: rest) (hrm : (rest.map fun v => v.category).sum ≤ 8) (kk : ∀ r S2, p2 r S2 → ∀ h, MR m0 ad S2 h → MF m0 ad h0 h → J Y (d + 1) G kc ks pn lv (r.toList ++ rest) h post) : J Y (d + 1) G kc ks pc lv st h post := cv_X12_166 hy pn (ct G m0 ad h0 h hM hF) hd hn hM.1 hln hst hrm (Nat.zero_le _) (Nat.zero_le _) (fun r h2 q => by obtain ⟨S2, q1, q2, q3⟩ := q; exact kk r S2 q1 h2 q2 q3)
theorem mc_173 {av rest : List Value} {v : Int32} (ct : CF Y_X12_isDigit d av v) (hy : Y.1.cls = RX12) (pn : Nat) (hd : decode Y.2.1 pc = .ok (.invokestatic 173, 3)) (hn : pc + 3 = pn) (hln : av.length = 1) (hst : st = av.reverse ++ rest) (hrm : (rest.map fun v => v.category).sum ≤ 8) (kk : J Y (d + 1) G kc ks pn lv (.int v :: rest) h post) : J Y (d + 1) G kc ks pc lv st h post := cs_X12_173 hy pn (ct G h) hd hn hln hst hrm (Nat.zero_le _) (Nat.zero_le _) (fun r h2 q => by obtain ⟨rfl, rfl⟩ := q; exact kk)
theorem mc_176 {av rest : List Value} {v : Int32} (ct : CF Y_X12_isName d av v) (hy : Y.1.cls = RX12) (pn : Nat) (hd : decode Y.2.1 pc = .ok (.invokestatic 176, 3)) (hn : pc + 3 = pn) (hln : av.length = 1) (hst : st = av.reverse ++ rest) (hrm : (rest.map fun v => v.category).sum ≤ 8) (kk : J Y (d + 1) G kc ks pn lv (.int v :: rest) h post) : J Y (d + 1) G kc ks pc lv st h post := cs_X12_176 hy pn (ct G h) hd hn hln hst hrm (Nat.zero_le _) (Nat.zero_le _) (fun r h2 q => by obtain ⟨rfl, rfl⟩ := q; exact kk)
theorem mc_179 {av rest : List Value} {v : Int32} (ct : CF Y_X12_isTwo d av v) (hy : Y.1.cls = RX12) (pn : Nat) (hd : decode Y.2.1 pc = .ok (.invokestatic 179, 3)) (hn : pc + 3 = pn) (hln : av.length = 1) (hst : st = av.reverse ++ rest) (hrm : (rest.map fun v => v.category).sum ≤ 8) (kk : J Y (d + 1) G kc ks pn lv (.int v :: rest) h post) : J Y (d + 1) G kc ks pc lv st h post := cs_X12_179 hy pn (ct G h) hd hn hln hst hrm (Nat.zero_le _) (Nat.zero_le _) (fun r h2 q => by obtain ⟨rfl, rfl⟩ := q; exact kk)
theorem mc_185 {av rest : List Value} {p2 : Option Value → MS → Prop} (hM : MR m0 ad S h) (hF : MF m0 ad h0 h) (ct : CM Y_X12_fault d av S p2) (hy : Y.1.cls = RX12) (pn : Nat) (hd : decode Y.2.1 pc = .ok (.invokevirtual 185, 3)) (hn : pc + 3 = pn) (hln : av.length = 0) (hst : st = av.reverse ++ .ref m0 :: rest) (hrm : (rest.map fun v => v.category).sum ≤ 8) (kk : ∀ r S2, p2 r S2 → ∀ h, MR m0 ad S2 h → MF m0 ad h0 h → J Y (d + 1) G kc ks pn lv (r.toList ++ rest) h post) : J Y (d + 1) G kc ks pc lv st h post := cv_X12_185 hy pn (ct G m0 ad h0 h hM hF) hd hn hM.1 hln hst hrm (Nat.zero_le _) (Nat.zero_le _) (fun r h2 q => by obtain ⟨S2, q1, q2, q3⟩ := q; exact kk r S2 q1 h2 q2 q3)
theorem mc_192 {av rest : List Value} {p2 : Option Value → MS → Prop} (hM : MR m0 ad S h) (hF : MF m0 ad h0 h) (ct : CM Y_X12_lay d av S p2) (hy : Y.1.cls = RX12) (pn : Nat) (hd : decode Y.2.1 pc = .ok (.invokevirtual 192, 3)) (hn : pc + 3 = pn) (hln : av.length = 1) (hst : st = av.reverse ++ .ref m0 :: rest) (hrm : (rest.map fun v => v.category).sum ≤ 8) (kk : ∀ r S2, p2 r S2 → ∀ h, MR m0 ad S2 h → MF m0 ad h0 h → J Y (d + 1) G kc ks pn lv (r.toList ++ rest) h post) : J Y (d + 1) G kc ks pc lv st h post := cv_X12_192 hy pn (ct G m0 ad h0 h hM hF) hd hn hM.1 hln hst hrm (Nat.zero_le _) (Nat.zero_le _) (fun r h2 q => by obtain ⟨S2, q1, q2, q3⟩ := q; exact kk r S2 q1 h2 q2 q3)
theorem mc_196 {av rest : List Value} {p2 : Option Value → MS → Prop} (hM : MR m0 ad S h) (hF : MF m0 ad h0 h) (ct : CM Y_X12_take d av S p2) (hy : Y.1.cls = RX12) (pn : Nat) (hd : decode Y.2.1 pc = .ok (.invokevirtual 196, 3)) (hn : pc + 3 = pn) (hln : av.length = 0) (hst : st = av.reverse ++ .ref m0 :: rest) (hrm : (rest.map fun v => v.category).sum ≤ 8) (kk : ∀ r S2, p2 r S2 → ∀ h, MR m0 ad S2 h → MF m0 ad h0 h → J Y (d + 1) G kc ks pn lv (r.toList ++ rest) h post) : J Y (d + 1) G kc ks pc lv st h post := cv_X12_196 hy pn (ct G m0 ad h0 h hM hF) hd hn hM.1 hln hst hrm (Nat.zero_le _) (Nat.zero_le _) (fun r h2 q => by obtain ⟨S2, q1, q2, q3⟩ := q; exact kk r S2 q1 h2 q2 q3)
theorem mc_199 {av rest : List Value} {v : Int32} (ct : CF Y_X12_both d av v) (hy : Y.1.cls = RX12) (pn : Nat) (hd : decode Y.2.1 pc = .ok (.invokestatic 199, 3)) (hn : pc + 3 = pn) (hln : av.length = 3) (hst : st = av.reverse ++ rest) (hrm : (rest.map fun v => v.category).sum ≤ 8) (kk : J Y (d + 1) G kc ks pn lv (.int v :: rest) h post) : J Y (d + 1) G kc ks pc lv st h post := cs_X12_199 hy pn (ct G h) hd hn hln hst hrm (Nat.zero_le _) (Nat.zero_le _) (fun r h2 q => by obtain ⟨rfl, rfl⟩ := q; exact kk)
theorem mc_203 {av rest : List Value} {p2 : Option Value → MS → Prop} (hM : MR m0 ad S h) (hF : MF m0 ad h0 h) (ct : CM Y_X12_named d av S p2) (hy : Y.1.cls = RX12) (pn : Nat) (hd : decode Y.2.1 pc = .ok (.invokevirtual 203, 3)) (hn : pc + 3 = pn) (hln : av.length = 5) (hst : st = av.reverse ++ .ref m0 :: rest) (hrm : (rest.map fun v => v.category).sum ≤ 8) (kk : ∀ r S2, p2 r S2 → ∀ h, MR m0 ad S2 h → MF m0 ad h0 h → J Y (d + 1) G kc ks pn lv (r.toList ++ rest) h post) : J Y (d + 1) G kc ks pc lv st h post := cv_X12_203 hy pn (ct G m0 ad h0 h hM hF) hd hn hM.1 hln hst hrm (Nat.zero_le _) (Nat.zero_le _) (fun r h2 q => by obtain ⟨S2, q1, q2, q3⟩ := q; exact kk r S2 q1 h2 q2 q3)
theorem mc_207 {av rest : List Value} {v : Int32} (ct : CF Y_X12_hourOf d av v) (hy : Y.1.cls = RX12) (pn : Nat) (hd : decode Y.2.1 pc = .ok (.invokestatic 207, 3)) (hn : pc + 3 = pn) (hln : av.length = 1) (hst : st = av.reverse ++ rest) (hrm : (rest.map fun v => v.category).sum ≤ 8) (kk : J Y (d + 1) G kc ks pn lv (.int v :: rest) h post) : J Y (d + 1) G kc ks pc lv st h post := cs_X12_207 hy pn (ct G h) hd hn hln hst hrm (Nat.zero_le _) (Nat.zero_le _) (fun r h2 q => by obtain ⟨rfl, rfl⟩ := q; exact kk)
theorem mc_211 {av rest : List Value} {p2 : Option Value → MS → Prop} (hM : MR m0 ad S h) (hF : MF m0 ad h0 h) (ct : CM Y_X12_ofHanging d av S p2) (hy : Y.1.cls = RX12) (pn : Nat) (hd : decode Y.2.1 pc = .ok (.invokevirtual 211, 3)) (hn : pc + 3 = pn) (hln : av.length = 2) (hst : st = av.reverse ++ .ref m0 :: rest) (hrm : (rest.map fun v => v.category).sum ≤ 8) (kk : ∀ r S2, p2 r S2 → ∀ h, MR m0 ad S2 h → MF m0 ad h0 h → J Y (d + 1) G kc ks pn lv (r.toList ++ rest) h post) : J Y (d + 1) G kc ks pc lv st h post := cv_X12_211 hy pn (ct G m0 ad h0 h hM hF) hd hn hM.1 hln hst hrm (Nat.zero_le _) (Nat.zero_le _) (fun r h2 q => by obtain ⟨S2, q1, q2, q3⟩ := q; exact kk r S2 q1 h2 q2 q3)
theorem mc_215 {av rest : List Value} {p2 : Option Value → MS → Prop} (hM : MR m0 ad S h) (hF : MF m0 ad h0 h) (ct : CM Y_X12_isMachine d av S p2) (hy : Y.1.cls = RX12) (pn : Nat) (hd : decode Y.2.1 pc = .ok (.invokevirtual 215, 3)) (hn : pc + 3 = pn) (hln : av.length = 1) (hst : st = av.reverse ++ .ref m0 :: rest) (hrm : (rest.map fun v => v.category).sum ≤ 8) (kk : ∀ r S2, p2 r S2 → ∀ h, MR m0 ad S2 h → MF m0 ad h0 h → J Y (d + 1) G kc ks pn lv (r.toList ++ rest) h post) : J Y (d + 1) G kc ks pc lv st h post := cv_X12_215 hy pn (ct G m0 ad h0 h hM hF) hd hn hM.1 hln hst hrm (Nat.zero_le _) (Nat.zero_le _) (fun r h2 q => by obtain ⟨S2, q1, q2, q3⟩ := q; exact kk r S2 q1 h2 q2 q3)
theorem mc_218 {av rest : List Value} {p2 : Option Value → MS → Prop} (hM : MR m0 ad S h) (hF : MF m0 ad h0 h) (ct : CM Y_X12_isPilot d av S p2) (hy : Y.1.cls = RX12) (pn : Nat) (hd : decode Y.2.1 pc = .ok (.invokevirtual 218, 3)) (hn : pc + 3 = pn) (hln : av.length = 1) (hst : st = av.reverse ++ .ref m0 :: rest) (hrm : (rest.map fun v => v.category).sum ≤ 8) (kk : ∀ r S2, p2 r S2 → ∀ h, MR m0 ad S2 h → MF m0 ad h0 h → J Y (d + 1) G kc ks pn lv (r.toList ++ rest) h post) : J Y (d + 1) G kc ks pc lv st h post := cv_X12_218 hy pn (ct G m0 ad h0 h hM hF) hd hn hM.1 hln hst hrm (Nat.zero_le _) (Nat.zero_le _) (fun r h2 q => by obtain ⟨S2, q1, q2, q3⟩ := q; exact kk r S2 q1 h2 q2 q3)
theorem mc_224 {av rest : List Value} {p2 : Option Value → MS → Prop} (hM : MR m0 ad S h) (hF : MF m0 ad h0 h) (ct : CM Y_X12_workedOut d av S p2) (hy : Y.1.cls = RX12) (pn : Nat) (hd : decode Y.2.1 pc = .ok (.invokevirtual 224, 3)) (hn : pc + 3 = pn) (hln : av.length = 5) (hst : st = av.reverse ++ .ref m0 :: rest) (hrm : (rest.map fun v => v.category).sum ≤ 8) (kk : ∀ r S2, p2 r S2 → ∀ h, MR m0 ad S2 h → MF m0 ad h0 h → J Y (d + 1) G kc ks pn lv (r.toList ++ rest) h post) : J Y (d + 1) G kc ks pc lv st h post := cv_X12_224 hy pn (ct G m0 ad h0 h hM hF) hd hn hM.1 hln hst hrm (Nat.zero_le _) (Nat.zero_le _) (fun r h2 q => by obtain ⟨S2, q1, q2, q3⟩ := q; exact kk r S2 q1 h2 q2 q3)
theorem mc_228 {av rest : List Value} {p2 : Option Value → MS → Prop} (hM : MR m0 ad S h) (hF : MF m0 ad h0 h) (ct : CM Y_X12_isLoad d av S p2) (hy : Y.1.cls = RX12) (pn : Nat) (hd : decode Y.2.1 pc = .ok (.invokevirtual 228, 3)) (hn : pc + 3 = pn) (hln : av.length = 1) (hst : st = av.reverse ++ .ref m0 :: rest) (hrm : (rest.map fun v => v.category).sum ≤ 8) (kk : ∀ r S2, p2 r S2 → ∀ h, MR m0 ad S2 h → MF m0 ad h0 h → J Y (d + 1) G kc ks pn lv (r.toList ++ rest) h post) : J Y (d + 1) G kc ks pc lv st h post := cv_X12_228 hy pn (ct G m0 ad h0 h hM hF) hd hn hM.1 hln hst hrm (Nat.zero_le _) (Nat.zero_le _) (fun r h2 q => by obtain ⟨S2, q1, q2, q3⟩ := q; exact kk r S2 q1 h2 q2 q3)
theorem mc_231 {av rest : List Value} {p2 : Option Value → MS → Prop} (hM : MR m0 ad S h) (hF : MF m0 ad h0 h) (ct : CM Y_X12_longHangs d av S p2) (hy : Y.1.cls = RX12) (pn : Nat) (hd : decode Y.2.1 pc = .ok (.invokevirtual 231, 3)) (hn : pc + 3 = pn) (hln : av.length = 1) (hst : st = av.reverse ++ .ref m0 :: rest) (hrm : (rest.map fun v => v.category).sum ≤ 8) (kk : ∀ r S2, p2 r S2 → ∀ h, MR m0 ad S2 h → MF m0 ad h0 h → J Y (d + 1) G kc ks pn lv (r.toList ++ rest) h post) : J Y (d + 1) G kc ks pc lv st h post := cv_X12_231 hy pn (ct G m0 ad h0 h hM hF) hd hn hM.1 hln hst hrm (Nat.zero_le _) (Nat.zero_le _) (fun r h2 q => by obtain ⟨S2, q1, q2, q3⟩ := q; exact kk r S2 q1 h2 q2 q3)
theorem mc_234 {av rest : List Value} {p2 : Option Value → MS → Prop} (hM : MR m0 ad S h) (hF : MF m0 ad h0 h) (ct : CM Y_X12_wayOf d av S p2) (hy : Y.1.cls = RX12) (pn : Nat) (hd : decode Y.2.1 pc = .ok (.invokevirtual 234, 3)) (hn : pc + 3 = pn) (hln : av.length = 2) (hst : st = av.reverse ++ .ref m0 :: rest) (hrm : (rest.map fun v => v.category).sum ≤ 8) (kk : ∀ r S2, p2 r S2 → ∀ h, MR m0 ad S2 h → MF m0 ad h0 h → J Y (d + 1) G kc ks pn lv (r.toList ++ rest) h post) : J Y (d + 1) G kc ks pc lv st h post := cv_X12_234 hy pn (ct G m0 ad h0 h hM hF) hd hn hM.1 hln hst hrm (Nat.zero_le _) (Nat.zero_le _) (fun r h2 q => by obtain ⟨S2, q1, q2, q3⟩ := q; exact kk r S2 q1 h2 q2 q3)
theorem mc_243 {av rest : List Value} {p2 : Option Value → MS → Prop} (hM : MR m0 ad S h) (hF : MF m0 ad h0 h) (ct : CM Y_X12_liftOf d av S p2) (hy : Y.1.cls = RX12) (pn : Nat) (hd : decode Y.2.1 pc = .ok (.invokevirtual 243, 3)) (hn : pc + 3 = pn) (hln : av.length = 3) (hst : st = av.reverse ++ .ref m0 :: rest) (hrm : (rest.map fun v => v.category).sum ≤ 8) (kk : ∀ r S2, p2 r S2 → ∀ h, MR m0 ad S2 h → MF m0 ad h0 h → J Y (d + 1) G kc ks pn lv (r.toList ++ rest) h post) : J Y (d + 1) G kc ks pc lv st h post := cv_X12_243 hy pn (ct G m0 ad h0 h hM hF) hd hn hM.1 hln hst hrm (Nat.zero_le _) (Nat.zero_le _) (fun r h2 q => by obtain ⟨S2, q1, q2, q3⟩ := q; exact kk r S2 q1 h2 q2 q3)
theorem mc_249 {av rest : List Value} {p2 : Option Value → MS → Prop} (hM : MR m0 ad S h) (hF : MF m0 ad h0 h) (ct : CM Y_X12_find d av S p2) (hy : Y.1.cls = RX12) (pn : Nat) (hd : decode Y.2.1 pc = .ok (.invokevirtual 249, 3)) (hn : pc + 3 = pn) (hln : av.length = 2) (hst : st = av.reverse ++ .ref m0 :: rest) (hrm : (rest.map fun v => v.category).sum ≤ 8) (kk : ∀ r S2, p2 r S2 → ∀ h, MR m0 ad S2 h → MF m0 ad h0 h → J Y (d + 1) G kc ks pn lv (r.toList ++ rest) h post) : J Y (d + 1) G kc ks pc lv st h post := cv_X12_249 hy pn (ct G m0 ad h0 h hM hF) hd hn hM.1 hln hst hrm (Nat.zero_le _) (Nat.zero_le _) (fun r h2 q => by obtain ⟨S2, q1, q2, q3⟩ := q; exact kk r S2 q1 h2 q2 q3)
theorem mc_253 {av rest : List Value} {p2 : Option Value → MS → Prop} (hM : MR m0 ad S h) (hF : MF m0 ad h0 h) (ct : CM Y_X12_why d av S p2) (hy : Y.1.cls = RX12) (pn : Nat) (hd : decode Y.2.1 pc = .ok (.invokevirtual 253, 3)) (hn : pc + 3 = pn) (hln : av.length = 3) (hst : st = av.reverse ++ .ref m0 :: rest) (hrm : (rest.map fun v => v.category).sum ≤ 8) (kk : ∀ r S2, p2 r S2 → ∀ h, MR m0 ad S2 h → MF m0 ad h0 h → J Y (d + 1) G kc ks pn lv (r.toList ++ rest) h post) : J Y (d + 1) G kc ks pc lv st h post := cv_X12_253 hy pn (ct G m0 ad h0 h hM hF) hd hn hM.1 hln hst hrm (Nat.zero_le _) (Nat.zero_le _) (fun r h2 q => by obtain ⟨S2, q1, q2, q3⟩ := q; exact kk r S2 q1 h2 q2 q3)
theorem mc_259 {av rest : List Value} {p2 : Option Value → MS → Prop} (hM : MR m0 ad S h) (hF : MF m0 ad h0 h) (ct : CM Y_X12_part d av S p2) (hy : Y.1.cls = RX12) (pn : Nat) (hd : decode Y.2.1 pc = .ok (.invokevirtual 259, 3)) (hn : pc + 3 = pn) (hln : av.length = 2) (hst : st = av.reverse ++ .ref m0 :: rest) (hrm : (rest.map fun v => v.category).sum ≤ 8) (kk : ∀ r S2, p2 r S2 → ∀ h, MR m0 ad S2 h → MF m0 ad h0 h → J Y (d + 1) G kc ks pn lv (r.toList ++ rest) h post) : J Y (d + 1) G kc ks pc lv st h post := cv_X12_259 hy pn (ct G m0 ad h0 h hM hF) hd hn hM.1 hln hst hrm (Nat.zero_le _) (Nat.zero_le _) (fun r h2 q => by obtain ⟨S2, q1, q2, q3⟩ := q; exact kk r S2 q1 h2 q2 q3)
theorem mc_262 {av rest : List Value} {p2 : Option Value → MS → Prop} (hM : MR m0 ad S h) (hF : MF m0 ad h0 h) (ct : CM Y_X12_isLate d av S p2) (hy : Y.1.cls = RX12) (pn : Nat) (hd : decode Y.2.1 pc = .ok (.invokevirtual 262, 3)) (hn : pc + 3 = pn) (hln : av.length = 1) (hst : st = av.reverse ++ .ref m0 :: rest) (hrm : (rest.map fun v => v.category).sum ≤ 8) (kk : ∀ r S2, p2 r S2 → ∀ h, MR m0 ad S2 h → MF m0 ad h0 h → J Y (d + 1) G kc ks pn lv (r.toList ++ rest) h post) : J Y (d + 1) G kc ks pc lv st h post := cv_X12_262 hy pn (ct G m0 ad h0 h hM hF) hd hn hM.1 hln hst hrm (Nat.zero_le _) (Nat.zero_le _) (fun r h2 q => by obtain ⟨S2, q1, q2, q3⟩ := q; exact kk r S2 q1 h2 q2 q3)
theorem mc_268 {av rest : List Value} {p2 : Option Value → MS → Prop} (hM : MR m0 ad S h) (hF : MF m0 ad h0 h) (ct : CM Y_X12_isAlone d av S p2) (hy : Y.1.cls = RX12) (pn : Nat) (hd : decode Y.2.1 pc = .ok (.invokevirtual 268, 3)) (hn : pc + 3 = pn) (hln : av.length = 1) (hst : st = av.reverse ++ .ref m0 :: rest) (hrm : (rest.map fun v => v.category).sum ≤ 8) (kk : ∀ r S2, p2 r S2 → ∀ h, MR m0 ad S2 h → MF m0 ad h0 h → J Y (d + 1) G kc ks pn lv (r.toList ++ rest) h post) : J Y (d + 1) G kc ks pc lv st h post := cv_X12_268 hy pn (ct G m0 ad h0 h hM hF) hd hn hM.1 hln hst hrm (Nat.zero_le _) (Nat.zero_le _) (fun r h2 q => by obtain ⟨S2, q1, q2, q3⟩ := q; exact kk r S2 q1 h2 q2 q3)
theorem mc_271 {av rest : List Value} {p2 : Option Value → MS → Prop} (hM : MR m0 ad S h) (hF : MF m0 ad h0 h) (ct : CM Y_X12_packs d av S p2) (hy : Y.1.cls = RX12) (pn : Nat) (hd : decode Y.2.1 pc = .ok (.invokevirtual 271, 3)) (hn : pc + 3 = pn) (hln : av.length = 3) (hst : st = av.reverse ++ .ref m0 :: rest) (hrm : (rest.map fun v => v.category).sum ≤ 8) (kk : ∀ r S2, p2 r S2 → ∀ h, MR m0 ad S2 h → MF m0 ad h0 h → J Y (d + 1) G kc ks pn lv (r.toList ++ rest) h post) : J Y (d + 1) G kc ks pc lv st h post := cv_X12_271 hy pn (ct G m0 ad h0 h hM hF) hd hn hM.1 hln hst hrm (Nat.zero_le _) (Nat.zero_le _) (fun r h2 q => by obtain ⟨S2, q1, q2, q3⟩ := q; exact kk r S2 q1 h2 q2 q3)
theorem mc_283 {av rest : List Value} {p2 : Option Value → MS → Prop} (hM : MR m0 ad S h) (hF : MF m0 ad h0 h) (ct : CM Y_X12_mayBegin d av S p2) (hy : Y.1.cls = RX12) (pn : Nat) (hd : decode Y.2.1 pc = .ok (.invokevirtual 283, 3)) (hn : pc + 3 = pn) (hln : av.length = 5) (hst : st = av.reverse ++ .ref m0 :: rest) (hrm : (rest.map fun v => v.category).sum ≤ 8) (kk : ∀ r S2, p2 r S2 → ∀ h, MR m0 ad S2 h → MF m0 ad h0 h → J Y (d + 1) G kc ks pn lv (r.toList ++ rest) h post) : J Y (d + 1) G kc ks pc lv st h post := cv_X12_283 hy pn (ct G m0 ad h0 h hM hF) hd hn hM.1 hln hst hrm (Nat.zero_le _) (Nat.zero_le _) (fun r h2 q => by obtain ⟨S2, q1, q2, q3⟩ := q; exact kk r S2 q1 h2 q2 q3)
theorem mc_287 {av rest : List Value} {p2 : Option Value → MS → Prop} (hM : MR m0 ad S h) (hF : MF m0 ad h0 h) (ct : CM Y_X12_goOn d av S p2) (hy : Y.1.cls = RX12) (pn : Nat) (hd : decode Y.2.1 pc = .ok (.invokevirtual 287, 3)) (hn : pc + 3 = pn) (hln : av.length = 7) (hst : st = av.reverse ++ .ref m0 :: rest) (hrm : (rest.map fun v => v.category).sum ≤ 8) (kk : ∀ r S2, p2 r S2 → ∀ h, MR m0 ad S2 h → MF m0 ad h0 h → J Y (d + 1) G kc ks pn lv (r.toList ++ rest) h post) : J Y (d + 1) G kc ks pc lv st h post := cv_X12_287 hy pn (ct G m0 ad h0 h hM hF) hd hn hM.1 hln hst hrm (Nat.zero_le _) (Nat.zero_le _) (fun r h2 q => by obtain ⟨S2, q1, q2, q3⟩ := q; exact kk r S2 q1 h2 q2 q3)
end ML
