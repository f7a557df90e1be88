/-! ===== orders: the component's search ===== -/
section OB
variable {S : MS}
def sumW (S : MS) : List Nat → Nat
  | [] => 0
  | p :: σ => sumW S σ + 4 * wyN S p
def sumM (S : MS) : List Nat → Nat
  | [] => 0
  | p :: σ => sumM S σ + miN S p
theorem sumW_perm {l1 l2 : List Nat} (h : l1.Perm l2) : sumW S l1 = sumW S l2 := by
  induction h with
  | nil => rfl
  | cons x _ ih => rw [sumW, sumW, ih]
  | swap x y l => rw [sumW, sumW, sumW, sumW]; omega
  | trans _ _ i1 i2 => rw [i1, i2]
theorem sumM_perm {l1 l2 : List Nat} (h : l1.Perm l2) : sumM S l1 = sumM S l2 := by
  induction h with
  | nil => rfl
  | cons x _ ih => rw [sumM, sumM, ih]
  | swap x y l => rw [sumM, sumM, sumM, sumM]; omega
  | trans _ _ i1 i2 => rw [i1, i2]
end OB
section OM2
variable {hold : Nat → Nat → Nat → Prop} {mi : Nat → Nat} {rr : Nat}
theorem Fs0.ex {p hf t : Nat} : ∀ (k a : Nat), t ≤ a + k → a ≤ t → hold t p hf → ∃ t', t' ≤ t ∧ Fs0 hold p a hf t'
  | 0, a, h1, h2, h => by
    have e : t = a := by omega
    subst e
    exact ⟨t, Nat.le_refl _, Nat.le_refl _, h, fun t' x y => by omega⟩
  | k + 1, a, h1, h2, h => by
    by_cases c : hold a p hf
    · exact ⟨a, h2, Nat.le_refl _, c, fun t' x y => by omega⟩
    · have ne : a ≠ t := fun z => c (by rw [z]; exact h)
      obtain ⟨t', g1, g2, g3, g4⟩ := Fs0.ex k (a + 1) (by omega) (by omega) h
      refine ⟨t', g1, by omega, g3, fun s x y => ?_⟩
      by_cases e : s = a
      · rw [e]; exact c
      · exact g4 s (by omega) y
/-- who begins earlier ends no later -/
theorem SC.mono : ∀ {σ : List Nat} {a a2 hf e0 e1 e : Nat}, a2 ≤ a → e1 ≤ e0 → SC hold mi rr σ a hf e0 e → ∃ e2, e2 ≤ e ∧ SC hold mi rr σ a2 hf e1 e2
  | [], a, a2, hf, e0, e1, e, h1, h2, h => ⟨e1, by have : e = e0 := h; omega, rfl⟩
  | p :: σ, a, a2, hf, e0, e1, e, h1, h2, h => by
    obtain ⟨t, ⟨⟨g1, g2, g3⟩, g4⟩, g5⟩ := h
    obtain ⟨t', k1, k2⟩ := Fs0.ex (hold := hold) (p := p) (hf := hf) (t := t) (t - a2) a2 (by omega) (by omega) g2
    obtain ⟨e2, m1, m2⟩ := SC.mono (a2 := t' + mi p + rr) (e1 := t' + mi p) (by omega) (by omega) g5
    exact ⟨e2, m1, t', ⟨k2, by omega⟩, m2⟩
end OM2
theorem totL_app {mi : Nat → Nat} {rr p : Nat} {l : List Nat} : totL mi rr (l ++ [p]) = totL mi rr l + (rr + mi p) := by
  rw [totL_perm (List.perm_append_singleton p l), totL]
section OC
variable {S X X0 : MS} {sl : Nat → Nat} {nl u n rr : Nat} {wn : Nat → Option Nat}
/-- what the search stands on -/
def cH (S X X0 : MS) (wn : Nat → Option Nat) (n rr : Nat) : Prop := (∀ k, 8 ≤ k → X0.2 k = X.2 k) ∧ X0.2 1 7 = 0 ∧ X0.2 1 8 = 0 ∧ X0.2 1 9 = 0 ∧ X0.1 5 = nI rr ∧ rr ≤ 120 ∧ (∀ j, j < n → wf wn j < 1000 ∧ S.2 2 (wf wn j) = nI (wyN S (wf wn j)) ∧ wyN S (wf wn j) ≤ 60) ∧ n ≤ 5
theorem cH.nm {i fo : Nat} (h : cH S X X0 wn n rr) (hi : i < n) : fmH S X (x_flown (x_goal S X0 (wf wn i)) (nI fo)) (wf wn i) fo := by
  obtain ⟨h8, a7, a8, a9, -, -, hp, -⟩ := h
  refine ⟨(hp i hi).1, ?_, ?_, ?_, ?_, ?_, ?_, fun k hk => ?_⟩
  · simp only [x_flown, x_goal, u2_s]
    rw [pk_un (by decide), pk_un (by decide), pk_us]
  · simp only [x_flown, x_goal, u2_s]
    rw [pk_un (by decide), pk_us]
  · rw [x_gf_1 7 (by decide) (by decide)]; exact a7
  · rw [x_gf_1 8 (by decide) (by decide)]; exact a8
  · rw [x_gf_1 9 (by decide) (by decide)]; exact a9
  · simp only [x_flown, u2_s, pk_us]
  · rw [x_gf_r k (by omega)]; exact h8 k hk
theorem cH.mi {i : Nat} (h : cH S X X0 wn n rr) (hi : i < n) : exM S wn i = nI (miN S (wf wn i)) ∧ miN S (wf wn i) ≤ 122 := by
  obtain ⟨-, -, -, -, -, -, hp, -⟩ := h
  obtain ⟨-, e, w⟩ := hp i hi
  refine ⟨?_, by rw [miN]; omega⟩
  rw [exM, e, show (2 : Int32) = nI 2 from rfl, nI_mul, nI_add, miN]
theorem cH.lm {tk : Nat → Int32} (h : cH S X X0 wn n rr) : ∀ k, k ≤ n → lmT S tk (X0.1 5) wn k = nI (totL (miN S) rr (rem (wf wn) tk k)) ∧ totL (miN S) rr (rem (wf wn) tk k) ≤ 242 * k
  | 0, _ => ⟨rfl, Nat.le_refl _⟩
  | k + 1, hk => by
    obtain ⟨i1, i2⟩ := cH.lm (tk := tk) h k (by omega)
    obtain ⟨m1, m2⟩ := h.mi (show k < n by omega)
    have h5 := h.2.2.2.2.1
    have h6 := h.2.2.2.2.2.1
    rw [lmT, rem_s, i1]
    by_cases c : tk k = 0
    · rw [if_pos c, if_pos c, totL_app, show 2 * S.2 2 (wf wn k) + 2 = nI (miN S (wf wn k)) from m1, h5, nI_add, nI_add]
      exact ⟨rfl, by omega⟩
    · rw [if_neg c, if_neg c, Int32.add_zero]
      exact ⟨rfl, by omega⟩
theorem cH.b {tk : Nat → Int32} {q fo bb i : Nat} (h : cH S X X0 wn n rr) (hr : IRu (S.2 31) (S.2 32) X.2 sl u) (hu : u ≤ 10) (hi : i < n) (hb : bb ≤ 721) (hq : q ≤ 1500) :
    (∃ t, Fst (hdN S nl u) (miN S) (wf wn i) q fo t ∧ t + miN S (wf wn i) + totL (miN S) rr (rem (wf wn) (upd tk i 1) n) < bb ∧ exB S X0 wn n u tk (nI q) (nI fo) (nI bb) i = nI t) ∨
    ((∀ t, Fst (hdN S nl u) (miN S) (wf wn i) q fo t → ¬ t + miN S (wf wn i) + totL (miN S) rr (rem (wf wn) (upd tk i 1) n) < bb) ∧ exB S X0 wn n u tk (nI q) (nI fo) (nI bb) i = -1) := by
  obtain ⟨m1, m2⟩ := h.mi hi
  obtain ⟨l1, l2⟩ := h.lm (tk := upd tk i 1) n (Nat.le_refl _)
  have hn := h.2.2.2.2.2.2.2
  generalize hT : totL (miN S) rr (rem (wf wn) (upd tk i 1) n) = T at l1 l2
  rw [exB, m1, l1]
  have hla : nI bb - 1 - nI (miN S (wf wn i)) - nI T ≤ 720 := la_le hb m2 (by omega)
  have hti : (nI bb - 1 - nI (miN S (wf wn i)) - nI T).toInt = (bb : Int) - 1 - miN S (wf wn i) - T := la_b (by omega) (by omega) (by omega)
  have hle : ∀ t, t ≤ 720 → (nI t ≤ nI bb - 1 - nI (miN S (wf wn i)) - nI T ↔ t + miN S (wf wn i) + T < bb) := fun t ht => by
    rw [Int32.le_iff_toInt_le, hti, nI_toInt (by omega)]
    omega
  rcases fm_spec (nl := nl) (h.nm (fo := fo) hi) hr hu hla 2000 (-1) q (Or.inl rfl) hq (by omega) with ⟨t, t7, f1, f2, f3⟩ | ⟨f1, f2⟩
  · have := (hle t t7).mp f2
    exact Or.inl ⟨t, ⟨f1, by omega⟩, this, f3⟩
  · exact Or.inr ⟨fun t ht z => f1 t (by have := ht.2; omega) ht.1 ((hle t (by have := ht.2; omega)).mpr z), f2⟩
/-- where a set was tried from q on, no order of the rest ends ahead of bb -/
def EI (S : MS) (nl u n rr : Nat) (wn : Nat → Option Nat) (k M bb : Nat) (E : Nat → Int32) : Prop := ∀ T, T < 32 → (rem (wf wn) (tkf T) n).length ≤ k → ∀ q fo τ e, q ≤ 1500 → E T ≤ nI q → fo + sumM S (rem (wf wn) (tkf T) n) = M → τ.Perm (rem (wf wn) (tkf T) n) → SC (hdN S nl u) (miN S) rr τ q fo 0 e → bb ≤ e
theorem EI.le {k M bb b2 : Nat} {E : Nat → Int32} (h : EI S nl u n rr wn k M bb E) (hb : b2 ≤ bb) : EI S nl u n rr wn k M b2 E := fun T hT hl q fo τ e h1 h2 h3 h4 h5 => Nat.le_trans hb (h T hT hl q fo τ e h1 h2 h3 h4 h5)
/-- s2 is s or a better one of F, the least of F -/
def CRg (S : MS) (nl u n rr : Nat) (wn : Nat → Option Nat) (f M : Nat) (o : Nat → Int32) (k : Nat) (F : List Nat → Nat → Prop) (s s2 : XS) : Prop := ∀ bb, bb ≤ 721 → s.1 = nI bb → EI S nl u n rr wn f M bb s.2.2 → ∃ b2, b2 ≤ bb ∧ s2.1 = nI b2 ∧ ((b2 = bb ∧ s2.2.1 = s.2.1) ∨ (b2 < bb ∧ ∃ σ, F σ b2 ∧ (∀ i, i < n → s2.2.1 i = ap o k σ i) ∧ ∀ τ, F τ b2 → ¬ lexL τ σ)) ∧ (∀ τ e, F τ e → b2 ≤ e) ∧ EI S nl u n rr wn f M b2 s2.2.2 ∧ ∀ T, T < 32 → f < (rem (wf wn) (tkf T) n).length → s2.2.2 T = s.2.2 T
theorem CRg.thn {f M : Nat} {o : Nat → Int32} {k : Nat} {F1 F2 F : List Nat → Nat → Prop} {s s1 s2 : XS} (h1 : CRg S nl u n rr wn f M o k F1 s s1) (h2 : CRg S nl u n rr wn f M o k F2 s1 s2) (hF : ∀ σ e, F σ e ↔ F1 σ e ∨ F2 σ e) (hl : ∀ σ τ e, F1 σ e → F2 τ e → lexL τ σ → F1 τ e) : CRg S nl u n rr wn f M o k F s s2 := by
  intro bb hb es hE
  obtain ⟨b1, p1, p2, p3, p4, pE, pT⟩ := h1 bb hb es hE
  obtain ⟨b2, q1, q2, q3, q4, qE, qT⟩ := h2 b1 (by omega) p2 pE
  refine ⟨b2, by omega, q2, ?_, fun τ e he => ?_, qE, fun T hT hl => (qT T hT hl).trans (pT T hT hl)⟩
  · rcases q3 with ⟨q5, q6⟩ | ⟨q5, σ, q6, q7, q8⟩
    · rcases p3 with ⟨p5, p6⟩ | ⟨p5, σ, p6, p7, p8⟩
      · exact Or.inl ⟨by omega, q6.trans p6⟩
      · refine Or.inr ⟨by omega, σ, (hF _ _).mpr (Or.inl (by rw [q5]; exact p6)), fun i hi => by rw [q6]; exact p7 i hi, fun τ ht z => ?_⟩
        rw [q5] at ht
        rcases (hF _ _).mp ht with w | w
        · exact p8 τ w z
        · exact p8 τ (hl σ τ b1 p6 w z) z
    · refine Or.inr ⟨by omega, σ, (hF _ _).mpr (Or.inr q6), q7, fun τ ht z => ?_⟩
      rcases (hF _ _).mp ht with w | w
      · have := p4 τ b2 w
        omega
      · exact q8 τ w z
  · rcases (hF _ _).mp he with w | w
    · have := p4 τ e w
      omega
    · exact q4 τ e w
theorem CRg.cg {f M : Nat} {o : Nat → Int32} {k : Nat} {F1 F : List Nat → Nat → Prop} {s s1 : XS} (h1 : CRg S nl u n rr wn f M o k F1 s s1) (hF : ∀ σ e, F σ e ↔ F1 σ e) : CRg S nl u n rr wn f M o k F s s1 := by
  intro bb hb es hE
  obtain ⟨b1, p1, p2, p3, p4, pE, pT⟩ := h1 bb hb es hE
  refine ⟨b1, p1, p2, p3.imp id (fun z => ⟨z.1, ?_⟩), fun τ e he => p4 τ e ((hF _ _).mp he), pE, pT⟩
  obtain ⟨-, σ, r1, r2, r3⟩ := z
  exact ⟨σ, (hF _ _).mpr r1, r2, fun τ ht => r3 τ ((hF _ _).mp ht)⟩
/-- the orders with a given head -/
def GC (S : MS) (nl u n rr : Nat) (wn : Nat → Option Nat) (tk : Nat → Int32) (q fo j : Nat) (σ : List Nat) (e : Nat) : Prop := tk j = 0 ∧ ∃ σ', σ = wf wn j :: σ' ∧ σ.Perm (rem (wf wn) tk n) ∧ SC (hdN S nl u) (miN S) rr σ q fo 0 e
theorem exG_st {f M : Nat} (h : cH S X X0 wn n rr) (hr : IRu (S.2 31) (S.2 32) X.2 sl u) (hu : u ≤ 10) (hso : ∀ i j, i < j → j < n → wf wn i ≤ wf wn j) (hf : f + 1 ≤ n)
    (ih : 0 < f → ∀ (T : Nat) (tr : Nat → Int32) (q fo : Nat) (s : XS), T < 32 → (rem (wf wn) (tkf T) n).length = f → q ≤ 1500 → fo + sumM S (rem (wf wn) (tkf T) n) = M → CRg S nl u n rr wn f M tr (n - f) (fun σ e => σ.Perm (rem (wf wn) (tkf T) n) ∧ SC (hdN S nl u) (miN S) rr σ q fo 0 e) s (exG S X0 wn n u f T tr (nI q) (nI fo) s))
    (T : Nat) (tr : Nat → Int32) (q fo : Nat) (s : XS) (hT : T < 32) (hlen : (rem (wf wn) (tkf T) n).length = f + 1) (hq : q ≤ 1500) (hM : fo + sumM S (rem (wf wn) (tkf T) n) = M) : CRg S nl u n rr wn (f + 1) M tr (n - (f + 1)) (fun σ e => σ.Perm (rem (wf wn) (tkf T) n) ∧ SC (hdN S nl u) (miN S) rr σ q fo 0 e) s (exG S X0 wn n u (f + 1) T tr (nI q) (nI fo) s) := by
  have hn := h.2.2.2.2.2.2.2
  have hX5 := h.2.2.2.2.1
  have hrr := h.2.2.2.2.2.1
  have step : ∀ j, j < n → tkf T j = 0 → ∀ s1 : XS, CRg S nl u n rr wn f M tr (n - (f + 1)) (GC S nl u n rr wn (tkf T) q fo j) s1 (if 0 ≤ exB S X0 wn n u (tkf T) (nI q) (nI fo) s1.1 j then (if f = 0 then (exB S X0 wn n u (tkf T) (nI q) (nI fo) s1.1 j + exM S wn j, va_cpy (upd tr (n - (f + 1)) (nI (wf wn j))) s1.2.1 0 0 n, s1.2.2) else exG S X0 wn n u f (tkS T j) (upd tr (n - (f + 1)) (nI (wf wn j))) (exB S X0 wn n u (tkf T) (nI q) (nI fo) s1.1 j + exM S wn j + X0.1 5) (nI fo + exM S wn j) s1) else s1) := by
    intro j hj t0 s1 bb hb es hE
    obtain ⟨m1, m2⟩ := h.mi hj
    have hpm := rem_take (pl := wf wn) t0 hj
    have hl2 : (rem (wf wn) (upd (tkf T) j 1) n).length = f := by
      have := rem_len (pl := wf wn) t0 hj
      omega
    have hM2 : fo + miN S (wf wn j) + sumM S (rem (wf wn) (upd (tkf T) j 1) n) = M := by
      have := sumM_perm (S := S) hpm
      rw [sumM] at this
      omega
    have hG : ∀ σ e, GC S nl u n rr wn (tkf T) q fo j σ e → ∃ σ' t, σ = wf wn j :: σ' ∧ σ'.Perm (rem (wf wn) (upd (tkf T) j 1) n) ∧ Fst (hdN S nl u) (miN S) (wf wn j) q fo t ∧ SC (hdN S nl u) (miN S) rr σ' (t + miN S (wf wn j) + rr) (fo + miN S (wf wn j)) (t + miN S (wf wn j)) e := by
      rintro σ e ⟨-, σ', rfl, g1, t, g2, g3⟩
      exact ⟨σ', t, rfl, (g1.trans hpm).cons_inv, g2, g3⟩
    rw [es]
    rcases h.b (nl := nl) (tk := tkf T) (q := q) (fo := fo) hr hu hj hb hq with ⟨t, hF, hlt, e⟩ | ⟨hno, e⟩
    · have hlo : ∀ σ e, GC S nl u n rr wn (tkf T) q fo j σ e → t + miN S (wf wn j) ≤ e := fun σ e hg => by
        obtain ⟨σ', t2, -, -, g3, g4⟩ := hG σ e hg
        have : t2 = t := g3.1.un hF.1
        subst this
        have := SC.lb g4
        omega
      have ht7 := hF.2
      rw [e, if_pos (Int32.not_lt.mp (nI_pos (by omega))), m1, nI_add]
      by_cases f0 : f = 0
      · rw [if_pos f0]
        have hnil : rem (wf wn) (upd (tkf T) j 1) n = [] := List.eq_nil_of_length_eq_zero (by rw [hl2, f0])
        rw [hnil] at hpm
        refine ⟨t + miN S (wf wn j), by omega, rfl, Or.inr ⟨by omega, [wf wn j], ⟨t0, [], rfl, hpm.symm, t, hF, rfl⟩, fun i hi => ?_, fun τ hg => ?_⟩, hlo, hE.le (by omega), fun _ _ _ => rfl⟩
        · show va_cpy (upd tr (n - (f + 1)) (nI (wf wn j))) s1.2.1 0 0 n i = upd tr (n - (f + 1)) (nI (wf wn j)) i
          simp only [va_cpy]
          rw [if_pos ⟨Nat.zero_le _, by omega⟩]
          simp
        · obtain ⟨σ', t2, rfl, g2, -, -⟩ := hG τ _ hg
          rw [hnil] at g2
          rw [g2.eq_nil]
          exact lexL_irr _
      · rw [if_neg f0, hX5, nI_add, nI_add]
        have hih := ih (by omega) (tkS T j) (upd tr (n - (f + 1)) (nI (wf wn j))) (t + miN S (wf wn j) + rr) (fo + miN S (wf wn j)) s1 (tk_or hT (by omega)).2 (by rw [tkf_or]; exact hl2) (by omega) (by rw [tkf_or]; exact hM2) bb hb es hE
        rw [tkf_or] at hih
        obtain ⟨b2, q1, q2, q3, q4, qE, qT⟩ := hih
        have hne : ∀ σ' : List Nat, σ'.Perm (rem (wf wn) (upd (tkf T) j 1) n) → ¬ σ' = [] := fun σ' g z => by
          have := g.length_eq
          rw [z, hl2] at this
          exact f0 this.symm
        have hG2 : ∀ σ e, GC S nl u n rr wn (tkf T) q fo j σ e → ∃ σ', σ = wf wn j :: σ' ∧ σ'.Perm (rem (wf wn) (upd (tkf T) j 1) n) ∧ SC (hdN S nl u) (miN S) rr σ' (t + miN S (wf wn j) + rr) (fo + miN S (wf wn j)) 0 e := fun σ e hg => by
          obtain ⟨σ', t2, rfl, g2, g3, g4⟩ := hG σ e hg
          have : t2 = t := g3.1.un hF.1
          subst this
          exact ⟨σ', rfl, g2, g4.e0 (hne σ' g2)⟩
        refine ⟨b2, q1, q2, q3.imp id (fun z => ⟨z.1, ?_⟩), fun τ e hg => ?_, qE, qT⟩
        · obtain ⟨-, σ', r1, r2, r3⟩ := z
          refine ⟨wf wn j :: σ', ⟨t0, σ', rfl, (r1.1.cons _).trans hpm.symm, t, hF, r1.2.e0 (hne σ' r1.1)⟩, fun i hi => ?_, fun τ hg z => ?_⟩
          · rw [r2 i hi, ap, show n - f = n - (f + 1) + 1 by omega]
          · obtain ⟨τ', rfl, g2, g3⟩ := hG2 τ b2 hg
            rcases z with z | z
            · exact absurd z (Nat.lt_irrefl _)
            · exact r3 τ' ⟨g2, g3⟩ z.2
        · obtain ⟨τ', rfl, g2, g3⟩ := hG2 τ e hg
          exact q4 τ' e ⟨g2, g3⟩
    · rw [e, if_neg (by decide)]
      refine ⟨bb, Nat.le_refl _, es, Or.inl ⟨rfl, rfl⟩, fun τ e hg => ?_, hE, fun _ _ _ => rfl⟩
      obtain ⟨σ', t2, -, g2, g3, g4⟩ := hG τ e hg
      have := SC.lb g4
      rw [totL_perm g2] at this
      have := hno t2 g3
      omega
  have loop : ∀ (s : XS) k, k ≤ n → CRg S nl u n rr wn f M tr (n - (f + 1)) (fun σ e => ∃ j, j < k ∧ GC S nl u n rr wn (tkf T) q fo j σ e) s (exL (fun i s => if 0 ≤ exB S X0 wn n u (tkf T) (nI q) (nI fo) s.1 i then (if f = 0 then (exB S X0 wn n u (tkf T) (nI q) (nI fo) s.1 i + exM S wn i, va_cpy (upd tr (n - (f + 1)) (nI (wf wn i))) s.2.1 0 0 n, s.2.2) else exG S X0 wn n u f (tkS T i) (upd tr (n - (f + 1)) (nI (wf wn i))) (exB S X0 wn n u (tkf T) (nI q) (nI fo) s.1 i + exM S wn i + X0.1 5) (nI fo + exM S wn i) s) else s) (fun i => ¬ tkf T i = 0 ∨ sameT (tkf T) wn i) s k) := by
    intro s k
    induction k with
    | zero =>
      intro _ bb hb es hE
      exact ⟨bb, Nat.le_refl _, es, Or.inl ⟨rfl, rfl⟩, fun τ e z => (by obtain ⟨j, hj, -⟩ := z; exact absurd hj (Nat.not_lt_zero _)), hE, fun _ _ _ => rfl⟩
    | succ k ihk =>
      intro hk
      rw [exL]
      by_cases c : ¬ tkf T k = 0 ∨ sameT (tkf T) wn k
      · rw [if_pos c]
        refine (ihk (by omega)).cg (fun σ e => ⟨?_, fun ⟨j, hj, z⟩ => ⟨j, by omega, z⟩⟩)
        rintro ⟨j, hj, z⟩
        by_cases w : j = k
        · subst w
          rcases c with c | ⟨c1, c2, c3⟩
          · exact absurd z.1 c
          · obtain ⟨-, σ', g1, g2⟩ := z
            exact ⟨j - 1, by omega, c2, σ', by rw [c3]; exact g1, g2⟩
        · exact ⟨j, by omega, z⟩
      · rw [if_neg c]
        have t0 : tkf T k = 0 := Classical.byContradiction (fun z => c (Or.inl z))
        refine (ihk (by omega)).thn (step k (by omega) t0 _) (fun σ e => ⟨?_, ?_⟩) (fun σ τ e h1 h2 hl => ?_)
        · rintro ⟨j, hj, z⟩
          by_cases w : j = k
          · subst w; exact Or.inr z
          · exact Or.inl ⟨j, by omega, z⟩
        · rintro (⟨j, hj, z⟩ | z)
          · exact ⟨j, by omega, z⟩
          · exact ⟨k, Nat.lt_succ_self k, z⟩
        · obtain ⟨j, hj, j0, σ', rfl, -⟩ := h1
          obtain ⟨-, τ', rfl, g2⟩ := h2
          rcases hl with hl | ⟨hl, -⟩
          · have := hso j k hj (by omega)
            omega
          · exact ⟨j, hj, j0, τ', by rw [hl], g2⟩
  intro bb hb es hE
  rw [exG]
  by_cases c : s.2.2 T ≤ nI q
  · rw [if_pos c]
    exact ⟨bb, Nat.le_refl _, es, Or.inl ⟨rfl, rfl⟩, fun τ e he => hE T hT (by omega) q fo τ e hq c hM he.1 he.2, hE, fun _ _ _ => rfl⟩
  · rw [if_neg c]
    have hne : ∀ T2, ¬ (rem (wf wn) (tkf T2) n).length = f + 1 → T2 ≠ T := fun T2 z e => z (by rw [e]; exact hlen)
    have hE1 : EI S nl u n rr wn f M bb (upd s.2.2 T (nI q)) := fun T2 hT2 hl q2 fo2 τ e h1 h2 => hE T2 hT2 (by omega) q2 fo2 τ e h1 (by rw [pk_un (hne T2 (by omega))] at h2; exact h2)
    have hL := (loop (s.1, s.2.1, upd s.2.2 T (nI q)) n (Nat.le_refl _)).cg (F := fun σ e => σ.Perm (rem (wf wn) (tkf T) n) ∧ SC (hdN S nl u) (miN S) rr σ q fo 0 e) (fun σ e => ⟨fun hs => by
      cases σ with
      | nil =>
        have := hs.1.length_eq
        rw [hlen] at this
        cases this
      | cons p σ' =>
        obtain ⟨j, hj, j1, j2⟩ := rem_mem.mp (hs.1.mem_iff.mp List.mem_cons_self)
        exact ⟨j, hj, j1, σ', by rw [j2], hs⟩, fun ⟨_, _, _, _, _, g2⟩ => g2⟩) bb hb es hE1
    obtain ⟨b2, q1, q2, q3, q4, qE, qT⟩ := hL
    refine ⟨b2, q1, q2, q3, q4, fun T2 hT2 hl q5 fo2 τ e h1 h2 h3 h4 h5 => ?_, fun T2 hT2 hl => (qT T2 hT2 (by omega)).trans (pk_un (hne T2 (by omega)))⟩
    by_cases w : (rem (wf wn) (tkf T2) n).length ≤ f
    · exact qE T2 hT2 w q5 fo2 τ e h1 h2 h3 h4 h5
    · rw [qT T2 hT2 (by omega)] at h2
      by_cases v : T2 = T
      · subst v
        rw [show (s.1, s.2.1, upd s.2.2 T2 (nI q)).2.2 T2 = nI q from pk_us] at h2
        have hqq := (nI_leI (by omega) (by omega)).mp h2
        have hfo : fo2 = fo := by omega
        subst hfo
        obtain ⟨e2, g1, g2⟩ := SC.mono (e1 := 0) hqq (Nat.le_refl _) h5
        exact Nat.le_trans (q4 τ e2 ⟨h4, g2⟩) g1
      · rw [show (s.1, s.2.1, upd s.2.2 T (nI q)).2.2 T2 = s.2.2 T2 from pk_un v] at h2
        exact Nat.le_trans q1 (hE T2 hT2 hl q5 fo2 τ e h1 h2 h3 h4 h5)
theorem exG_cr {M : Nat} (h : cH S X X0 wn n rr) (hr : IRu (S.2 31) (S.2 32) X.2 sl u) (hu : u ≤ 10) (hso : ∀ i j, i < j → j < n → wf wn i ≤ wf wn j) : ∀ f, f + 1 ≤ n → ∀ (T : Nat) (tr : Nat → Int32) (q fo : Nat) (s : XS), T < 32 → (rem (wf wn) (tkf T) n).length = f + 1 → q ≤ 1500 → fo + sumM S (rem (wf wn) (tkf T) n) = M → CRg S nl u n rr wn (f + 1) M tr (n - (f + 1)) (fun σ e => σ.Perm (rem (wf wn) (tkf T) n) ∧ SC (hdN S nl u) (miN S) rr σ q fo 0 e) s (exG S X0 wn n u (f + 1) T tr (nI q) (nI fo) s)
  | 0, hf => exG_st h hr hu hso hf (fun z => absurd z (Nat.lt_irrefl _))
  | f + 1, hf => exG_st h hr hu hso hf (fun _ => exG_cr h hr hu hso f (by omega))
end OC
/-! the model's orders are those that can be paid for -/
section OD
variable {S : MS} {nl u n : Nat} {lp : Nat → Nat} {rr mo : Nat}
def affL (S : MS) (mo : Nat) : List Nat → Nat → Nat → Prop
  | [], _, _ => True
  | p :: σ, hf, le => affP S mo p hf le ∧ affL S mo σ (hf + miN S p) (le - 4 * wyN S p)
theorem affL_iff : ∀ (p : Nat) (σ : List Nat) (hf le : Nat), affL S mo (p :: σ) hf le ↔ sumW S (p :: σ) + 10 ≤ le ∧ hf + sumM S (p :: σ) ≤ mo
  | p, [], hf, le => by
    simp only [affL, affP, sumW, sumM, and_true]
    omega
  | p, q :: σ, hf, le => by
    have ih := affL_iff q σ (hf + miN S p) (le - 4 * wyN S p)
    rw [affL, ih, affP]
    simp only [sumW, sumM]
    omega
theorem FM_iff : ∀ (f : Nat) (fl : Nat → Int32) (a hf le e0 : Nat) (σ : List Nat) (e : Nat), (rem lp fl n).length = f → (FM S nl u n lp rr mo f fl a hf le e0 σ e ↔ σ.Perm (rem lp fl n) ∧ SC (hdN S nl u) (miN S) rr σ a hf e0 e ∧ affL S mo σ hf le)
  | 0, fl, a, hf, le, e0, σ, e, hl => by
    have hnil := List.eq_nil_of_length_eq_zero hl
    rw [FM, hnil]
    constructor
    · rintro ⟨rfl, rfl⟩
      exact ⟨List.Perm.refl _, rfl, trivial⟩
    · rintro ⟨h1, h2, -⟩
      have := h1.eq_nil
      subst this
      exact ⟨rfl, h2⟩
  | f + 1, fl, a, hf, le, e0, σ, e, hl => by
    rw [FM]
    constructor
    · rintro ⟨j, hj, j0, t, σ', ⟨g1, g2⟩, rfl, g3⟩
      have hl2 := rem_len (pl := lp) j0 hj
      obtain ⟨i1, i2, i3⟩ := (FM_iff f (upd fl j 1) _ _ _ _ σ' e (by omega)).mp g3
      exact ⟨(i1.cons _).trans (rem_take j0 hj).symm, ⟨t, g1, i2⟩, g2, i3⟩
    · rintro ⟨h1, h2, h3⟩
      cases σ with
      | nil =>
        have := h1.length_eq
        rw [hl] at this
        cases this
      | cons p σ' =>
        obtain ⟨j, hj, j0, rfl⟩ := rem_mem.mp (h1.mem_iff.mp List.mem_cons_self)
        obtain ⟨t, g1, g2⟩ := h2
        have hl2 := rem_len (pl := lp) j0 hj
        exact ⟨j, hj, j0, t, σ', ⟨g1, h3.1⟩, rfl, (FM_iff f (upd fl j 1) _ _ _ _ σ' e (by omega)).mpr ⟨(h1.trans (rem_take j0 hj)).cons_inv, g2, h3.2⟩⟩
end OD
