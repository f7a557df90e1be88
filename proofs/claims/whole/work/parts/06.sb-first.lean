/-! ===== orders: the first minute at which the rules hold ===== -/
theorem wkN_ag {nm nm2 f : Nat → Int32} : ∀ z, (∀ k, k < z → nmV nm (f k - 1000) = nmV nm2 (f k - 1000)) → wkN nm f z = wkN nm2 f z
  | 0, _ => rfl
  | z + 1, h => by
    rw [wkN, wkN, wkN_ag z (fun k hk => h k (by omega)), wk1, wk1, h z (Nat.lt_succ_self z)]
theorem am_no {f : Nat → Int32} : ∀ z, amN f z = 0 → ∀ k, k < z → ¬ f k - 1000 = 4
  | 0, _, k, hk => absurd hk (Nat.not_lt_zero _)
  | z + 1, h, k, hk => by
    rw [amN] at h
    by_cases c : ¬ amN f z = 0 ∨ f z - 1000 = 4
    · rw [if_pos c] at h
      exact absurd h (by decide)
    · by_cases q : k = z
      · rw [q]; exact fun y => c (Or.inr y)
      · exact am_no z (Classical.byContradiction (fun y => c (Or.inl y))) k (by omega)
theorem ah_no {f : Nat → Int32} : ∀ z, ahN f z = 0 → ∀ k, k < z → ¬ (0 ≤ f k - 1000 ∧ f k - 1000 ≤ 3)
  | 0, _, k, hk => absurd hk (Nat.not_lt_zero _)
  | z + 1, h, k, hk => by
    rw [ahN] at h
    by_cases c : ¬ ahN f z = 0 ∨ (0 ≤ f z - 1000 ∧ f z - 1000 ≤ 3)
    · rw [if_pos c] at h
      exact absurd h (by decide)
    · by_cases q : k = z
      · rw [q]; exact fun y => c (Or.inr y)
      · exact ah_no z (Classical.byContradiction (fun y => c (Or.inl y))) k (by omega)
theorem nmV_ag {nm nm2 : Nat → Int32} {x : Int32} (h5 : ∀ j, 5 ≤ j → nm j = nm2 j) (h4 : x = 4 → nm 4 = nm2 4) (h3 : (0 ≤ x ∧ x ≤ 3) → ∀ j, j < 4 → nm j = nm2 j) : nmV nm x = nmV nm2 x := by
  rw [nmV, nmV]
  by_cases c : ¬ x < 0 ∧ ¬ 11 ≤ x
  · rw [if_pos c, if_pos c]
    obtain ⟨j, hj, rfl⟩ := nI_of c.1
    rw [nI_clamp hj]
    by_cases q5 : 5 ≤ j
    · exact h5 j q5
    · by_cases q4 : j = 4
      · subst q4
        exact h4 rfl
      · exact h3 ⟨Int32.not_lt.mp c.1, (nI_leI (b := 3) hj (by decide)).mpr (by omega)⟩ j (by omega)
  · rw [if_neg c, if_neg c]
theorem x_time_4 {S X : MS} {t : Int32} : (x_time S X t).2 1 4 = t := by simp only [x_time, u2_s, pk_us]
theorem x_time_3 {S X : MS} {t t2 : Int32} (h : c_hour t = c_hour t2) : ∀ j, j < 4 → (x_time S X t).2 1 j = (x_time S X t2).2 1 j := by
  intro j hj
  simp only [x_time, u2_s, h]
  rw [pk_un (show j ≠ 4 by omega), pk_un (show j ≠ 4 by omega)]
theorem hour_60q {a b : Nat} (ha : a ≤ 100000) (hb : b ≤ 100000) (h : a / 60 = b / 60) : c_hour (nI a) = c_hour (nI b) := by
  rw [c_hour, c_hour, nI_div60 ha, nI_div60 hb, h]
theorem nx_in {am ah : Int32} {q q2 : Nat} (hq : q ≤ 720) (h2 : q2 ≤ 1500) (e : (if nI q + 1 < a_nxt am ah (nI q) then a_nxt am ah (nI q) else nI q + 1) = nI q2) {t : Nat} (h1 : q ≤ t) (ht : t < q2) : t = q ∨ (am = 0 ∧ (ah = 0 ∨ t / 60 = q / 60)) := by
  by_cases a : am = 0
  · by_cases b : ah = 0
    · exact Or.inr ⟨a, Or.inl b⟩
    · have en : a_nxt am ah (nI q) = nI ((q / 60 + 1) * 60) := by
        rw [a_nxt, if_pos a, if_neg b, nI_div60 (by omega), nI_1, show (60 : Int32) = nI 60 from rfl, nI_mul]
      rw [en, nI_1] at e
      have l1 : (nI (q + 1) < nI ((q / 60 + 1) * 60)) ↔ q + 1 < (q / 60 + 1) * 60 := nI_ltI (by omega) (by omega)
      by_cases c : q + 1 < (q / 60 + 1) * 60
      · rw [if_pos (l1.mpr c)] at e
        have := (nI_eq (by omega) (by omega)).mp e
        exact Or.inr ⟨a, Or.inr (by omega)⟩
      · rw [if_neg (fun z => c (l1.mp z))] at e
        have := (nI_eq (by omega) (by omega)).mp e
        exact Or.inl (by omega)
  · have en : a_nxt am ah (nI q) = nI (q + 1) := by rw [a_nxt, if_neg a, nI_1]
    rw [en, nI_1, if_neg (i32irr _)] at e
    have := (nI_eq (by omega) (by omega)).mp e
    exact Or.inl (by omega)
theorem fb_sp {X : MS} : ∀ (j k : Nat), (fbN X j k = -1 ∧ ∀ i, k ≤ i → i < k + j → ¬ evC X i = 0) ∨ ∃ i, k ≤ i ∧ i < k + j ∧ fbN X j k = nI i ∧ evC X i = 0
  | 0, k => Or.inl ⟨rfl, fun i a b => by omega⟩
  | j + 1, k => by
    rw [fbN]
    by_cases e : evC X k = 0
    · rw [if_pos e]
      exact Or.inr ⟨k, Nat.le_refl _, by omega, rfl, e⟩
    · rw [if_neg e]
      rcases fb_sp j (k + 1) with ⟨h1, h2⟩ | ⟨i, h1, h2, h3, h4⟩
      · refine Or.inl ⟨h1, fun i a b => ?_⟩
        by_cases q : i = k
        · rw [q]; exact e
        · exact h2 i (by omega) (by omega)
      · exact Or.inr ⟨i, by omega, by omega, h3, h4⟩
theorem nb_sp {X : MS} {n : Nat} {br : Int32} (h : brOK br n) (hn : n ≤ 1000) : (nbF X n br = -1 ∧ ∀ i, i < n → ¬ evC X i = 0) ∨ ∃ i, i < n ∧ nbF X n br = nI i ∧ evC X i = 0 := by
  have hf : (fbN X n 0 = -1 ∧ ∀ i, i < n → ¬ evC X i = 0) ∨ ∃ i, i < n ∧ fbN X n 0 = nI i ∧ evC X i = 0 := by
    rcases fb_sp (X := X) n 0 with ⟨h1, h2⟩ | ⟨i, h1, h2, h3, h4⟩
    · exact Or.inl ⟨h1, fun i hi => h2 i (Nat.zero_le _) (by omega)⟩
    · exact Or.inr ⟨i, by omega, h3, h4⟩
  rw [nbF]
  by_cases c : br < 0
  · rw [if_pos c]
    exact hf
  · rw [if_neg c]
    by_cases e : evC X br.toNatClampNeg = 0
    · rw [if_pos e]
      obtain ⟨i, hi, rfl⟩ := h.resolve_left (fun z => c (by rw [z]; decide))
      rw [nI_clamp (by omega)] at e
      exact Or.inr ⟨i, hi, rfl, e⟩
    · rw [if_neg e]
      exact hf
section FM1
variable {S X Xg : MS} {sl : Nat → Nat} {nl u p fo : Nat}
/-- the names are set for a flight to p with nothing on the hook -/
def fmH (S X Xg : MS) (p fo : Nat) : Prop := p < 1000 ∧ Xg.2 1 5 = nI p ∧ Xg.2 1 6 = S.2 1 p ∧ Xg.2 1 7 = 0 ∧ Xg.2 1 8 = 0 ∧ Xg.2 1 9 = 0 ∧ Xg.2 1 10 = nI fo ∧ ∀ k, 8 ≤ k → Xg.2 k = X.2 k
theorem fmH.ev (hH : fmH S X Xg p fo) (hr : IRu (S.2 31) (S.2 32) X.2 sl u) (hu : u ≤ 10) {i t : Nat} (hi : i < u) (ht : t ≤ 100000) : evC (x_time S Xg (nI t)) i = rEv S nl i (nI t) (nI p) (-1) (nI fo) := by
  obtain ⟨hp, h5, h6, h7, h8, h9, h10, hg⟩ := hH
  have eh : m_hour (nI t) = c_hour (nI t) := hour_eq rfl ht
  refine hr.ev hu hi (by rw [x_time_r 8 (by decide), hg 8 (by decide)]) (by rw [x_time_r _ (by omega), hg _ (by omega)]) (env_of ?_ ?_ ?_ ?_ ?_ ?_ ?_ ?_ ?_ ?_ ?_)
  · rw [eh]; rfl
  · rw [eh]; rfl
  · rw [eh]; rfl
  · rw [eh]; rfl
  · rfl
  · rw [x_time_5 5 (by decide)]; exact h5
  · rw [x_time_5 6 (by decide), nI_clamp (by omega)]; exact h6
  · rw [x_time_5 7 (by decide), hang_none (by decide)]; exact h7
  · rw [x_time_5 8 (by decide), hang_none (by decide)]; exact h8
  · rw [x_time_5 9 (by decide), hang_none (by decide)]; exact h9
  · rw [x_time_5 10 (by decide)]; exact h10
theorem fmH.jump (hH : fmH S X Xg p fo) (hr : IRu (S.2 31) (S.2 32) X.2 sl u) (hu : u ≤ 10) {i q t : Nat} (hi : i < u) (hq : q ≤ 100000) (ht : t ≤ 100000) (h : t = q ∨ (Xg.2 9 i = 0 ∧ (Xg.2 10 i = 0 ∨ t / 60 = q / 60))) : evC (x_time S Xg (nI t)) i = evC (x_time S Xg (nI q)) i := by
  rcases h with rfl | ⟨ha, hb⟩
  · rfl
  · obtain ⟨hp, h5, h6, h7, h8, h9, h10, hg⟩ := hH
    obtain ⟨z, g, g1, g2, g3, g4, g5, -, -, g7, g8, g9, g10, g11, g12⟩ := hr.at hu hi
    have es : ∀ s : Int32, szn (x_time S Xg s) i = (arS g z).2.1 := fun s => by rw [← g8, szn, szn, x_time_r 8 (by decide), hg 8 (by decide)]
    have e1 : ∀ s : Int32, (x_time S Xg s).2 (100 + i) = (arS g z).1 := fun s => by rw [x_time_r _ (by omega), hg _ (by omega), g12]
    rw [hg 9 (by decide), g10] at ha
    rw [hg 10 (by decide), g11] at hb
    rw [evC, evC, es, es, e1, e1, wkN_ag _ (fun k hk => nmV_ag (fun j hj => ?_) (fun x4 => ?_) (fun x3 => ?_))]
    · rw [x_time_5 j hj, x_time_5 j hj]
    · exact absurd x4 (am_no _ ha k hk)
    · rcases hb with hb | hb
      · exact absurd x3 (ah_no _ hb k hk)
      · exact x_time_3 (hour_60q ht hq hb)
theorem fm_spec (hH : fmH S X Xg p fo) (hr : IRu (S.2 31) (S.2 32) X.2 sl u) (hu : u ≤ 10) {la : Int32} (hla : la ≤ 720) : ∀ f br q, brOK br u → q ≤ 1500 → 2000 ≤ q + f → (∃ t, t ≤ 720 ∧ Fs0 (hdN S nl u) p q fo t ∧ nI t ≤ la ∧ fmF S Xg u la f br (nI q) = nI t) ∨ ((∀ t, t ≤ 720 → Fs0 (hdN S nl u) p q fo t → ¬ nI t ≤ la) ∧ fmF S Xg u la f br (nI q) = -1)
  | 0, br, q, hb, h1, h2 => by omega
  | f + 1, br, q, hb, h1, h2 => by
    rw [fmF]
    by_cases c : la < nI q
    · rw [if_pos c]
      refine Or.inr ⟨fun t t7 ht z => ?_, rfl⟩
      have : nI t < nI q := Int32.lt_of_le_of_lt z c
      have := (nI_ltI (by omega) (by omega)).mp this
      have := ht.1
      omega
    · rw [if_neg c]
      have hq7 : q ≤ 720 := (nI_leI (b := 720) (by omega) (by decide)).mp (Int32.le_trans (Int32.not_lt.mp c) hla)
      rcases nb_sp (X := x_time S Xg (nI q)) hb (show u ≤ 1000 by omega) with ⟨b1, b2⟩ | ⟨i, i2, i3, i4⟩
      · rw [b1, if_pos (by decide)]
        refine Or.inl ⟨q, hq7, ⟨Nat.le_refl _, fun i hi => ?_, fun t' a b => by omega⟩, Int32.not_lt.mp c, rfl⟩
        rw [← hH.ev hr hu hi (by omega)]
        exact b2 i hi
      · have hi : i < u := i2
        rw [i3, if_neg (nI_pos (by omega)), nI_clamp (show i < 2 ^ 31 by omega)]
        obtain ⟨q2, g1, g2, g3⟩ := nx_q (am := Xg.2 9 i) (ah := Xg.2 10 i) hq7
        have hno : ∀ t, q ≤ t → t < q2 → ¬ hdN S nl u t p fo := fun t a b z => by
          have := hH.jump hr hu (i := i) (q := q) (t := t) hi (by omega) (by omega) (nx_in hq7 g2 g3 a b)
          exact z i hi (by rw [← hH.ev hr hu hi (by omega), this]; exact i4)
        rw [g3]
        rcases fm_spec hH hr hu hla f (nI i) q2 (Or.inr ⟨i, hi, rfl⟩) g2 (by omega) with ⟨t, t7, ⟨r1, r2, r3⟩, r4, r5⟩ | ⟨r1, r2⟩
        · refine Or.inl ⟨t, t7, ⟨by omega, r2, fun t' a b => ?_⟩, r4, r5⟩
          by_cases w : t' < q2
          · exact hno t' a w
          · exact r3 t' (by omega) b
        · refine Or.inr ⟨fun t t7 ht => r1 t t7 ⟨?_, ht.2.1, fun t' a b => ht.2.2 t' (by omega) b⟩, r2⟩
          exact Nat.le_of_not_lt (fun w => hno t ht.1 w ht.2.1)
end FM1
