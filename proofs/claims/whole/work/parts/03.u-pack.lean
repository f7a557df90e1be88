theorem Ct.weaken {Y : YM} {d mc ms : Nat} {G : Nat → Nat} {av : List Value} {h : AH} {post post2 : Option Value → AH → Prop} (hc : Ct Y d G mc ms av h post) (hq : ∀ r h, post r h → post2 r h) : Ct Y d G mc ms av h post2 := by
  intro A D l p e a1 a2 a3 s m args below b1 b2 b3 b4
  obtain ⟨n, o, c1, c2, c3, ⟨⟨r, h2, e1, e2, e3⟩, e4⟩, c5⟩ := hc A D l p e a1 a2 a3 s m args below b1 b2 b3 b4
  exact ⟨n, o, c1, c2, c3, ⟨⟨r, h2, e1, hq r h2 e2, e3⟩, e4⟩, c5⟩
theorem CM.weaken {Y : YM} {d : Nat} {av : List Value} {S : MS} {p q : Option Value → MS → Prop} (hc : CM Y d av S p) (hq : ∀ r S2, p r S2 → q r S2) : CM Y d av S q := by
  intro G m0 ad h0 h hM hF
  refine Ct.weaken (hc G m0 ad h0 h hM hF) (fun r h2 z => ?_)
  obtain ⟨S2, z1, z2⟩ := z
  exact ⟨S2, hq r S2 z1, z2⟩
def pCond (S : MS) (p : Int32) (l : Nat) : Prop := S.2 17 l = p ∧ S.2 23 l = 0 ∧ ¬ S.2 20 l = 4
def psel (S : MS) (p : Int32) (k : Nat) : List Nat := (List.range k).filter (fun l => decide (S.2 17 l = p ∧ S.2 23 l = 0 ∧ ¬ S.2 20 l = 4))
theorem psel_t {S : MS} {p : Int32} {k : Nat} (h : S.2 17 k = p ∧ S.2 23 k = 0 ∧ ¬ S.2 20 k = 4) : psel S p (k + 1) = psel S p k ++ [k] := by
  rw [psel, List.range_succ, List.filter_append, List.filter_cons, if_pos (by simp [h])]
  rfl
theorem psel_f {S : MS} {p : Int32} {k : Nat} (h : ¬ (S.2 17 k = p ∧ S.2 23 k = 0 ∧ ¬ S.2 20 k = 4)) : psel S p (k + 1) = psel S p k := by
  rw [psel, List.range_succ, List.filter_append, List.filter_cons, if_neg (by simpa using h), List.filter_nil, List.append_nil]
  rfl
theorem psel_lt {S : MS} {p : Int32} {k l : Nat} (h : l ∈ psel S p k) : l < k := List.mem_range.mp (List.mem_filter.mp h).1
def hvy (S : MS) (lift : Int32) (L : List Nat) : Int32 := ib (L.any (fun l => decide (lift < S.2 18 l)) = true)
theorem hvy_1 {S : MS} {lift : Int32} {L : List Nat} {k : Nat} {x : Int32} (h : x = hvy S lift L) : (if x = 0 then (if S.2 18 k ≤ lift then 0 else 1) else 1) = hvy S lift (L ++ [k]) := by
  rw [h]
  unfold hvy
  by_cases e1 : L.any (fun l => decide (lift < S.2 18 l)) = true
  · simp [ib, List.any_append, e1]
  · by_cases e2 : lift < S.2 18 k
    · simp [ib, List.any_append, e1, e2, Int32.not_le.mpr e2]
    · simp [ib, List.any_append, e1, e2, Int32.not_lt.mp e2]
def pqR (S : MS) (L : List Nat) (T : MS) : Prop := (∀ j, j ≠ 60 → T.1 j = S.1 j) ∧ (∀ j, j ≠ 59 → T.2 j = S.2 j) ∧ T.1 60 = nI (min 9 L.length) ∧ ∀ i, i < 9 → ∀ x, L[i]? = some x → T.2 59 i = nI x
theorem pqR.full {S T : MS} {L : List Nat} {k : Nat} (h : pqR S L T) (hl : 9 ≤ L.length) : pqR S (L ++ [k]) T := by
  obtain ⟨h1, h2, h3, h4⟩ := h
  refine ⟨h1, h2, ?_, fun i hi x hx => h4 i hi x ?_⟩
  · rw [h3, List.length_append]
    congr 1
    simp only [List.length_singleton]
    omega
  · rw [List.getElem?_append_left (by omega)] at hx
    exact hx
theorem pqR.push {S T : MS} {L : List Nat} {k : Nat} {x y : Int32} (h : pqR S L T) (hl : L.length < 9) (hx : x = nI k) (hy : y = nI (min 9 L.length) + 1) : pqR S (L ++ [k]) (vf_upd T.1 60 y, u2 T.2 59 L.length x) := by
  obtain ⟨h1, h2, h3, h4⟩ := h
  refine ⟨fun j hj => ?_, fun j hj => (u2_n hj).trans (h2 j hj), ?_, fun i hi z hz => ?_⟩
  · show vf_upd T.1 60 y j = _
    rw [vf_upd, if_neg hj]
    exact h1 j hj
  · show vf_upd T.1 60 y 60 = _
    rw [vf_upd, if_pos rfl, hy, nI_1, List.length_append, List.length_singleton]
    congr 1
    omega
  · show u2 T.2 59 L.length x 59 i = _
    rw [u2_s]
    by_cases e : i = L.length
    · rw [e, pk_us, hx]
      rw [e, List.getElem?_append_right (Nat.le_refl _), Nat.sub_self] at hz
      cases hz
      rfl
    · rw [pk_un e]
      refine h4 i hi z ?_
      rcases Nat.lt_or_ge i L.length with q | q
      · rw [List.getElem?_append_left q] at hz
        exact hz
      · rw [List.getElem?_append_right q, List.getElem?_eq_none (by simp only [List.length_singleton]; omega)] at hz
        cases hz
theorem pq_ge {n : Nat} (h : (9 : Int32) ≤ nI (min 9 n)) : 9 ≤ n := by
  have := (nI_leI (a := 9) (b := min 9 n) (by omega) (by omega)).mp h
  omega
theorem pq_lt {n : Nat} (h : ¬ (9 : Int32) ≤ nI (min 9 n)) : n < 9 := by
  rcases Nat.lt_or_ge n 9 with z | z
  · exact z
  · exact absurd (nI_le (a := 9) (b := min 9 n) (by omega) (by omega)) h
theorem pq_idx {n : Nat} (h : n < 9) : (nI (min 9 n)).toNatClampNeg = n := by rw [nI_clamp (by omega)]; omega
theorem pq_in {n : Nat} (h : n < 9) : vp_in (nI (min 9 n)) 9 := vp_in_nI (by omega) (by decide)
def iW (S : MS) (L : List Nat) (i : Nat) : Int32 := S.2 18 (L.getD i 0)
def iM (S : MS) (L : List Nat) (i : Nat) : Int32 := S.2 19 (L.getD i 0)
def iA (S : MS) (L : List Nat) (i : Nat) : Int32 := ib (S.2 20 (L.getD i 0) = 1 ∨ S.2 20 (L.getD i 0) = 3)
def mnP (S : MS) (L : List Nat) (lift : Int32) : Nat := mnF (iW S L) (iM S L) (iA S L) L.length lift L.length (fun _ => 0) 0
theorem pq_W {S T : MS} {L : List Nat} (h : pqR S L T) (hL : L.length ≤ 9) (h80 : ∀ l ∈ L, l < 80) : ∀ i, i < L.length → pkW T i = iW S L i ∧ pkM T i = iM S L i ∧ pkA T i = iA S L i := by
  obtain ⟨h1, h2, h3, h4⟩ := h
  intro i hi
  have e := h4 i (by omega) L[i] (List.getElem?_eq_getElem hi)
  have e2 : (nI L[i]).toNatClampNeg = L.getD i 0 := by
    rw [nI_clamp (by have := h80 _ (List.getElem_mem hi); omega), List.getD_eq_getElem?_getD, List.getElem?_eq_getElem hi]
    rfl
  rw [pkW, pkM, pkA, e, e2, h2 18 (by decide), h2 19 (by decide), h2 20 (by decide)]
  exact ⟨rfl, rfl, rfl⟩
def r_pack (S : MS) (n : Nat) (p lift : Int32) : Int32 := if ¬ ((0 < p ∧ p < S.1 3) ∧ (0 ≤ lift ∧ lift ≤ 400)) then -1 else if 9 < (psel S p n).length then -2 else if (psel S p n).any (fun l => decide (lift < S.2 18 l)) = true then -3 else nI (mnP S (psel S p n) lift)
def pzR (S T : MS) : Prop := (∀ j, j ≠ 60 → T.1 j = S.1 j) ∧ ∀ j, j ≠ 58 → j ≠ 59 → T.2 j = S.2 j
theorem pzR_of {S T U : MS} {L : List Nat} (h : pqR S L T) (h2 : pkR 0 T U) : pzR S U := ⟨fun j hj => (congrFun h2.1 j).trans (h.1 j hj), fun j h3 h4 => (h2.2.1 j h3).trans (h.2.1 j h4)⟩
theorem k_packs0 {T U : MS} {pm N d : Nat} {lift : Int32} (hpm : pm ≤ 9) (hN : N ≤ 9) (h60 : T.1 60 = nI pm) (hv : ∀ i, i < pm → vp_in (T.2 59 i) 80) (h : pkR 0 T U) : CM Y_X12_packs (d + 1 + pm) [.int 0, .int (nI N), .int lift] U (fun r S2 => r = some (.int (ib (mnF (pkW T) (pkM T) (pkA T) pm lift pm (fun _ => 0) 0 ≤ N))) ∧ pkR 0 T S2) := by
  have z := k_packs (d := d) (lift := lift) hpm hN pm U 0 (by omega) ((congrFun h.1 60).trans h60) (fun i hi => by rw [h.2.1 59 (by decide)]; exact hv i hi)
  rw [(pkW_of h.2.1).1, (pkW_of h.2.1).2.1, (pkW_of h.2.1).2.2] at z
  have e : (pkF (pkW T) (pkM T) (pkA T) pm N lift pm (U.2 58) = true) = (mnF (pkW T) (pkM T) (pkA T) pm lift pm (fun _ => 0) 0 ≤ N) := by
    refine propext ?_
    rw [pkF_ext (g := fun _ => 0) (Nat.le_refl _) (fun i hi => by omega)]
    exact pkF_mn (by omega) (by omega) (Nat.le_refl _) (by rw [Nat.sub_self]; exact can_0) (Nat.zero_le _)
  refine z.weaken (fun r S2 q => ?_)
  obtain ⟨q1, q2, q3, q4⟩ := q
  refine ⟨?_, q2.trans h.1, fun j hj => (q3 j hj).trans (h.2.1 j hj), fun i hi => absurd hi (Nat.not_lt_zero _)⟩
  rw [q1]
  simp only [ib, e]
theorem psel_len (S : MS) (p : Int32) (n : Nat) : (psel S p n).length ≤ n := by
  have := List.length_filter_le (fun l => decide (S.2 17 l = p ∧ S.2 23 l = 0 ∧ ¬ S.2 20 l = 4)) (List.range n)
  rw [List.length_range] at this
  exact this
theorem k_pack {S : MS} {p lift : Int32} {d n : Nat} (hN : S.1 28 = nI n) (hn : n ≤ 80) (hR9 : ∀ l, l < n → ¬ 9 < S.2 19 l) : CM Y_X12_pack (d + 11) [.int p, .int lift] S (fun r S2 => r = some (.int (r_pack S n p lift)) ∧ pzR S S2) := by
  refine CM.of 3 rfl (fun _ => Nat.le_of_ble_eq_true rfl) (by simp [Value.category]) ?_
  intro G m0 ad h0 h post hM hF fin
  show J Y_X12_pack (d + 11) G 0 0 0 [some (.ref m0), some (.int p), some (.int lift), none, none, none] [] h post
  refine J.aload_n 1 dX12_pack_0 rfl rfl ?_
  refine J.iload_n 2 dX12_pack_1 rfl rfl ?_
  refine mc_166 hM hF (k_isHut (S := S) (p := p)) rfl 5 dX12_pack_2 rfl rfl rfl (Nat.le_of_ble_eq_true rfl) (fun r S2 hp h hM hF => ?_)
  obtain ⟨rfl, hp⟩ := hp
  replace hp := hp.symm
  subst hp
  refine J.if_eq 19 8 dX12_pack_5 (by decide) rfl (fun c1 => ?_) (fun c1 => ?_)
  · skip
    refine J.iconst (-1) 20 dX12_pack_19 rfl (by decide) ?_
    exact J.iret dX12_pack_20 rfl (fin _ _ _ ⟨by simp [r_pack, c1, ib_0.mp c1], fun _ _ => rfl, fun _ _ _ => rfl⟩ hM hF)
  · skip
    refine J.iload_n 9 dX12_pack_8 rfl rfl ?_
    refine J.iconst 0 10 dX12_pack_9 rfl (by decide) ?_
    refine J.sipush 400 13 dX12_pack_10 rfl (by decide) ?_
    refine mc_153 (k_within (v := lift) (a := 0) (b := 400)) rfl 16 dX12_pack_13 rfl rfl rfl (Nat.le_of_ble_eq_true rfl) ?_
    refine J.if_ne 21 19 dX12_pack_16 (by decide) rfl (fun c2 => ?_) (fun c2 => ?_)
    · skip
      have hok : (0 < p ∧ p < S.1 3) ∧ (0 ≤ lift ∧ lift ≤ 400) := ⟨ib_n.mp (by assumption), ib_n.mp c2⟩
      refine J.aload_n 22 dX12_pack_21 rfl rfl ?_
      refine J.iconst 0 23 dX12_pack_22 rfl (by decide) ?_
      refine mp_265 hM hF rfl 26 dX12_pack_23 rfl (fun h hM hF => ?_)
      refine J.iconst 0 27 dX12_pack_26 rfl (by decide) ?_
      refine J.ist_3 28 dX12_pack_27 rfl (by decide) ?_
      refine J.iconst 0 29 dX12_pack_28 rfl (by decide) ?_
      refine J.ist_4 31 dX12_pack_29 rfl (by decide) ?_
      refine J.iconst 0 32 dX12_pack_31 rfl (by decide) ?_
      refine J.ist_5 34 dX12_pack_32 rfl (by decide) ?_
      have loop34 : ∀ (j k : Nat) (x3 x4 x5 : Int32), k ≤ n → n + 1 ≤ k + j → x5 = nI k → ∀ Sx : MS, (x3 = nI (psel S p k).length) → (x4 = hvy S lift (psel S p k)) → (pqR S (psel S p k) Sx) → ∀ h, MR m0 ad Sx h → MF m0 ad h0 h → J Y_X12_pack (d + 11) G 0 0 34 [some (.ref m0), some (.int p), some (.int lift), some (.int x3), some (.int x4), some (.int x5)] [] h post := by
        intro j
        induction j with
        | zero => intro k _ _ _ g1 g2; exact absurd g2 (by omega)
        | succ j ih =>
          intro k x3 x4 x5 g1 g2 e5 Sx e3 e4 hQ h hM hF
          have q5 : x5.toNatClampNeg = k := by rw [e5]; exact nI_clamp (by omega)
          refine J.iload 36 dX12_pack_34 rfl rfl ?_
          refine J.aload_n 37 dX12_pack_36 rfl rfl ?_
          refine mg_163 hM (x := S.1 28) (hQ.1 28 (by decide)) rfl 40 dX12_pack_37 rfl ?_
          refine J.icmp_ge 137 43 dX12_pack_40 (by decide) rfl (fun c3 => ?_) (fun c3 => ?_)
          · skip
            have hk : k = n := Nat.le_antisymm g1 ((nI_leI (by omega) (by omega)).mp (by have z := c3; rw [e5, hN] at z; exact z))
            rw [hk] at e3 e4 hQ
            have h80 : ∀ l ∈ psel S p n, l < 80 := fun l hl => Nat.lt_of_lt_of_le (psel_lt hl) hn
            refine J.iload_n 138 dX12_pack_137 rfl rfl ?_
            refine J.bipush 9 140 dX12_pack_138 rfl (by decide) ?_
            refine J.icmp_le 146 143 dX12_pack_140 (by decide) rfl (fun c4 => ?_) (fun c4 => ?_)
            · skip
              have hl9 : (psel S p n).length ≤ 9 := (nI_leI (b := 9) (by have := psel_len S p n; omega) (by decide)).mp (by rw [← e3]; exact c4)
              refine J.iload 148 dX12_pack_146 rfl rfl ?_
              refine J.if_eq 154 151 dX12_pack_148 (by decide) rfl (fun c5 => ?_) (fun c5 => ?_)
              · skip
                have hhv : ¬ (psel S p n).any (fun l => decide (lift < S.2 18 l)) = true := ib_0.mp (e4.symm.trans c5)
                have hfit : ∀ i, i < (psel S p n).length → ¬ lift < iW S (psel S p n) i ∧ ¬ 9 < iM S (psel S p n) i := by
                  intro i hi
                  have hg : (psel S p n).getD i 0 = (psel S p n)[i] := by rw [List.getD_eq_getElem?_getD, List.getElem?_eq_getElem hi]; rfl
                  have hm := List.getElem_mem hi
                  rw [iW, iM, hg]
                  exact ⟨fun z => hhv (List.any_eq_true.mpr ⟨_, hm, decide_eq_true z⟩), hR9 _ (psel_lt hm)⟩
                refine J.iconst 0 155 dX12_pack_154 rfl (by decide) ?_
                refine J.ist_5 157 dX12_pack_155 rfl (by decide) ?_
                have hW := pq_W hQ hl9 h80
                have hle : mnP S (psel S p n) lift ≤ 9 := Nat.le_trans (mnF_own (by omega) (fun i hi => hfit i hi) (Nat.le_refl _) (by rw [Nat.sub_self]; exact can_0)) (by omega)
                have hmn : mnF (pkW Sx) (pkM Sx) (pkA Sx) (psel S p n).length lift (psel S p n).length (fun _ => 0) 0 = mnP S (psel S p n) lift := mnF_X hW (Nat.le_refl _) (fun i hi => rfl)
                have hv59 : ∀ i, i < (psel S p n).length → vp_in (Sx.2 59 i) 80 := fun i hi => by rw [hQ.2.2.2 i (by omega) _ (List.getElem?_eq_getElem hi)]; exact vp_in_nI (h80 _ (List.getElem_mem hi)) (by decide)
                have h60 : Sx.1 60 = nI (psel S p n).length := by rw [hQ.2.2.1]; congr 1; omega
                have loop157 : ∀ (j k : Nat) (x5b : Int32), k ≤ mnP S (psel S p n) lift → mnP S (psel S p n) lift + 1 ≤ k + j → x5b = nI k → ∀ Sy : MS, pkR 0 Sx Sy → ∀ h, MR m0 ad Sy h → MF m0 ad h0 h → J Y_X12_pack (d + 11) G 0 0 157 [some (.ref m0), some (.int p), some (.int lift), some (.int x3), some (.int x4), some (.int x5b)] [] h post := by
                  intro j
                  induction j with
                  | zero => intro k _ g1 g2; exact absurd g2 (by omega)
                  | succ j ih =>
                    intro k x5b g1 g2 e5b Sy hz h hM hF
                    have kp := k_packs0 (d := d + (9 - (psel S p n).length)) (lift := lift) (N := k) hl9 (by omega) h60 hv59 hz
                    rw [hmn, ← e5b, show d + (9 - (psel S p n).length) + 1 + (psel S p n).length = d + 10 from by omega] at kp
                    refine J.aload_n 158 dX12_pack_157 rfl rfl ?_
                    refine J.iconst 0 159 dX12_pack_158 rfl (by decide) ?_
                    refine J.iload 161 dX12_pack_159 rfl rfl ?_
                    refine J.iload_n 162 dX12_pack_161 rfl rfl ?_
                    refine mc_271 hM hF kp rfl 165 dX12_pack_162 rfl rfl rfl (Nat.le_of_ble_eq_true rfl) (fun r T162 hp h hM hF => ?_)
                    obtain ⟨rfl, hq162⟩ := hp
                    refine J.if_ne 174 168 dX12_pack_165 (by decide) rfl (fun c6 => ?_) (fun c6 => ?_)
                    · skip
                      have hk2 : k = mnP S (psel S p n) lift := Nat.le_antisymm g1 (ib_n.mp c6)
                      refine J.iload 176 dX12_pack_174 rfl rfl ?_
                      exact J.iret dX12_pack_176 rfl (fin _ _ _ ⟨by rw [r_pack, if_neg (fun z => z hok), if_neg (by omega), if_neg hhv, ← hk2, e5b], pzR_of hQ hq162⟩ hM hF)
                    · skip
                      have hk2 : k < mnP S (psel S p n) lift := Nat.lt_of_not_le (ib_0.mp c6)
                      refine J.iinc_5 1 171 dX12_pack_168 rfl (by decide) (by decide) ?_
                      refine J.goto 157 dX12_pack_171 (by decide) ?_
                      exact ih (k + 1) _ (by omega) (by omega) (by rw [e5b]; exact nI_1 k) _ hq162 _ hM hF
                exact loop157 (mnP S (psel S p n) lift + 1) 0 _ (Nat.zero_le _) (by omega) rfl _ ⟨rfl, fun _ _ => rfl, fun _ _ => rfl⟩ _ hM hF
              · skip
                have hhv : (psel S p n).any (fun l => decide (lift < S.2 18 l)) = true := ib_n.mp (fun z => c5 (e4.trans z))
                refine J.bipush (-3) 153 dX12_pack_151 rfl (by decide) ?_
                exact J.iret dX12_pack_153 rfl (fin _ _ _ ⟨by rw [r_pack, if_neg (fun z => z hok), if_neg (by omega), if_pos hhv], pzR_of hQ ⟨rfl, fun _ _ => rfl, fun _ _ => rfl⟩⟩ hM hF)
            · skip
              have hl9 : 9 < (psel S p n).length := Nat.lt_of_not_le (fun z => c4 (by rw [e3]; exact nI_le z (by decide)))
              refine J.bipush (-2) 145 dX12_pack_143 rfl (by decide) ?_
              exact J.iret dX12_pack_145 rfl (fin _ _ _ ⟨by rw [r_pack, if_neg (fun z => z hok), if_pos hl9], pzR_of hQ ⟨rfl, fun _ _ => rfl, fun _ _ => rfl⟩⟩ hM hF)
          · skip
            have hk : k < n := Nat.lt_of_not_le (fun y => c3 (by rw [e5, hN]; exact nI_le y (by omega)))
            have hin : vp_in x5 80 := by rw [e5]; exact vp_in_nI (by omega) (by decide)
            refine J.aload_n 44 dX12_pack_43 rfl rfl ?_
            refine mg_53 hM rfl 47 dX12_pack_44 rfl ?_
            refine J.iload 49 dX12_pack_47 rfl rfl ?_
            refine ml_ia hM k q5 (x := S.2 17 k) (congrFun (hQ.2.1 17 (by decide)) _) rfl rfl (by assumption) 50 dX12_pack_49 rfl ?_
            refine J.iload_n 51 dX12_pack_50 rfl rfl ?_
            refine J.icmp_ne 131 54 dX12_pack_51 (by decide) rfl (fun c7 => ?_) (fun c7 => ?_)
            · skip
              refine J.iinc_5 1 134 dX12_pack_131 rfl (by decide) (by decide) ?_
              refine J.goto 34 dX12_pack_134 (by decide) ?_
              exact ih (k + 1) _ _ _ (by omega) (by omega) (by rw [e5]; exact nI_1 k) _ (by rw [(psel_f (by simp [c1, c2, c3, c7]))]; exact e3) (by rw [(psel_f (by simp [c1, c2, c3, c7]))]; exact e4) (by rw [(psel_f (by simp [c1, c2, c3, c7]))]; exact hQ) _ hM hF
            · skip
              refine J.aload_n 55 dX12_pack_54 rfl rfl ?_
              refine mg_71 hM rfl 58 dX12_pack_55 rfl ?_
              refine J.iload 60 dX12_pack_58 rfl rfl ?_
              refine ml_ia hM k q5 (x := S.2 23 k) (congrFun (hQ.2.1 23 (by decide)) _) rfl rfl (by assumption) 61 dX12_pack_60 rfl ?_
              refine J.if_ne 131 64 dX12_pack_61 (by decide) rfl (fun c8 => ?_) (fun c8 => ?_)
              · skip
                refine J.iinc_5 1 134 dX12_pack_131 rfl (by decide) (by decide) ?_
                refine J.goto 34 dX12_pack_134 (by decide) ?_
                exact ih (k + 1) _ _ _ (by omega) (by omega) (by rw [e5]; exact nI_1 k) _ (by rw [(psel_f (by simp [c1, c2, c3, c7, c8]))]; exact e3) (by rw [(psel_f (by simp [c1, c2, c3, c7, c8]))]; exact e4) (by rw [(psel_f (by simp [c1, c2, c3, c7, c8]))]; exact hQ) _ hM hF
              · skip
                refine J.aload_n 65 dX12_pack_64 rfl rfl ?_
                refine mg_62 hM rfl 68 dX12_pack_65 rfl ?_
                refine J.iload 70 dX12_pack_68 rfl rfl ?_
                refine ml_ia hM k q5 (x := S.2 20 k) (congrFun (hQ.2.1 20 (by decide)) _) rfl rfl (by assumption) 71 dX12_pack_70 rfl ?_
                refine J.iconst 4 72 dX12_pack_71 rfl (by decide) ?_
                refine J.icmp_eq 131 75 dX12_pack_72 (by decide) rfl (fun c9 => ?_) (fun c9 => ?_)
                · skip
                  refine J.iinc_5 1 134 dX12_pack_131 rfl (by decide) (by decide) ?_
                  refine J.goto 34 dX12_pack_134 (by decide) ?_
                  exact ih (k + 1) _ _ _ (by omega) (by omega) (by rw [e5]; exact nI_1 k) _ (by rw [(psel_f (by simp [c1, c2, c3, c7, c8, c9]))]; exact e3) (by rw [(psel_f (by simp [c1, c2, c3, c7, c8, c9]))]; exact e4) (by rw [(psel_f (by simp [c1, c2, c3, c7, c8, c9]))]; exact hQ) _ hM hF
                · skip
                  refine J.aload_n 76 dX12_pack_75 rfl rfl ?_
                  refine mg_265 hM (x := nI (min 9 (psel S p k).length)) hQ.2.2.1 rfl 79 dX12_pack_76 rfl ?_
                  refine J.bipush 9 81 dX12_pack_79 rfl (by decide) ?_
                  refine J.icmp_ge 105 84 dX12_pack_81 (by decide) rfl (fun c10 => ?_) (fun c10 => ?_)
                  · skip
                    have hl := pq_ge c10
                    refine J.iinc_3 1 108 dX12_pack_105 rfl (by decide) (by decide) ?_
                    refine J.iload 110 dX12_pack_108 rfl rfl ?_
                    have K1 : ∀ (v1_0 : Int32), v1_0 = (if x4 = 0 then (if (S.2 18 k) ≤ lift then 0 else 1) else 1) → ∀ h, MR m0 ad Sx h → MF m0 ad h0 h → J Y_X12_pack (d + 11) G 0 0 129 [some (.ref m0), some (.int p), some (.int lift), some (.int (x3 + 1)), some (.int x4), some (.int x5)] [.int v1_0] h post := by
                      intro v1_0 ev1_0 h hM hF
                      refine J.ist_4 131 dX12_pack_129 rfl (by decide) ?_
                      refine J.iinc_5 1 134 dX12_pack_131 rfl (by decide) (by decide) ?_
                      refine J.goto 34 dX12_pack_134 (by decide) ?_
                      exact ih (k + 1) _ _ _ (by omega) (by omega) (by rw [e5]; exact nI_1 k) _ (by rw [(psel_t ⟨by assumption, by assumption, by assumption⟩), e3, List.length_append]; exact nI_1 _) (by rw [(psel_t ⟨by assumption, by assumption, by assumption⟩), ev1_0]; exact hvy_1 e4) (by rw [(psel_t ⟨by assumption, by assumption, by assumption⟩)]; exact hQ.full hl) _ hM hF
                    refine J.if_ne 124 113 dX12_pack_110 (by decide) rfl (fun c11 => ?_) (fun c11 => ?_)
                    · skip
                      refine J.iconst 1 125 dX12_pack_124 rfl (by decide) ?_
                      refine J.goto 129 dX12_pack_125 (by decide) ?_
                      exact K1 _ (by first | (simp only [if_neg c1, if_neg c2, if_neg c3, if_pos c7, if_pos c8, if_neg c9, if_pos c10, if_neg c11]; done) | (simp only [if_neg c1, if_neg c2, if_neg c3, if_pos c7, if_pos c8, if_neg c9, if_pos c10, if_neg c11]; rfl) | (simp [c1, ib_n.mp c1, c2, ib_n.mp c2, c3, Int32.not_le.mp c3, c7, c8, c9, c10, Int32.not_lt.mpr c10, c11]; done) | contradiction) _ hM hF
                    · skip
                      refine J.aload_n 114 dX12_pack_113 rfl rfl ?_
                      refine mg_56 hM rfl 117 dX12_pack_114 rfl ?_
                      refine J.iload 119 dX12_pack_117 rfl rfl ?_
                      refine ml_ia hM k q5 (x := S.2 18 k) (congrFun (hQ.2.1 18 (by decide)) _) rfl rfl (by assumption) 120 dX12_pack_119 rfl ?_
                      refine J.iload_n 121 dX12_pack_120 rfl rfl ?_
                      refine J.icmp_le 128 124 dX12_pack_121 (by decide) rfl (fun c12 => ?_) (fun c12 => ?_)
                      · skip
                        refine J.iconst 0 129 dX12_pack_128 rfl (by decide) ?_
                        exact K1 _ (by first | (simp only [if_neg c1, if_neg c2, if_neg c3, if_pos c7, if_pos c8, if_neg c9, if_pos c10, if_pos c11, if_pos c12]; done) | (simp only [if_neg c1, if_neg c2, if_neg c3, if_pos c7, if_pos c8, if_neg c9, if_pos c10, if_pos c11, if_pos c12]; rfl) | (simp [c1, ib_n.mp c1, c2, ib_n.mp c2, c3, Int32.not_le.mp c3, c7, c8, c9, c10, Int32.not_lt.mpr c10, c11, c12, Int32.not_lt.mpr c12]; done) | contradiction) _ hM hF
                      · skip
                        refine J.iconst 1 125 dX12_pack_124 rfl (by decide) ?_
                        refine J.goto 129 dX12_pack_125 (by decide) ?_
                        exact K1 _ (by first | (simp only [if_neg c1, if_neg c2, if_neg c3, if_pos c7, if_pos c8, if_neg c9, if_pos c10, if_pos c11, if_neg c12]; done) | (simp only [if_neg c1, if_neg c2, if_neg c3, if_pos c7, if_pos c8, if_neg c9, if_pos c10, if_pos c11, if_neg c12]; rfl) | (simp [c1, ib_n.mp c1, c2, ib_n.mp c2, c3, Int32.not_le.mp c3, c7, c8, c9, c10, Int32.not_lt.mpr c10, c11, c12, Int32.not_le.mp c12]; done) | contradiction) _ hM hF
                  · skip
                    have hl := pq_lt c10
                    refine J.aload_n 85 dX12_pack_84 rfl rfl ?_
                    refine mg_147 hM rfl 88 dX12_pack_85 rfl ?_
                    refine J.aload_n 89 dX12_pack_88 rfl rfl ?_
                    refine mg_265 hM (x := nI (min 9 (psel S p k).length)) hQ.2.2.1 rfl 92 dX12_pack_89 rfl ?_
                    refine J.iload 94 dX12_pack_92 rfl rfl ?_
                    refine ml_is hM hF ((psel S p k).length) (pq_idx hl) rfl rfl (pq_in hl) 95 dX12_pack_94 rfl (fun h hM hF => ?_)
                    refine J.aload_n 96 dX12_pack_95 rfl rfl ?_
                    refine J.dup 97 dX12_pack_96 rfl rfl ?_
                    refine mg_265 hM (x := nI (min 9 (psel S p k).length)) hQ.2.2.1 rfl 100 dX12_pack_97 rfl ?_
                    refine J.iconst 1 101 dX12_pack_100 rfl (by decide) ?_
                    refine J.iadd 102 dX12_pack_101 rfl ?_
                    refine mp_265 hM hF rfl 105 dX12_pack_102 rfl (fun h hM hF => ?_)
                    refine J.iinc_3 1 108 dX12_pack_105 rfl (by decide) (by decide) ?_
                    refine J.iload 110 dX12_pack_108 rfl rfl ?_
                    have K2 : ∀ (v2_0 : Int32), v2_0 = (if x4 = 0 then (if (S.2 18 k) ≤ lift then 0 else 1) else 1) → ∀ h, MR m0 ad (vf_upd Sx.1 60 ((nI (min 9 (psel S p k).length)) + 1), u2 Sx.2 59 ((psel S p k).length) x5) h → MF m0 ad h0 h → J Y_X12_pack (d + 11) G 0 0 129 [some (.ref m0), some (.int p), some (.int lift), some (.int (x3 + 1)), some (.int x4), some (.int x5)] [.int v2_0] h post := by
                      intro v2_0 ev2_0 h hM hF
                      refine J.ist_4 131 dX12_pack_129 rfl (by decide) ?_
                      refine J.iinc_5 1 134 dX12_pack_131 rfl (by decide) (by decide) ?_
                      refine J.goto 34 dX12_pack_134 (by decide) ?_
                      exact ih (k + 1) _ _ _ (by omega) (by omega) (by rw [e5]; exact nI_1 k) _ (by rw [(psel_t ⟨by assumption, by assumption, by assumption⟩), e3, List.length_append]; exact nI_1 _) (by rw [(psel_t ⟨by assumption, by assumption, by assumption⟩), ev2_0]; exact hvy_1 e4) (by rw [(psel_t ⟨by assumption, by assumption, by assumption⟩)]; exact hQ.push hl e5 rfl) _ hM hF
                    refine J.if_ne 124 113 dX12_pack_110 (by decide) rfl (fun c13 => ?_) (fun c13 => ?_)
                    · skip
                      refine J.iconst 1 125 dX12_pack_124 rfl (by decide) ?_
                      refine J.goto 129 dX12_pack_125 (by decide) ?_
                      exact K2 _ (by first | (simp only [if_neg c1, if_neg c2, if_neg c3, if_pos c7, if_pos c8, if_neg c9, if_neg c10, if_neg c13]; done) | (simp only [if_neg c1, if_neg c2, if_neg c3, if_pos c7, if_pos c8, if_neg c9, if_neg c10, if_neg c13]; rfl) | (simp [c1, ib_n.mp c1, c2, ib_n.mp c2, c3, Int32.not_le.mp c3, c7, c8, c9, c10, Int32.not_le.mp c10, c13]; done) | contradiction) _ hM hF
                    · skip
                      refine J.aload_n 114 dX12_pack_113 rfl rfl ?_
                      refine mg_56 hM rfl 117 dX12_pack_114 rfl ?_
                      refine J.iload 119 dX12_pack_117 rfl rfl ?_
                      refine ml_ia hM k q5 (x := S.2 18 k) (congrFun (hQ.2.1 18 (by decide)) _) rfl rfl (by assumption) 120 dX12_pack_119 rfl ?_
                      refine J.iload_n 121 dX12_pack_120 rfl rfl ?_
                      refine J.icmp_le 128 124 dX12_pack_121 (by decide) rfl (fun c14 => ?_) (fun c14 => ?_)
                      · skip
                        refine J.iconst 0 129 dX12_pack_128 rfl (by decide) ?_
                        exact K2 _ (by first | (simp only [if_neg c1, if_neg c2, if_neg c3, if_pos c7, if_pos c8, if_neg c9, if_neg c10, if_pos c13, if_pos c14]; done) | (simp only [if_neg c1, if_neg c2, if_neg c3, if_pos c7, if_pos c8, if_neg c9, if_neg c10, if_pos c13, if_pos c14]; rfl) | (simp [c1, ib_n.mp c1, c2, ib_n.mp c2, c3, Int32.not_le.mp c3, c7, c8, c9, c10, Int32.not_le.mp c10, c13, c14, Int32.not_lt.mpr c14]; done) | contradiction) _ hM hF
                      · skip
                        refine J.iconst 1 125 dX12_pack_124 rfl (by decide) ?_
                        refine J.goto 129 dX12_pack_125 (by decide) ?_
                        exact K2 _ (by first | (simp only [if_neg c1, if_neg c2, if_neg c3, if_pos c7, if_pos c8, if_neg c9, if_neg c10, if_pos c13, if_neg c14]; done) | (simp only [if_neg c1, if_neg c2, if_neg c3, if_pos c7, if_pos c8, if_neg c9, if_neg c10, if_pos c13, if_neg c14]; rfl) | (simp [c1, ib_n.mp c1, c2, ib_n.mp c2, c3, Int32.not_le.mp c3, c7, c8, c9, c10, Int32.not_le.mp c10, c13, c14, Int32.not_le.mp c14]; done) | contradiction) _ hM hF
      exact loop34 (n + 1) 0 _ _ _ (Nat.zero_le _) (by omega) rfl (vf_upd S.1 60 0, S.2) rfl rfl ⟨fun j hj => if_neg hj, fun _ _ => rfl, rfl, fun i _ x hx => absurd hx (by simp [psel])⟩ _ hM hF
    · skip
      refine J.iconst (-1) 20 dX12_pack_19 rfl (by decide) ?_
      exact J.iret dX12_pack_20 rfl (fin _ _ _ ⟨by simp [r_pack, c1, ib_n.mp c1, c2, ib_0.mp c2], fun _ _ => rfl, fun _ _ _ => rfl⟩ hM hF)
