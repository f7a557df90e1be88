/-! ===== pure: what hangs; hours; the questions ===== -/
theorem vp_of {m c : Int32} {k N : Nat} (h : 0 ≤ m ∧ m < c) (e : c = nI k) (hk : k ≤ N) (hN : N ≤ 100000) : vp_in m N := by
  subst e
  obtain ⟨h1, h2⟩ := idx_of h (show k ≤ 100000 by omega)
  rw [← h2]
  exact vp_in_nI (by omega) (by omega)
theorem lt0_of {x c : Int32} (h : 0 < x ∧ x < c) : 0 ≤ x ∧ x < c := ⟨Int32.le_of_lt h.1, h.2⟩
theorem mx0 {v : Int32} : (if v < 0 then 0 else v) = (if 0 < v then v else 0) := by
  by_cases h1 : v < 0
  · rw [if_pos h1, if_neg (Int32.not_lt.mpr (Int32.le_of_lt h1))]
  · rw [if_neg h1]
    by_cases h2 : 0 < v
    · rw [if_pos h2]
    · rw [if_neg h2]
      exact Int32.le_antisymm (Int32.not_lt.mp h2) (Int32.not_lt.mp h1)
theorem hour_eq {t : Int32} {k : Nat} (e : t = nI k) (hk : k ≤ 100000) : m_hour t = c_hour t := by
  subst e
  have h720 : (720 ≤ nI k) ↔ 720 ≤ k := nI_leI (a := 720) (by decide) (by omega)
  rw [m_hour, c_hour, nI_div60 hk]
  have h11 : (nI (k / 60) < 11) ↔ k / 60 < 11 := nI_ltI (b := 11) (by omega) (by decide)
  have h0 : (0 < nI (k / 60)) ↔ 0 < k / 60 := nI_ltI (a := 0) (by decide) (by omega)
  by_cases a : k / 60 < 11
  · have c : ¬ 720 ≤ k := by omega
    rw [if_neg (mt h720.mp c), if_pos (h11.mpr a)]
    by_cases b : 0 < k / 60
    · rw [if_pos (h0.mpr b)]
    · rw [if_neg (mt h0.mp b), show k / 60 = 0 by omega]
      rfl
  · rw [if_neg (mt h11.mp a), if_pos (show (0 : Int32) < 11 by decide)]
    by_cases c : 720 ≤ k
    · rw [if_pos (h720.mpr c)]
    · rw [if_neg (mt h720.mp c), show k / 60 = 11 by omega]
      rfl
theorem hour_in {t : Int32} {k : Nat} (e : t = nI k) (hk : k ≤ 100000) : vp_in (m_hour t) 12 := by
  rw [hour_eq e hk]
  exact c_hour_in
theorem hour_60 {x : Int32} (h : 0 ≤ x ∧ x ≤ 11) : c_hour (x * 60) = x := by
  obtain ⟨j, hj, rfl⟩ := nI_of (Int32.not_lt.mpr h.1)
  have h11 : j ≤ 11 := (nI_leI (b := 11) hj (by decide)).mp h.2
  have : j = 0 ∨ j = 1 ∨ j = 2 ∨ j = 3 ∨ j = 4 ∨ j = 5 ∨ j = 6 ∨ j = 7 ∨ j = 8 ∨ j = 9 ∨ j = 10 ∨ j = 11 := by omega
  rcases this with rfl | rfl | rfl | rfl | rfl | rfl | rfl | rfl | rfl | rfl | rfl | rfl <;> decide
/-- what hangs on m, in the order of the loads -/
def hgF (st on : Nat → Int32) (m : Int32) (n : Nat) : List Nat := (List.range n).filter (fun x => decide (st x = 1 ∧ on x = m))
theorem hgF_s {st on : Nat → Int32} {m : Int32} {n : Nat} : hgF st on m (n + 1) = if st n = 1 ∧ on n = m then hgF st on m n ++ [n] else hgF st on m n := by
  rw [hgF, List.range_succ, List.filter_append]
  by_cases h : st n = 1 ∧ on n = m
  · rw [if_pos h, List.filter_cons_of_pos (by simp [h])]
    rfl
  · rw [if_neg h, List.filter_cons_of_neg (by simpa using h)]
    simp [hgF]
theorem lsum_s {f : Nat → Int32} {l : List Nat} {x : Nat} : lsum f (l ++ [x]) = lsum f l + f x := by
  rw [lsum, lsum, List.foldl_append]
  rfl
theorem lmax_s {f : Nat → Int32} {l : List Nat} {x : Nat} : lmax f (l ++ [x]) = if lmax f l < f x then f x else lmax f l := by
  rw [lmax, lmax, List.foldl_append]
  rfl
theorem hang_n {S : MS} {m : Int32} (hm : ¬ m < 0) : ∀ n, r_hangN S m 110 n = nI (hgF (S.2 23) (S.2 24) m n).length
  | 0 => rfl
  | n + 1 => by
    rw [r_hangN, if_neg hm, hang_n hm n, hgF_s, if_pos rfl]
    by_cases h1 : S.2 23 n = 1
    · rw [if_pos h1]
      by_cases h2 : S.2 24 n = m
      · rw [if_pos h2, if_pos ⟨h1, h2⟩, List.length_append, List.length_singleton, nI_1]
      · rw [if_neg h2, if_neg (fun z => h2 z.2)]
    · rw [if_neg h1, if_neg (fun z => h1 z.1)]
theorem hang_l {S : MS} {m : Int32} (hm : ¬ m < 0) : ∀ n, r_hangN S m 108 n = lsum (S.2 18) (hgF (S.2 23) (S.2 24) m n)
  | 0 => rfl
  | n + 1 => by
    rw [r_hangN, if_neg hm, hang_l hm n, hgF_s, if_neg (show ¬ (108 : Int32) = 110 by decide), if_pos rfl]
    by_cases h1 : S.2 23 n = 1
    · rw [if_pos h1]
      by_cases h2 : S.2 24 n = m
      · rw [if_pos h2, if_pos ⟨h1, h2⟩, lsum_s]
      · rw [if_neg h2, if_neg (fun z => h2 z.2)]
    · rw [if_neg h1, if_neg (fun z => h1 z.1)]
theorem hang_r {S : MS} {m : Int32} (hm : ¬ m < 0) : ∀ n, r_hangN S m 114 n = lsum (S.2 19) (hgF (S.2 23) (S.2 24) m n)
  | 0 => rfl
  | n + 1 => by
    rw [r_hangN, if_neg hm, hang_r hm n, hgF_s, if_neg (show ¬ (114 : Int32) = 110 by decide), if_neg (show ¬ (114 : Int32) = 108 by decide), if_pos rfl]
    by_cases h1 : S.2 23 n = 1
    · rw [if_pos h1]
      by_cases h2 : S.2 24 n = m
      · rw [if_pos h2, if_pos ⟨h1, h2⟩, lsum_s]
      · rw [if_neg h2, if_neg (fun z => h2 z.2)]
    · rw [if_neg h1, if_neg (fun z => h1 z.1)]
theorem hang_k {S : MS} {m c : Int32} (hm : ¬ m < 0) (c1 : ¬ c = 110) (c2 : ¬ c = 108) (c3 : ¬ c = 114) : ∀ n, r_hangN S m c n = lmax (S.2 20) (hgF (S.2 23) (S.2 24) m n)
  | 0 => rfl
  | n + 1 => by
    rw [r_hangN, if_neg hm, hang_k hm c1 c2 c3 n, hgF_s, if_neg c1, if_neg c2, if_neg c3]
    by_cases h1 : S.2 23 n = 1
    · rw [if_pos h1]
      by_cases h2 : S.2 24 n = m
      · rw [if_pos h2, if_pos (show S.2 23 n = 1 ∧ S.2 24 n = m from ⟨h1, h2⟩), lmax_s]
        by_cases h3 : lmax (S.2 20) (hgF (S.2 23) (S.2 24) m n) < S.2 20 n
        · rw [if_pos h3, if_pos (Int32.le_of_lt h3)]
        · rw [if_neg h3]
          by_cases h4 : lmax (S.2 20) (hgF (S.2 23) (S.2 24) m n) ≤ S.2 20 n
          · rw [if_pos h4]
            exact Int32.le_antisymm (Int32.not_lt.mp h3) h4
          · rw [if_neg h4]
      · rw [if_neg h2, if_neg (fun z => h2 z.2)]
    · rw [if_neg h1, if_neg (fun z => h1 z.1)]
/-- with no machine nothing hangs -/
theorem hang_none {S : MS} {m c : Int32} (hm : m < 0) : ∀ n, r_hangN S m c n = 0
  | 0 => rfl
  | n + 1 => by rw [r_hangN, if_pos hm, hang_none hm n]
theorem lsum_perm {f : Nat → Int32} {l1 l2 : List Nat} (h : l1.Perm l2) : lsum f l1 = lsum f l2 := by
  rw [lsum, lsum]
  exact h.foldl_eq' (fun x _ y _ z => by rw [Int32.add_assoc, Int32.add_assoc, Int32.add_comm (f x)]) 0
theorem lmax_perm {f : Nat → Int32} {l1 l2 : List Nat} (h : l1.Perm l2) : lmax f l1 = lmax f l2 := by
  rw [lmax, lmax]
  refine h.foldl_eq' (fun x _ y _ z => ?_) 0
  simp only [Int32.lt_iff_toInt_lt]
  by_cases h1 : z.toInt < (f x).toInt <;> by_cases h2 : z.toInt < (f y).toInt <;> by_cases h3 : (f x).toInt < (f y).toInt <;> by_cases h4 : (f y).toInt < (f x).toInt <;> simp only [h1, h2, h3, h4, if_true, if_false] <;> first | rfl | (exfalso; omega) | (exact Int32.toInt_inj.mp (by omega))
theorem IHa.perm {pl ro ki st on : Nat → Int32} {H : Nat → List Nat} {nm nl : Nat} (h : IHa pl ro ki st on H nm nl) {m : Nat} (hm : m < nm) : (H m).Perm (hgF st on (nI m) nl) := by
  refine (List.perm_ext_iff_of_nodup (h.nd m hm) (List.Pairwise.filter _ List.nodup_range)).mpr (fun x => ?_)
  rw [h.mem m hm x, List.mem_filter, List.mem_range]
  simp
theorem IHa.len {pl ro ki st on : Nat → Int32} {H : Nat → List Nat} {nm nl : Nat} (h : IHa pl ro ki st on H nm nl) : ∀ m, m < nm → (H m).length ≤ 80 := fun m hm => by
  obtain ⟨k, hk, -, hl⟩ := h.ro m hm
  omega
section QU
variable {G : Nat → Nat} {x0 m0 : Nat} {adm : Nat → Nat} {S X : MS} {L : Nat → List Nat} {wn : Nat → Option Nat} {sl : Nat → Nat} {fl : Nat} {ad : Nat → Nat → Nat} {h : AH}
theorem Inv.hn {m : Int32} (hI : Inv S X L wn sl fl) (hm : 0 ≤ m ∧ m < nI (L 1).length) : r_hangN S m 110 (L 3).length = nI (L (8 + m.toNatClampNeg)).length ∧ r_hangN S m 108 (L 3).length = lsum (S.2 18) (L (8 + m.toNatClampNeg)) ∧ r_hangN S m 114 (L 3).length = lsum (S.2 19) (L (8 + m.toNatClampNeg)) ∧ ∀ c, ¬ c = 110 → ¬ c = 108 → ¬ c = 114 → r_hangN S m c (L 3).length = lmax (S.2 20) (L (8 + m.toNatClampNeg)) := by
  obtain ⟨i1, i2⟩ := idx_of hm (show (L 1).length ≤ 100000 by have := hI.co.b1; omega)
  have hp := hI.ha.perm i1
  rw [i2] at hp
  have hp : (L (8 + m.toNatClampNeg)).Perm (hgF (S.2 23) (S.2 24) m (L 3).length) := hp
  have hz : ¬ m < 0 := Int32.not_lt.mpr hm.1
  refine ⟨?_, ?_, ?_, fun c a b d => ?_⟩
  · rw [hang_n hz, hp.length_eq]
  · rw [hang_l hz, lsum_perm hp]
  · rw [hang_r hz, lsum_perm hp]
  · rw [hang_k hz a b d, lmax_perm hp]
theorem t_about {m t : Int32} (hM : MR m0 adm S h) (hK : KR G (OM m0 adm) ad S X L wn sl fl h) (ha : ad 0 0 = x0) (hI : Inv S X L wn sl fl) : Two G x0 m0 adm Y_X11_about Y_X12_about [.int m, .int t] h := by
  obtain ⟨k, hk, et⟩ := hI.tm
  refine two_q hM hK ha hI (c_about (d := 16) hK hI.co.r1 hI.co.b1 hI.ha.len (c_hour_in)) (k_about (d := 19) hI.co.n3 hI.co.b3 (fun z => vp_of z hI.co.n1 hI.co.b1 (by decide)) (hour_in et (by omega))) ?_
  rw [a_about, r_about, hI.co.n1]
  by_cases hm : 0 ≤ m ∧ m < nI (L 1).length
  · rw [if_neg (not_not_intro hm), if_neg (not_not_intro hm), (hI.hn hm).1, (hI.hn hm).2.1, r_liftOf, hour_eq et (by omega), show (0 : Int32).toNatClampNeg = 0 from rfl, hI.pl.1, mx0]
  · rw [if_pos hm, if_pos hm]
theorem t_pilotOf {p t : Int32} (hM : MR m0 adm S h) (hK : KR G (OM m0 adm) ad S X L wn sl fl h) (ha : ad 0 0 = x0) (hI : Inv S X L wn sl fl) : Two G x0 m0 adm Y_X11_pilotOf Y_X12_pilotOf [.int p, .int t] h := by
  refine two_q hM hK ha hI (c_pilotOf (d := 17) hK hI.co.r2 hI.co.b2) (k_pilotOf (d := 19) (fun z => vp_of z hI.co.n2 hI.co.b2 (by decide))) ?_
  rw [a_pilotOf, r_pilotOf, hI.co.n2]
theorem t_cargo {l t : Int32} (hM : MR m0 adm S h) (hK : KR G (OM m0 adm) ad S X L wn sl fl h) (ha : ad 0 0 = x0) (hI : Inv S X L wn sl fl) : Two G x0 m0 adm Y_X11_cargo Y_X12_cargo [.int l, .int t] h := by
  refine two_q hM hK ha hI (c_cargo (d := 17) hK hI.co.r3 hI.co.b3) (k_cargo (d := 19) (fun z => vp_of z hI.co.n3 hI.co.b3 (by decide))) ?_
  rw [a_cargo, r_cargo, hI.co.n3]
theorem t_flight {x t : Int32} (hM : MR m0 adm S h) (hK : KR G (OM m0 adm) ad S X L wn sl fl h) (ha : ad 0 0 = x0) (hI : Inv S X L wn sl fl) : Two G x0 m0 adm Y_X11_flight Y_X12_flight [.int x, .int t] h := by
  refine two_q hM hK ha hI (c_flight (d := 17) hK hI.co.r4 hI.co.b4 hI.co.hfl) (k_flight (d := 20) (fun z w => vp_of ⟨Int32.not_lt.mp z, w⟩ hI.co.n4 hI.co.b4 (by decide))) ?_
  rw [a_flight, r_flight, hI.co.n4]
  by_cases hx : 0 ≤ x ∧ x < nI (L 4).length
  · have hn : ¬ (x < 0 ∨ nI (L 4).length ≤ x) := fun z => z.elim (fun y => Int32.not_lt.mpr hx.1 y) (fun y => Int32.not_lt.mpr y hx.2)
    rw [if_neg (not_not_intro hx), if_neg hn]
  · have hn : x < 0 ∨ nI (L 4).length ≤ x := Classical.byContradiction (fun z => hx ⟨Int32.not_lt.mp (fun y => z (Or.inl y)), Int32.not_le.mp (fun y => z (Or.inr y))⟩)
    rw [if_pos hx, if_pos hn]
theorem t_lift {m p x : Int32} (hM : MR m0 adm S h) (hK : KR G (OM m0 adm) ad S X L wn sl fl h) (ha : ad 0 0 = x0) (hI : Inv S X L wn sl fl) : Two G x0 m0 adm Y_X11_lift Y_X12_lift [.int m, .int p, .int x] h := by
  refine two_q hM hK ha hI (c_lift (d := 17) hK hI.co.r1 hI.co.b1 hI.co.r0 hI.co.b0 (fun _ => c_hour_in)) (k_lift (d := 19) (fun z => vp_of z hI.co.n1 hI.co.b1 (by decide)) (fun z => vp_of z hI.co.n0 hI.co.b0 (by decide)) (fun z => by rw [← hour_60 z]; exact c_hour_in)) ?_
  rw [a_lift, r_lift, hI.co.n1, hI.co.n0]
  by_cases hx : (0 ≤ m ∧ m < nI (L 1).length) ∧ (0 ≤ p ∧ p < nI (L 0).length) ∧ (0 ≤ x ∧ x ≤ 11)
  · rw [if_pos hx, if_pos hx, hour_60 hx.2.2, r_liftOf, mx0]
  · rw [if_neg hx, if_neg hx]
theorem cnt_eq {S : MS} : ∀ n, r_cntN S 7 n = cnt (fun z => S.2 23 z = 3) n
  | 0 => rfl
  | n + 1 => by rw [r_cntN, cnt, cnt_eq n, if_pos rfl]
theorem cnt_eq8 {S : MS} : ∀ n, r_cntN S 8 n = cnt (fun z => S.2 23 z = 3 ∧ S.2 22 z < S.2 26 z) n
  | 0 => rfl
  | n + 1 => by
    rw [r_cntN, cnt, cnt_eq8 n, if_neg (show ¬ (8 : Int32) = 7 by decide)]
    by_cases h1 : S.2 23 n = 3 ∧ S.2 22 n < S.2 26 n
    · rw [if_pos h1.1, if_pos h1, if_neg (by simp [ib, h1])]
    · rw [if_neg h1]
      by_cases h2 : S.2 23 n = 3
      · rw [if_pos h2, if_pos (by simp [ib, h1])]
      · rw [if_neg h2]
theorem t_count {t : Int32} (hM : MR m0 adm S h) (hK : KR G (OM m0 adm) ad S X L wn sl fl h) (ha : ad 0 0 = x0) (hI : Inv S X L wn sl fl) : Two G x0 m0 adm Y_X11_count Y_X12_count [.int t] h := by
  refine two_q hM hK ha hI (c_count (d := 16) hK hI.co.r3 hI.co.b3) (k_count (d := 19) hI.co.n3 hI.co.b3) ?_
  rw [a_count, r_count, hI.co.n0, hI.co.n1, hI.co.n2, hI.co.n3, hI.co.n4, hI.co.n6]
  by_cases h7 : t = 7
  · subst h7
    rw [cnt_eq]
    rfl
  · by_cases h8 : t = 8
    · subst h8
      rw [cnt_eq8]
      rfl
    · rw [if_neg h7, if_neg h8, if_neg h7, if_neg h8]
theorem t_ordered {x : Int32} (hM : MR m0 adm S h) (hK : KR G (OM m0 adm) ad S X L wn sl fl h) (ha : ad 0 0 = x0) (hI : Inv S X L wn sl fl) : Two G x0 m0 adm Y_X11_ordered Y_X12_ordered [.int x] h := by
  obtain ⟨hk, he⟩ := hI.be
  have key : (0 ≤ x ∧ x ≤ X.1 4 - 1) ↔ (0 ≤ x ∧ x < S.1 55) := by
    rcases hk with ⟨e1, e2⟩ | ⟨k, hk5, e1, e2⟩
    · rw [e1, e2]
      refine ⟨fun z => absurd (Int32.le_trans z.1 z.2) (by decide), fun z => absurd (Int32.lt_of_le_of_lt z.1 z.2) (by decide)⟩
    · rw [e1, e2]
      exact lt1b (show k ≤ 100000 by omega) x
  have hin : 0 ≤ x → x < S.1 55 → vp_in x 5 := by
    intro a b
    rcases hk with ⟨e1, e2⟩ | ⟨k, hk5, e1, e2⟩
    · rw [e1] at b
      exact absurd (Int32.lt_of_le_of_lt a b) (by decide)
    · exact vp_of ⟨a, b⟩ e1 hk5 (by decide)
  refine two_q hM hK ha hI (c_ordered (d := 19) hK (fun z => hin z.1 (key.mp z).2)) (k_ordered (d := 20) hin) ?_
  rw [a_ordered, r_ordered]
  by_cases hx : 0 ≤ x ∧ x < S.1 55
  · rw [if_pos (key.mpr hx), if_pos hx]
    have h5 := hin hx.1 hx.2
    rcases hk with ⟨e1, e2⟩ | ⟨k, hk5, e1, e2⟩
    · rw [e1] at hx
      exact absurd (Int32.lt_of_le_of_lt hx.1 hx.2) (by decide)
    · obtain ⟨i1, i2⟩ := idx_of (by rw [← e1]; exact hx) (show k ≤ 100000 by omega)
      exact (he _ (by rw [i2]; exact hx.2) (by omega)).symm
  · rw [if_neg (fun z => hx (key.mp z)), if_neg hx]
end QU
