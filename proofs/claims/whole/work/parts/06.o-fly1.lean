/-! ===== a flight on both sides: the rows behind it ===== -/
theorem lsum_app {f : Nat → Int32} : ∀ {l1 l2 : List Nat}, lsum f (l1 ++ l2) = lsum f l1 + lsum f l2
  | [], l2 => by rw [List.nil_append]; exact (Int32.zero_add _).symm
  | a :: l1, l2 => by rw [List.cons_append, lsum_cons, lsum_cons, lsum_app (l1 := l1), Int32.add_assoc, Int32.add_assoc, Int32.add_comm (lsum f l2)]
theorem ridN_in {S : MS} {p t l : Int32} : ∀ k, (∀ x, x ∈ (ridN S p t l k).1 → x < k ∧ S.2 23 x = 0 ∧ S.2 20 x = 4) ∧ (ridN S p t l k).1.Nodup
  | 0 => ⟨fun x hx => (by cases hx), List.nodup_nil⟩
  | k + 1 => by
    obtain ⟨i1, i2⟩ := ridN_in (S := S) (p := p) (t := t) (l := l) k
    by_cases hc : ridC S p t l k (ridN S p t l k)
    · rw [rid_t hc]
      refine ⟨fun x hx => ?_, List.nodup_append.mpr ⟨i2, List.pairwise_singleton _ _, fun a ha b hb => ?_⟩⟩
      · rcases List.mem_append.mp hx with q | q
        · obtain ⟨a, b⟩ := i1 x q; exact ⟨by omega, b⟩
        · rw [List.mem_singleton.mp q]; exact ⟨Nat.lt_succ_self k, hc.1.1, hc.2.1⟩
      · rw [List.mem_singleton.mp hb]
        have := (i1 a ha).1
        omega
    · rw [rid_f hc]
      exact ⟨fun x hx => by obtain ⟨a, b⟩ := i1 x hx; exact ⟨by omega, b⟩, i2⟩
section FL
variable {S X : MS} {L : Nat → List Nat} {m y p : Int32}
theorem rid_in {x : Nat} (h : x ∈ a_rid S L m p) : x < (L 3).length ∧ S.2 23 x = 0 ∧ S.2 20 x = 4 := (ridN_in _).1 x h
theorem rid_nd : (a_rid S L m p).Nodup := (ridN_in _).2
theorem b1_i {f : Nat} : (a_b1 S f).1 = S.1 := rfl
theorem part_r {q : Int32} {l1 l2 : List Nat} {j : Nat} (hj : j ≠ 27) : (a_part S q l1 l2).2 j = S.2 j := by
  rw [a_part]
  split
  · show u2 _ 27 _ _ j = _
    rw [u2_n hj, a_ptS, gsN_r hj, gsN_r hj]
  · rfl
theorem part_1 {q : Int32} {l1 l2 : List Nat} : (a_part S q l1 l2).1 = S.1 := by
  rw [a_part]
  split
  · show (a_ptS S q _ l1 l2).1 = _
    rw [a_ptS, gsN_1, gsN_1]
  · rfl
theorem part_27 {q : Int32} {l1 l2 : List Nat} (x : Nat) (ha : 0 < lsum (S.2 18) l1 + lsum (S.2 18) l2) : (a_part S q l1 l2).2 27 x = upd (fun x => if x ∈ l1 ∨ x ∈ l2 then q * S.2 18 x / (lsum (S.2 18) l1 + lsum (S.2 18) l2) else S.2 27 x) (a_lst l1 l2) ((fun x => if x ∈ l1 ∨ x ∈ l2 then q * S.2 18 x / (lsum (S.2 18) l1 + lsum (S.2 18) l2) else S.2 27 x) (a_lst l1 l2) + (q - (lsum (fun x => q * S.2 18 x / (lsum (S.2 18) l1 + lsum (S.2 18) l2)) l1 + lsum (fun x => q * S.2 18 x / (lsum (S.2 18) l1 + lsum (S.2 18) l2)) l2))) x := by
  have e27 : (a_ptS S q (lsum (S.2 18) l1 + lsum (S.2 18) l2) l1 l2).2 27 = (fun x => if x ∈ l1 ∨ x ∈ l2 then q * S.2 18 x / (lsum (S.2 18) l1 + lsum (S.2 18) l2) else S.2 27 x) := by
    funext z
    rw [a_ptS, gsN_27l, gsN_27l, gsN_r (j := 18) (by decide)]
    by_cases h2 : z ∈ l2
    · rw [if_pos h2, if_pos (Or.inr h2)]
    · rw [if_neg h2]
      by_cases h1 : z ∈ l1
      · rw [if_pos h1, if_pos (Or.inl h1)]
      · rw [if_neg h1, if_neg (fun q => q.elim h1 h2)]
  have eG : a_ptG S q (lsum (S.2 18) l1 + lsum (S.2 18) l2) l1 l2 = lsum (fun x => q * S.2 18 x / (lsum (S.2 18) l1 + lsum (S.2 18) l2)) l1 + lsum (fun x => q * S.2 18 x / (lsum (S.2 18) l1 + lsum (S.2 18) l2)) l2 := by
    rw [a_ptG, gsN_sl, gsN_sl, gsN_r (j := 18) (by decide)]
  rw [a_part, if_pos ha]
  show u2 (a_ptS S q _ l1 l2).2 27 _ _ 27 x = _
  rw [u2_s, e27, eG]
theorem fl_m : ((a_plan S L m y p).2 36 (L 4).length).toNatClampNeg = m.toNatClampNeg := by rw [a_plan_36]
/-- the component's state behind the flight -/
theorem cfl_b2 : a_b2 (a_plan S L m y p) (lset L 5 (a_rid S L m p)) (L 4).length = a_part (a_b1 (a_plan S L m y p) (L 4).length) (S.1 0 + a_way S L m p + 2 + a_way S L m p - S.1 0) (L (8 + m.toNatClampNeg)) (a_rid S L m p) := by
  rw [a_b2, a_plan_41, a_plan_39, fl_m, lset_s, lset_n (by omega)]
theorem cfl_r {j : Nat} (h1 : j ≠ 23) (h2 : j ≠ 24) (h3 : j ≠ 25) (h4 : j ≠ 27) : (a_flS S L m y p).2 j = (a_b1 (a_plan S L m y p) (L 4).length).2 j := by
  rw [a_flS, a_b4, tkN_r h1 h2 h3, a_b3, tkN_r h1 h2 h3, cfl_b2, part_r h4]
theorem cfl_1 : (a_flS S L m y p).1 = S.1 := by
  rw [a_flS, a_b4, tkN_1, a_b3, tkN_1, cfl_b2, part_1]
  rfl
theorem b1_low {j : Nat} (h : j < 36) (h1 : j ≠ 9) (h2 : j ≠ 10) (h3 : j ≠ 14) (h4 : j ≠ 15) : (a_b1 (a_plan S L m y p) (L 4).length).2 j = S.2 j := by
  show u2 (u2 (u2 (u2 (a_plan S L m y p).2 9 _ _) 10 _ _) 15 _ _) 14 _ _ j = _
  rw [u2_n h3, u2_n h4, u2_n h2, u2_n h1, a_plan_r j (Or.inl h)]
theorem b1_hi {j : Nat} (h : 36 ≤ j) : (a_b1 (a_plan S L m y p) (L 4).length).2 j = (a_plan S L m y p).2 j := by
  show u2 (u2 (u2 (u2 (a_plan S L m y p).2 9 _ _) 10 _ _) 15 _ _) 14 _ _ j = _
  rw [u2_n (by omega), u2_n (by omega), u2_n (by omega), u2_n (by omega)]
theorem cfl_9 : (a_flS S L m y p).2 9 = upd (S.2 9) m.toNatClampNeg (S.2 9 m.toNatClampNeg - a_burn S L m p) := by
  rw [cfl_r (by decide) (by decide) (by decide) (by decide)]
  show upd ((a_plan S L m y p).2 9) ((a_plan S L m y p).2 36 (L 4).length).toNatClampNeg ((a_plan S L m y p).2 9 ((a_plan S L m y p).2 36 (L 4).length).toNatClampNeg - (a_plan S L m y p).2 42 (L 4).length) = _
  rw [fl_m, a_plan_42, a_plan_r 9 (Or.inl (by decide))]
theorem cfl_10 : (a_flS S L m y p).2 10 = upd (S.2 10) m.toNatClampNeg (S.1 0 + a_way S L m p + 2 + a_way S L m p) := by
  rw [cfl_r (by decide) (by decide) (by decide) (by decide)]
  show upd ((a_plan S L m y p).2 10) ((a_plan S L m y p).2 36 (L 4).length).toNatClampNeg ((a_plan S L m y p).2 41 (L 4).length) = _
  rw [fl_m, a_plan_41, a_plan_r 10 (Or.inl (by decide))]
theorem cfl_15 : (a_flS S L m y p).2 15 = upd (S.2 15) y.toNatClampNeg (S.1 0 + a_way S L m p + 2 + a_way S L m p + S.2 13 y.toNatClampNeg) := by
  rw [cfl_r (by decide) (by decide) (by decide) (by decide)]
  show upd ((a_plan S L m y p).2 15) ((a_plan S L m y p).2 37 (L 4).length).toNatClampNeg ((a_plan S L m y p).2 41 (L 4).length + (a_plan S L m y p).2 13 ((a_plan S L m y p).2 37 (L 4).length).toNatClampNeg) = _
  rw [a_plan_37, a_plan_41, a_plan_r 15 (Or.inl (by decide)), a_plan_r 13 (Or.inl (by decide))]
theorem cfl_14 : (a_flS S L m y p).2 14 = upd (S.2 14) y.toNatClampNeg (S.2 14 y.toNatClampNeg + (S.1 0 + a_way S L m p + 2 + a_way S L m p - S.1 0)) := by
  rw [cfl_r (by decide) (by decide) (by decide) (by decide)]
  show upd ((a_plan S L m y p).2 14) ((a_plan S L m y p).2 37 (L 4).length).toNatClampNeg ((a_plan S L m y p).2 14 ((a_plan S L m y p).2 37 (L 4).length).toNatClampNeg + ((a_plan S L m y p).2 41 (L 4).length - (a_plan S L m y p).2 39 (L 4).length)) = _
  rw [a_plan_37, a_plan_41, a_plan_39, a_plan_r 14 (Or.inl (by decide))]
theorem cfl_x (x : Nat) : (a_flS S L m y p).2 23 x = (if x ∈ L (8 + m.toNatClampNeg) ∨ x ∈ a_rid S L m p then 2 else S.2 23 x) ∧ (a_flS S L m y p).2 24 x = (if x ∈ L (8 + m.toNatClampNeg) ∨ x ∈ a_rid S L m p then -1 else S.2 24 x) ∧ (a_flS S L m y p).2 25 x = (if x ∈ L (8 + m.toNatClampNeg) ∨ x ∈ a_rid S L m p then nI (L 4).length else S.2 25 x) := by
  have e4 : lset L 5 (a_rid S L m p) 4 = L 4 := lset_n (by decide)
  have e5 : lset L 5 (a_rid S L m p) 5 = a_rid S L m p := lset_s
  have em : lset L 5 (a_rid S L m p) (8 + m.toNatClampNeg) = L (8 + m.toNatClampNeg) := lset_n (by omega)
  have old : ∀ j, j < 36 → j ≠ 9 → j ≠ 10 → j ≠ 14 → j ≠ 15 → j ≠ 27 → (a_b2 (a_plan S L m y p) (lset L 5 (a_rid S L m p)) (L 4).length).2 j = S.2 j := fun j a b c d e g => by rw [cfl_b2, part_r g, b1_low a b c d e]
  rw [a_flS, a_b4, e5]
  obtain ⟨t1, t2, t3, -⟩ := tkN_l (S := (a_b3 (a_plan S L m y p) (fun _ => 0, fun _ _ => 0) (lset L 5 (a_rid S L m p)) (L 4).length).1) (X := (a_b3 (a_plan S L m y p) (fun _ => 0, fun _ _ => 0) (lset L 5 (a_rid S L m p)) (L 4).length).2) (l := a_rid S L m p) (f := nI (lset L 5 (a_rid S L m p) 4).length) (t := (a_b3 (a_plan S L m y p) (fun _ => 0, fun _ _ => 0) (lset L 5 (a_rid S L m p)) (L 4).length).1.2 41 (L 4).length) x
  rw [t1, t2, t3, a_b3, fl_m, em]
  obtain ⟨u1, u2_, u3, -⟩ := tkN_l (S := a_b2 (a_plan S L m y p) (lset L 5 (a_rid S L m p)) (L 4).length) (X := (fun _ => 0, fun _ _ => 0)) (l := L (8 + m.toNatClampNeg)) (f := nI (lset L 5 (a_rid S L m p) 4).length) (t := (a_b2 (a_plan S L m y p) (lset L 5 (a_rid S L m p)) (L 4).length).2 40 (L 4).length) x
  rw [u1, u2_, u3, e4, old 23 (by decide) (by decide) (by decide) (by decide) (by decide) (by decide), old 24 (by decide) (by decide) (by decide) (by decide) (by decide) (by decide), old 25 (by decide) (by decide) (by decide) (by decide) (by decide) (by decide)]
  by_cases h2 : x ∈ a_rid S L m p
  · have hh : x ∈ L (8 + m.toNatClampNeg) ∨ x ∈ a_rid S L m p := Or.inr h2
    rw [if_pos h2, if_pos h2, if_pos h2, if_pos hh, if_pos hh, if_pos hh]
    exact ⟨rfl, rfl, rfl⟩
  · rw [if_neg h2, if_neg h2, if_neg h2]
    by_cases h1 : x ∈ L (8 + m.toNatClampNeg)
    · have hh : x ∈ L (8 + m.toNatClampNeg) ∨ x ∈ a_rid S L m p := Or.inl h1
      rw [if_pos h1, if_pos h1, if_pos h1, if_pos hh, if_pos hh, if_pos hh]
      exact ⟨rfl, rfl, rfl⟩
    · have hh : ¬ (x ∈ L (8 + m.toNatClampNeg) ∨ x ∈ a_rid S L m p) := fun z => z.elim h1 h2
      rw [if_neg h1, if_neg h1, if_neg h1, if_neg hh, if_neg hh, if_neg hh]
      exact ⟨rfl, rfl, rfl⟩
/-- where the loads of the flight land -/
theorem cfl_la (x : Nat) : (a_b4 (a_plan S L m y p) X (lset L 5 (a_rid S L m p)) (L 4).length).2.2 0 x = if x ∈ a_rid S L m p then S.1 0 + a_way S L m p + 2 + a_way S L m p else if x ∈ L (8 + m.toNatClampNeg) then S.1 0 + a_way S L m p else X.2 0 x := by
  have e5 : lset L 5 (a_rid S L m p) 5 = a_rid S L m p := lset_s
  have em : lset L 5 (a_rid S L m p) (8 + m.toNatClampNeg) = L (8 + m.toNatClampNeg) := lset_n (by omega)
  have e40 : (a_b2 (a_plan S L m y p) (lset L 5 (a_rid S L m p)) (L 4).length).2 40 (L 4).length = S.1 0 + a_way S L m p := by rw [cfl_b2, part_r (by decide), b1_hi (by decide), a_plan_40]
  have e41 : (a_b3 (a_plan S L m y p) X (lset L 5 (a_rid S L m p)) (L 4).length).1.2 41 (L 4).length = S.1 0 + a_way S L m p + 2 + a_way S L m p := by rw [a_b3, tkN_r (by decide) (by decide) (by decide), cfl_b2, part_r (by decide), b1_hi (by decide), a_plan_41]
  rw [a_b4, e5, (tkN_l x).2.2.2, e41, a_b3, fl_m, em, (tkN_l x).2.2.2, e40]
theorem cfl_27 (x : Nat) (ha : 0 < lsum (S.2 18) (L (8 + m.toNatClampNeg)) + lsum (S.2 18) (a_rid S L m p)) : (a_flS S L m y p).2 27 x = upd (fun x => if x ∈ L (8 + m.toNatClampNeg) ∨ x ∈ a_rid S L m p then (S.1 0 + a_way S L m p + 2 + a_way S L m p - S.1 0) * S.2 18 x / (lsum (S.2 18) (L (8 + m.toNatClampNeg)) + lsum (S.2 18) (a_rid S L m p)) else S.2 27 x) (a_lst (L (8 + m.toNatClampNeg)) (a_rid S L m p)) ((fun x => if x ∈ L (8 + m.toNatClampNeg) ∨ x ∈ a_rid S L m p then (S.1 0 + a_way S L m p + 2 + a_way S L m p - S.1 0) * S.2 18 x / (lsum (S.2 18) (L (8 + m.toNatClampNeg)) + lsum (S.2 18) (a_rid S L m p)) else S.2 27 x) (a_lst (L (8 + m.toNatClampNeg)) (a_rid S L m p)) + ((S.1 0 + a_way S L m p + 2 + a_way S L m p - S.1 0) - (lsum (fun x => (S.1 0 + a_way S L m p + 2 + a_way S L m p - S.1 0) * S.2 18 x / (lsum (S.2 18) (L (8 + m.toNatClampNeg)) + lsum (S.2 18) (a_rid S L m p))) (L (8 + m.toNatClampNeg)) + lsum (fun x => (S.1 0 + a_way S L m p + 2 + a_way S L m p - S.1 0) * S.2 18 x / (lsum (S.2 18) (L (8 + m.toNatClampNeg)) + lsum (S.2 18) (a_rid S L m p))) (a_rid S L m p)))) x := by
  have e18 : (a_b1 (a_plan S L m y p) (L 4).length).2 18 = S.2 18 := b1_low (by decide) (by decide) (by decide) (by decide) (by decide)
  have e27 : (a_b1 (a_plan S L m y p) (L 4).length).2 27 = S.2 27 := b1_low (by decide) (by decide) (by decide) (by decide) (by decide)
  rw [a_flS, a_b4, tkN_r (by decide) (by decide) (by decide), a_b3, tkN_r (by decide) (by decide) (by decide), cfl_b2, part_27 x (by rw [e18]; exact ha), e18, e27]
theorem cfl_27n (x : Nat) (ha : ¬ 0 < lsum (S.2 18) (L (8 + m.toNatClampNeg)) + lsum (S.2 18) (a_rid S L m p)) : (a_flS S L m y p).2 27 x = S.2 27 x := by
  have e18 : (a_b1 (a_plan S L m y p) (L 4).length).2 18 = S.2 18 := b1_low (by decide) (by decide) (by decide) (by decide) (by decide)
  have e27 : (a_b1 (a_plan S L m y p) (L 4).length).2 27 = S.2 27 := b1_low (by decide) (by decide) (by decide) (by decide) (by decide)
  rw [a_flS, a_b4, tkN_r (by decide) (by decide) (by decide), a_b3, tkN_r (by decide) (by decide) (by decide), cfl_b2, a_part, e18, if_neg ha, e27]
/-- rows of flights -/
theorem cfl_f {j : Nat} (h1 : 36 ≤ j) : (a_flS S L m y p).2 j = (a_plan S L m y p).2 j := by
  rw [cfl_r (by omega) (by omega) (by omega) (by omega), b1_hi h1]
end FL
