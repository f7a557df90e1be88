theorem lmn_mem : ∀ {l : List Nat}, ¬ l = [] → lmn l ∈ l
  | [], h => absurd rfl h
  | a :: l, _ => by
    have key : ∀ (l : List Nat) (a : Nat), l.foldl min a = a ∨ l.foldl min a ∈ l := by
      intro l
      induction l with
      | nil => intro a; exact Or.inl rfl
      | cons b l ih =>
        intro a
        rw [List.foldl_cons]
        rcases ih (min a b) with z | z
        · rw [z]
          rcases Nat.le_total a b with q | q
          · exact Or.inl (Nat.min_eq_left q)
          · rw [Nat.min_eq_right q]
            exact Or.inr List.mem_cons_self
        · exact Or.inr (List.mem_cons_of_mem _ z)
    show l.foldl min a ∈ a :: l
    rcases key l a with z | z
    · rw [z]
      exact List.mem_cons_self
    · exact List.mem_cons_of_mem _ z
theorem KR.memIn {G : Nat → Nat} {O : Nat → Prop} {ad : Nat → Nat → Nat} {S X : MS} {L : Nat → List Nat} {wn : Nat → Option Nat} {sl : Nat → Nat} {fl : Nat} {h : AH} (hK : KR G O ad S X L wn sl fl h) {r y : Nat} (hr : r < 8 + (L 1).length) (he : ek r = 6) (hy : y ∈ L r) : y < (L 3).length := by
  obtain ⟨k, hk⟩ := List.getElem?_of_mem hy
  exact hK.mem6 hr he hk
def a_lst (l1 l2 : List Nat) : Nat := if l1 = [] then lmn l2 else if l2 = [] then lmn l1 else min (lmn l1) (lmn l2)
def a_ptS (S : MS) (q a : Int32) (l1 l2 : List Nat) : MS := (gsN (gsN S q a l1 l1.length).1 q a l2 l2.length).1
def a_ptG (S : MS) (q a : Int32) (l1 l2 : List Nat) : Int32 := (gsN S q a l1 l1.length).2 + (gsN (gsN S q a l1 l1.length).1 q a l2 l2.length).2
def a_part (S : MS) (q : Int32) (l1 l2 : List Nat) : MS := if 0 < lsum (S.2 18) l1 + lsum (S.2 18) l2 then ((a_ptS S q (lsum (S.2 18) l1 + lsum (S.2 18) l2) l1 l2).1, u2 (a_ptS S q (lsum (S.2 18) l1 + lsum (S.2 18) l2) l1 l2).2 27 (a_lst l1 l2) ((a_ptS S q (lsum (S.2 18) l1 + lsum (S.2 18) l2) l1 l2).2 27 (a_lst l1 l2) + (q - a_ptG S q (lsum (S.2 18) l1 + lsum (S.2 18) l2) l1 l2))) else S
theorem c_partA {G : Nat → Nat} {O : Nat → Prop} {ad : Nat → Nat → Nat} {S X : MS} {L : Nat → List Nat} {wn : Nat → Option Nat} {sl : Nat → Nat} {fl : Nat} {h h0 : AH} {d : Nat} {r : Nat} {q : Int32} (hK : KR G O ad S X L wn sl fl h) (hF : KF O h0 h) (hr : r < 8 + (L 1).length) (hek : ek r = 6) (hlen : (L r).length ≤ 80) (hb5 : (L 5).length ≤ 80) (hb3 : (L 3).length ≤ 80) (n1 : ¬ L r = []) (n2 : ¬ L 5 = []) : Ct Y_X11_partMinutes (d + 4) G 0 0 [.int q, .ref (ad 1 r), .ref (ad 1 5)] h (fun r2 h2 => r2 = none ∧ KR G O ad (a_part S q (L r) (L 5)) X L wn sl fl h2 ∧ KF O h0 h2) := by
  refine Ct.ofn 3 rfl (Nat.le_of_ble_eq_true rfl) (by simp [Value.category]) ?_
  generalize hpost : (fun (r2 : Option Value) (h2 : AH) => r2 = none ∧ KR G O ad (a_part S q (L r) (L 5)) X L wn sl fl h2 ∧ KF O h0 h2) = post
  show J Y_X11_partMinutes (d + 4) G 0 0 0 [some (.int q), some (.ref (ad 1 r)), some (.ref (ad 1 5)), none, none, none] [] h post
  refine J.aload_n 1 dX11_partMinutes_0 rfl rfl ?_
  refine cs_X11_195 rfl 4 (c_weightOf (r := r) hK hr hek (by omega)) dX11_partMinutes_1 rfl rfl rfl (Nat.le_of_ble_eq_true rfl) (Nat.zero_le _) (Nat.zero_le _) (fun r h2 hp => ?_)
  obtain ⟨rfl, rfl⟩ := hp
  refine J.aload_n 5 dX11_partMinutes_4 rfl rfl ?_
  refine cs_X11_195 rfl 8 (c_weightOf (r := 5) hK (by omega) rfl (by omega)) dX11_partMinutes_5 rfl rfl rfl (Nat.le_of_ble_eq_true rfl) (Nat.zero_le _) (Nat.zero_le _) (fun r h2 hp => ?_)
  obtain ⟨rfl, rfl⟩ := hp
  refine J.iadd 9 dX11_partMinutes_8 rfl ?_
  refine J.ist_3 10 dX11_partMinutes_9 rfl (by decide) ?_
  refine J.iload_n 11 dX11_partMinutes_10 rfl rfl ?_
  refine J.if_gt 15 14 dX11_partMinutes_11 (by decide) rfl (fun c1 => ?_) (fun c1 => ?_)
  · skip
    have hpos := c1
    have hnz : ¬ (lsum (S.2 18) (L r) + lsum (S.2 18) (L 5)) = 0 := fun z => by rw [z] at hpos; exact absurd hpos (by decide)
    refine J.aload_n 16 dX11_partMinutes_15 rfl rfl ?_
    refine J.iload_n 17 dX11_partMinutes_16 rfl rfl ?_
    refine J.iload_n 18 dX11_partMinutes_17 rfl rfl ?_
    refine cs_X11_378 rfl 21 (c_give (h0 := h0) (r := r) (q := q) (a := (lsum (S.2 18) (L r) + lsum (S.2 18) (L 5))) hK hF hr hek (by omega) hnz) dX11_partMinutes_18 rfl rfl rfl (Nat.le_of_ble_eq_true rfl) (Nat.zero_le _) (Nat.zero_le _) (fun r h hp => ?_)
    obtain ⟨rfl, hK, hF⟩ := hp
    refine J.aload_n 22 dX11_partMinutes_21 rfl rfl ?_
    refine J.iload_n 23 dX11_partMinutes_22 rfl rfl ?_
    refine J.iload_n 24 dX11_partMinutes_23 rfl rfl ?_
    refine cs_X11_378 rfl 27 (c_give (h0 := h0) (r := 5) (q := q) (a := (lsum (S.2 18) (L r) + lsum (S.2 18) (L 5))) hK hF (by omega) rfl (by omega) hnz) dX11_partMinutes_24 rfl rfl rfl (Nat.le_of_ble_eq_true rfl) (Nat.zero_le _) (Nat.zero_le _) (fun r h hp => ?_)
    obtain ⟨rfl, hK, hF⟩ := hp
    refine J.iadd 28 dX11_partMinutes_27 rfl ?_
    refine J.ist_4 30 dX11_partMinutes_28 rfl (by decide) ?_
    refine J.aload_n 31 dX11_partMinutes_30 rfl rfl ?_
    refine cs_X11_382 rfl 34 (c_least (r := r) hK hr hek (by omega) hb3 (List.length_pos_iff.mpr n1)) dX11_partMinutes_31 rfl rfl rfl (Nat.le_of_ble_eq_true rfl) (Nat.zero_le _) (Nat.zero_le _) (fun r h2 hp => ?_)
    obtain ⟨rfl, rfl⟩ := hp
    refine J.aload_n 35 dX11_partMinutes_34 rfl rfl ?_
    refine cs_X11_382 rfl 38 (c_least (r := 5) hK (by omega) rfl (by omega) hb3 (List.length_pos_iff.mpr n2)) dX11_partMinutes_35 rfl rfl rfl (Nat.le_of_ble_eq_true rfl) (Nat.zero_le _) (Nat.zero_le _) (fun r h2 hp => ?_)
    obtain ⟨rfl, rfl⟩ := hp
    have el : min (lmn (L r)) (lmn (L 5)) = a_lst (L r) (L 5) := by rw [a_lst, if_neg n1, if_neg n2]
    have kl := c_less (d := d + 3) (x := lmn (L r)) (y := lmn (L 5)) hK (hK.memIn hr hek (lmn_mem n1)) (hK.memIn (by omega) rfl (lmn_mem n2)) hb3
    rw [el] at kl
    have hlt : a_lst (L r) (L 5) < (L 3).length := by rw [← el]; have := hK.memIn hr hek (lmn_mem n1); omega
    refine cs_X11_386 rfl 41 kl dX11_partMinutes_38 rfl rfl rfl (Nat.le_of_ble_eq_true rfl) (Nat.zero_le _) (Nat.zero_le _) (fun r h2 hp => ?_)
    obtain ⟨rfl, rfl⟩ := hp
    refine J.ast_5 43 dX11_partMinutes_41 rfl (by decide) ?_
    refine J.aload 45 dX11_partMinutes_43 rfl rfl ?_
    refine J.ifnullR 48 dX11_partMinutes_45 rfl ?_
    refine J.aload 50 dX11_partMinutes_48 rfl rfl ?_
    refine J.dup 51 dX11_partMinutes_50 rfl rfl ?_
    refine gf_X11_227 rfl 54 dX11_partMinutes_51 rfl (hK.load hlt) (v := .int (((gsN ((gsN S q (lsum (S.2 18) (L r) + lsum (S.2 18) (L 5)) (L r) (L r).length).1) q (lsum (S.2 18) (L r) + lsum (S.2 18) (L 5)) (L 5) (L 5).length).1).2 27 (a_lst (L r) (L 5)))) rfl ?_
    refine J.iload_n 55 dX11_partMinutes_54 rfl rfl ?_
    refine J.iload 57 dX11_partMinutes_55 rfl rfl ?_
    refine J.isub 58 dX11_partMinutes_57 rfl ?_
    refine J.iadd 59 dX11_partMinutes_58 rfl ?_
    refine pf_X11_227 rfl 62 dX11_partMinutes_59 rfl (hK.load hlt) (Nat.le_of_ble_eq_true rfl) ?_
    refine ks_6_12 hlt hK hF (fun h hK hF => ?_)
    exact J.vret dX11_partMinutes_62 rfl (by rw [← hpost]; exact ⟨rfl, by rw [a_part, if_pos hpos]; exact hK, hF⟩)
  · skip
    have hpos := c1
    exact J.vret dX11_partMinutes_14 rfl (by rw [← hpost]; exact ⟨rfl, by rw [a_part, if_neg hpos]; exact hK, hF⟩)
theorem c_partB {G : Nat → Nat} {O : Nat → Prop} {ad : Nat → Nat → Nat} {S X : MS} {L : Nat → List Nat} {wn : Nat → Option Nat} {sl : Nat → Nat} {fl : Nat} {h h0 : AH} {d : Nat} {r : Nat} {q : Int32} (hK : KR G O ad S X L wn sl fl h) (hF : KF O h0 h) (hr : r < 8 + (L 1).length) (hek : ek r = 6) (hlen : (L r).length ≤ 80) (hb5 : (L 5).length ≤ 80) (hb3 : (L 3).length ≤ 80) (n1 : ¬ L r = []) (n2 : L 5 = []) : Ct Y_X11_partMinutes (d + 4) G 0 0 [.int q, .ref (ad 1 r), .ref (ad 1 5)] h (fun r2 h2 => r2 = none ∧ KR G O ad (a_part S q (L r) (L 5)) X L wn sl fl h2 ∧ KF O h0 h2) := by
  refine Ct.ofn 3 rfl (Nat.le_of_ble_eq_true rfl) (by simp [Value.category]) ?_
  generalize hpost : (fun (r2 : Option Value) (h2 : AH) => r2 = none ∧ KR G O ad (a_part S q (L r) (L 5)) X L wn sl fl h2 ∧ KF O h0 h2) = post
  show J Y_X11_partMinutes (d + 4) G 0 0 0 [some (.int q), some (.ref (ad 1 r)), some (.ref (ad 1 5)), none, none, none] [] h post
  refine J.aload_n 1 dX11_partMinutes_0 rfl rfl ?_
  refine cs_X11_195 rfl 4 (c_weightOf (r := r) hK hr hek (by omega)) dX11_partMinutes_1 rfl rfl rfl (Nat.le_of_ble_eq_true rfl) (Nat.zero_le _) (Nat.zero_le _) (fun r h2 hp => ?_)
  obtain ⟨rfl, rfl⟩ := hp
  refine J.aload_n 5 dX11_partMinutes_4 rfl rfl ?_
  refine cs_X11_195 rfl 8 (c_weightOf (r := 5) hK (by omega) rfl (by omega)) dX11_partMinutes_5 rfl rfl rfl (Nat.le_of_ble_eq_true rfl) (Nat.zero_le _) (Nat.zero_le _) (fun r h2 hp => ?_)
  obtain ⟨rfl, rfl⟩ := hp
  refine J.iadd 9 dX11_partMinutes_8 rfl ?_
  refine J.ist_3 10 dX11_partMinutes_9 rfl (by decide) ?_
  refine J.iload_n 11 dX11_partMinutes_10 rfl rfl ?_
  refine J.if_gt 15 14 dX11_partMinutes_11 (by decide) rfl (fun c1 => ?_) (fun c1 => ?_)
  · skip
    have hpos := c1
    have hnz : ¬ (lsum (S.2 18) (L r) + lsum (S.2 18) (L 5)) = 0 := fun z => by rw [z] at hpos; exact absurd hpos (by decide)
    refine J.aload_n 16 dX11_partMinutes_15 rfl rfl ?_
    refine J.iload_n 17 dX11_partMinutes_16 rfl rfl ?_
    refine J.iload_n 18 dX11_partMinutes_17 rfl rfl ?_
    refine cs_X11_378 rfl 21 (c_give (h0 := h0) (r := r) (q := q) (a := (lsum (S.2 18) (L r) + lsum (S.2 18) (L 5))) hK hF hr hek (by omega) hnz) dX11_partMinutes_18 rfl rfl rfl (Nat.le_of_ble_eq_true rfl) (Nat.zero_le _) (Nat.zero_le _) (fun r h hp => ?_)
    obtain ⟨rfl, hK, hF⟩ := hp
    refine J.aload_n 22 dX11_partMinutes_21 rfl rfl ?_
    refine J.iload_n 23 dX11_partMinutes_22 rfl rfl ?_
    refine J.iload_n 24 dX11_partMinutes_23 rfl rfl ?_
    refine cs_X11_378 rfl 27 (c_give (h0 := h0) (r := 5) (q := q) (a := (lsum (S.2 18) (L r) + lsum (S.2 18) (L 5))) hK hF (by omega) rfl (by omega) hnz) dX11_partMinutes_24 rfl rfl rfl (Nat.le_of_ble_eq_true rfl) (Nat.zero_le _) (Nat.zero_le _) (fun r h hp => ?_)
    obtain ⟨rfl, hK, hF⟩ := hp
    refine J.iadd 28 dX11_partMinutes_27 rfl ?_
    refine J.ist_4 30 dX11_partMinutes_28 rfl (by decide) ?_
    refine J.aload_n 31 dX11_partMinutes_30 rfl rfl ?_
    refine cs_X11_382 rfl 34 (c_least (r := r) hK hr hek (by omega) hb3 (List.length_pos_iff.mpr n1)) dX11_partMinutes_31 rfl rfl rfl (Nat.le_of_ble_eq_true rfl) (Nat.zero_le _) (Nat.zero_le _) (fun r h2 hp => ?_)
    obtain ⟨rfl, rfl⟩ := hp
    refine J.aload_n 35 dX11_partMinutes_34 rfl rfl ?_
    refine cs_X11_382 rfl 38 (c_leastE (r := 5) hK (by omega) n2) dX11_partMinutes_35 rfl rfl rfl (Nat.le_of_ble_eq_true rfl) (Nat.zero_le _) (Nat.zero_le _) (fun r h2 hp => ?_)
    obtain ⟨rfl, rfl⟩ := hp
    have el : lmn (L r) = a_lst (L r) (L 5) := by rw [a_lst, if_neg n1, if_pos n2]
    have kl := c_lessR (d := d + 3) (x := lmn (L r)) hK
    rw [el] at kl ⊢
    have hlt : a_lst (L r) (L 5) < (L 3).length := by rw [← el]; exact hK.memIn hr hek (lmn_mem n1)
    refine cs_X11_386 rfl 41 kl dX11_partMinutes_38 rfl rfl rfl (Nat.le_of_ble_eq_true rfl) (Nat.zero_le _) (Nat.zero_le _) (fun r h2 hp => ?_)
    obtain ⟨rfl, rfl⟩ := hp
    refine J.ast_5 43 dX11_partMinutes_41 rfl (by decide) ?_
    refine J.aload 45 dX11_partMinutes_43 rfl rfl ?_
    refine J.ifnullR 48 dX11_partMinutes_45 rfl ?_
    refine J.aload 50 dX11_partMinutes_48 rfl rfl ?_
    refine J.dup 51 dX11_partMinutes_50 rfl rfl ?_
    refine gf_X11_227 rfl 54 dX11_partMinutes_51 rfl (hK.load hlt) (v := .int (((gsN ((gsN S q (lsum (S.2 18) (L r) + lsum (S.2 18) (L 5)) (L r) (L r).length).1) q (lsum (S.2 18) (L r) + lsum (S.2 18) (L 5)) (L 5) (L 5).length).1).2 27 (a_lst (L r) (L 5)))) rfl ?_
    refine J.iload_n 55 dX11_partMinutes_54 rfl rfl ?_
    refine J.iload 57 dX11_partMinutes_55 rfl rfl ?_
    refine J.isub 58 dX11_partMinutes_57 rfl ?_
    refine J.iadd 59 dX11_partMinutes_58 rfl ?_
    refine pf_X11_227 rfl 62 dX11_partMinutes_59 rfl (hK.load hlt) (Nat.le_of_ble_eq_true rfl) ?_
    refine ks_6_12 hlt hK hF (fun h hK hF => ?_)
    exact J.vret dX11_partMinutes_62 rfl (by rw [← hpost]; exact ⟨rfl, by rw [a_part, if_pos hpos]; exact hK, hF⟩)
  · skip
    have hpos := c1
    exact J.vret dX11_partMinutes_14 rfl (by rw [← hpost]; exact ⟨rfl, by rw [a_part, if_neg hpos]; exact hK, hF⟩)
theorem c_partC {G : Nat → Nat} {O : Nat → Prop} {ad : Nat → Nat → Nat} {S X : MS} {L : Nat → List Nat} {wn : Nat → Option Nat} {sl : Nat → Nat} {fl : Nat} {h h0 : AH} {d : Nat} {r : Nat} {q : Int32} (hK : KR G O ad S X L wn sl fl h) (hF : KF O h0 h) (hr : r < 8 + (L 1).length) (hek : ek r = 6) (hlen : (L r).length ≤ 80) (hb5 : (L 5).length ≤ 80) (hb3 : (L 3).length ≤ 80) (n1 : L r = []) (n2 : ¬ L 5 = []) : Ct Y_X11_partMinutes (d + 4) G 0 0 [.int q, .ref (ad 1 r), .ref (ad 1 5)] h (fun r2 h2 => r2 = none ∧ KR G O ad (a_part S q (L r) (L 5)) X L wn sl fl h2 ∧ KF O h0 h2) := by
  refine Ct.ofn 3 rfl (Nat.le_of_ble_eq_true rfl) (by simp [Value.category]) ?_
  generalize hpost : (fun (r2 : Option Value) (h2 : AH) => r2 = none ∧ KR G O ad (a_part S q (L r) (L 5)) X L wn sl fl h2 ∧ KF O h0 h2) = post
  show J Y_X11_partMinutes (d + 4) G 0 0 0 [some (.int q), some (.ref (ad 1 r)), some (.ref (ad 1 5)), none, none, none] [] h post
  refine J.aload_n 1 dX11_partMinutes_0 rfl rfl ?_
  refine cs_X11_195 rfl 4 (c_weightOf (r := r) hK hr hek (by omega)) dX11_partMinutes_1 rfl rfl rfl (Nat.le_of_ble_eq_true rfl) (Nat.zero_le _) (Nat.zero_le _) (fun r h2 hp => ?_)
  obtain ⟨rfl, rfl⟩ := hp
  refine J.aload_n 5 dX11_partMinutes_4 rfl rfl ?_
  refine cs_X11_195 rfl 8 (c_weightOf (r := 5) hK (by omega) rfl (by omega)) dX11_partMinutes_5 rfl rfl rfl (Nat.le_of_ble_eq_true rfl) (Nat.zero_le _) (Nat.zero_le _) (fun r h2 hp => ?_)
  obtain ⟨rfl, rfl⟩ := hp
  refine J.iadd 9 dX11_partMinutes_8 rfl ?_
  refine J.ist_3 10 dX11_partMinutes_9 rfl (by decide) ?_
  refine J.iload_n 11 dX11_partMinutes_10 rfl rfl ?_
  refine J.if_gt 15 14 dX11_partMinutes_11 (by decide) rfl (fun c1 => ?_) (fun c1 => ?_)
  · skip
    have hpos := c1
    have hnz : ¬ (lsum (S.2 18) (L r) + lsum (S.2 18) (L 5)) = 0 := fun z => by rw [z] at hpos; exact absurd hpos (by decide)
    refine J.aload_n 16 dX11_partMinutes_15 rfl rfl ?_
    refine J.iload_n 17 dX11_partMinutes_16 rfl rfl ?_
    refine J.iload_n 18 dX11_partMinutes_17 rfl rfl ?_
    refine cs_X11_378 rfl 21 (c_give (h0 := h0) (r := r) (q := q) (a := (lsum (S.2 18) (L r) + lsum (S.2 18) (L 5))) hK hF hr hek (by omega) hnz) dX11_partMinutes_18 rfl rfl rfl (Nat.le_of_ble_eq_true rfl) (Nat.zero_le _) (Nat.zero_le _) (fun r h hp => ?_)
    obtain ⟨rfl, hK, hF⟩ := hp
    refine J.aload_n 22 dX11_partMinutes_21 rfl rfl ?_
    refine J.iload_n 23 dX11_partMinutes_22 rfl rfl ?_
    refine J.iload_n 24 dX11_partMinutes_23 rfl rfl ?_
    refine cs_X11_378 rfl 27 (c_give (h0 := h0) (r := 5) (q := q) (a := (lsum (S.2 18) (L r) + lsum (S.2 18) (L 5))) hK hF (by omega) rfl (by omega) hnz) dX11_partMinutes_24 rfl rfl rfl (Nat.le_of_ble_eq_true rfl) (Nat.zero_le _) (Nat.zero_le _) (fun r h hp => ?_)
    obtain ⟨rfl, hK, hF⟩ := hp
    refine J.iadd 28 dX11_partMinutes_27 rfl ?_
    refine J.ist_4 30 dX11_partMinutes_28 rfl (by decide) ?_
    refine J.aload_n 31 dX11_partMinutes_30 rfl rfl ?_
    refine cs_X11_382 rfl 34 (c_leastE (r := r) hK hr n1) dX11_partMinutes_31 rfl rfl rfl (Nat.le_of_ble_eq_true rfl) (Nat.zero_le _) (Nat.zero_le _) (fun r h2 hp => ?_)
    obtain ⟨rfl, rfl⟩ := hp
    refine J.aload_n 35 dX11_partMinutes_34 rfl rfl ?_
    refine cs_X11_382 rfl 38 (c_least (r := 5) hK (by omega) rfl (by omega) hb3 (List.length_pos_iff.mpr n2)) dX11_partMinutes_35 rfl rfl rfl (Nat.le_of_ble_eq_true rfl) (Nat.zero_le _) (Nat.zero_le _) (fun r h2 hp => ?_)
    obtain ⟨rfl, rfl⟩ := hp
    have el : lmn (L 5) = a_lst (L r) (L 5) := by rw [a_lst, if_pos n1]
    have kl := c_lessN (d := d + 3) (y := lmn (L 5)) hK
    rw [el] at kl ⊢
    have hlt : a_lst (L r) (L 5) < (L 3).length := by rw [← el]; exact hK.memIn (by omega) rfl (lmn_mem n2)
    refine cs_X11_386 rfl 41 kl dX11_partMinutes_38 rfl rfl rfl (Nat.le_of_ble_eq_true rfl) (Nat.zero_le _) (Nat.zero_le _) (fun r h2 hp => ?_)
    obtain ⟨rfl, rfl⟩ := hp
    refine J.ast_5 43 dX11_partMinutes_41 rfl (by decide) ?_
    refine J.aload 45 dX11_partMinutes_43 rfl rfl ?_
    refine J.ifnullR 48 dX11_partMinutes_45 rfl ?_
    refine J.aload 50 dX11_partMinutes_48 rfl rfl ?_
    refine J.dup 51 dX11_partMinutes_50 rfl rfl ?_
    refine gf_X11_227 rfl 54 dX11_partMinutes_51 rfl (hK.load hlt) (v := .int (((gsN ((gsN S q (lsum (S.2 18) (L r) + lsum (S.2 18) (L 5)) (L r) (L r).length).1) q (lsum (S.2 18) (L r) + lsum (S.2 18) (L 5)) (L 5) (L 5).length).1).2 27 (a_lst (L r) (L 5)))) rfl ?_
    refine J.iload_n 55 dX11_partMinutes_54 rfl rfl ?_
    refine J.iload 57 dX11_partMinutes_55 rfl rfl ?_
    refine J.isub 58 dX11_partMinutes_57 rfl ?_
    refine J.iadd 59 dX11_partMinutes_58 rfl ?_
    refine pf_X11_227 rfl 62 dX11_partMinutes_59 rfl (hK.load hlt) (Nat.le_of_ble_eq_true rfl) ?_
    refine ks_6_12 hlt hK hF (fun h hK hF => ?_)
    exact J.vret dX11_partMinutes_62 rfl (by rw [← hpost]; exact ⟨rfl, by rw [a_part, if_pos hpos]; exact hK, hF⟩)
  · skip
    have hpos := c1
    exact J.vret dX11_partMinutes_14 rfl (by rw [← hpost]; exact ⟨rfl, by rw [a_part, if_neg hpos]; exact hK, hF⟩)
theorem c_partD {G : Nat → Nat} {O : Nat → Prop} {ad : Nat → Nat → Nat} {S X : MS} {L : Nat → List Nat} {wn : Nat → Option Nat} {sl : Nat → Nat} {fl : Nat} {h h0 : AH} {d : Nat} {r : Nat} {q : Int32} (hK : KR G O ad S X L wn sl fl h) (hF : KF O h0 h) (hr : r < 8 + (L 1).length) (hek : ek r = 6) (hlen : (L r).length ≤ 80) (hb5 : (L 5).length ≤ 80) (hb3 : (L 3).length ≤ 80) (n1 : L r = []) (n2 : L 5 = []) : Ct Y_X11_partMinutes (d + 4) G 0 0 [.int q, .ref (ad 1 r), .ref (ad 1 5)] h (fun r2 h2 => r2 = none ∧ KR G O ad (a_part S q (L r) (L 5)) X L wn sl fl h2 ∧ KF O h0 h2) := by
  refine Ct.ofn 3 rfl (Nat.le_of_ble_eq_true rfl) (by simp [Value.category]) ?_
  generalize hpost : (fun (r2 : Option Value) (h2 : AH) => r2 = none ∧ KR G O ad (a_part S q (L r) (L 5)) X L wn sl fl h2 ∧ KF O h0 h2) = post
  show J Y_X11_partMinutes (d + 4) G 0 0 0 [some (.int q), some (.ref (ad 1 r)), some (.ref (ad 1 5)), none, none, none] [] h post
  refine J.aload_n 1 dX11_partMinutes_0 rfl rfl ?_
  refine cs_X11_195 rfl 4 (c_weightOf (r := r) hK hr hek (by omega)) dX11_partMinutes_1 rfl rfl rfl (Nat.le_of_ble_eq_true rfl) (Nat.zero_le _) (Nat.zero_le _) (fun r h2 hp => ?_)
  obtain ⟨rfl, rfl⟩ := hp
  refine J.aload_n 5 dX11_partMinutes_4 rfl rfl ?_
  refine cs_X11_195 rfl 8 (c_weightOf (r := 5) hK (by omega) rfl (by omega)) dX11_partMinutes_5 rfl rfl rfl (Nat.le_of_ble_eq_true rfl) (Nat.zero_le _) (Nat.zero_le _) (fun r h2 hp => ?_)
  obtain ⟨rfl, rfl⟩ := hp
  refine J.iadd 9 dX11_partMinutes_8 rfl ?_
  refine J.ist_3 10 dX11_partMinutes_9 rfl (by decide) ?_
  refine J.iload_n 11 dX11_partMinutes_10 rfl rfl ?_
  refine J.if_gt 15 14 dX11_partMinutes_11 (by decide) rfl (fun c1 => ?_) (fun c1 => ?_)
  · skip
    exact absurd c1 (by rw [n1, n2]; show ¬ (0 : Int32) < 0 + 0; decide)
  · skip
    have hpos := c1
    exact J.vret dX11_partMinutes_14 rfl (by rw [← hpost]; exact ⟨rfl, by rw [a_part, if_neg hpos]; exact hK, hF⟩)
theorem c_partM {G : Nat → Nat} {O : Nat → Prop} {ad : Nat → Nat → Nat} {S X : MS} {L : Nat → List Nat} {wn : Nat → Option Nat} {sl : Nat → Nat} {fl : Nat} {h h0 : AH} {d : Nat} {r : Nat} {q : Int32} (hK : KR G O ad S X L wn sl fl h) (hF : KF O h0 h) (hr : r < 8 + (L 1).length) (hek : ek r = 6) (hlen : (L r).length ≤ 80) (hb5 : (L 5).length ≤ 80) (hb3 : (L 3).length ≤ 80) : Ct Y_X11_partMinutes (d + 4) G 0 0 [.int q, .ref (ad 1 r), .ref (ad 1 5)] h (fun r2 h2 => r2 = none ∧ KR G O ad (a_part S q (L r) (L 5)) X L wn sl fl h2 ∧ KF O h0 h2) := by
  by_cases n1 : L r = []
  · by_cases n2 : L 5 = []
    · exact c_partD hK hF hr hek hlen hb5 hb3 n1 n2
    · exact c_partC hK hF hr hek hlen hb5 hb3 n1 n2
  · by_cases n2 : L 5 = []
    · exact c_partB hK hF hr hek hlen hb5 hb3 n1 n2
    · exact c_partA hK hF hr hek hlen hb5 hb3 n1 n2
def a_b1 (S : MS) (f : Nat) : MS := (S.1, u2 (u2 (u2 (u2 S.2 9 (S.2 36 f).toNatClampNeg ((S.2 9 (S.2 36 f).toNatClampNeg) - (S.2 42 f))) 10 (S.2 36 f).toNatClampNeg (S.2 41 f)) 15 (S.2 37 f).toNatClampNeg ((S.2 41 f) + (S.2 13 (S.2 37 f).toNatClampNeg))) 14 (S.2 37 f).toNatClampNeg ((S.2 14 (S.2 37 f).toNatClampNeg) + ((S.2 41 f) - (S.2 39 f))))
def a_b2 (S : MS) (L : Nat → List Nat) (f : Nat) : MS := a_part (a_b1 S f) (S.2 41 f - S.2 39 f) (L (8 + (S.2 36 f).toNatClampNeg)) (L 5)
def a_b3 (S X : MS) (L : Nat → List Nat) (f : Nat) : MS × MS := tkN (a_b2 S L f) X (L (8 + (S.2 36 f).toNatClampNeg)) (nI (L 4).length) ((a_b2 S L f).2 40 f) (L (8 + (S.2 36 f).toNatClampNeg)).length
def a_b4 (S X : MS) (L : Nat → List Nat) (f : Nat) : MS × MS := tkN (a_b3 S X L f).1 (a_b3 S X L f).2 (L 5) (nI (L 4).length) ((a_b3 S X L f).1.2 41 f) (L 5).length
theorem c_begin {G : Nat → Nat} {O : Nat → Prop} {ad : Nat → Nat → Nat} {S X : MS} {L : Nat → List Nat} {wn : Nat → Option Nat} {sl : Nat → Nat} {fl : Nat} {h h0 : AH} {d : Nat} {f : Nat} (hK : KR G O ad S X L wn sl fl h) (hF : KF O h0 h) (h1r : L 1 = List.range (L 1).length) (hb1 : (L 1).length ≤ 4) (h2r : L 2 = List.range (L 2).length) (hb2 : (L 2).length ≤ 6) (hlen : ∀ k, k < (L 1).length → (L (8 + k)).length ≤ 80) (hb5 : (L 5).length ≤ 80) (hb3 : (L 3).length ≤ 80) (hb4 : (L 4).length ≤ 200) (hf : f < fl) (im : (S.2 36 f).toNatClampNeg < (L 1).length ∧ nI (S.2 36 f).toNatClampNeg = S.2 36 f) (iy : (S.2 37 f).toNatClampNeg < (L 2).length ∧ nI (S.2 37 f).toNatClampNeg = S.2 37 f) : Ct Y_X11_begin (d + 7) G 1 410 [.ref (ad 0 0), .ref (ad 7 f)] h (fun r h2 => r = none ∧ KR G O ad (a_b4 S X L f).1 (a_b4 S X L f).2 (lset (lset L (8 + (S.2 36 f).toNatClampNeg) []) 4 (L 4 ++ [f])) wn sl fl h2 ∧ KF O h0 h2) := by
  refine Ct.ofn 2 rfl (Nat.le_of_ble_eq_true rfl) (by simp [Value.category]) ?_
  generalize hpost : (fun (r : Option Value) (h2 : AH) => r = none ∧ KR G O ad (a_b4 S X L f).1 (a_b4 S X L f).2 (lset (lset L (8 + (S.2 36 f).toNatClampNeg) []) 4 (L 4 ++ [f])) wn sl fl h2 ∧ KF O h0 h2) = post
  show J Y_X11_begin (d + 7) G 1 410 0 [some (.ref (ad 0 0)), some (.ref (ad 7 f)), none, none] [] h post
  refine J.aload_n 1 dX11_begin_0 rfl rfl ?_
  refine gf_X11_16 rfl 4 dX11_begin_1 rfl (hK.hut) (v := .ref (ad 1 1)) rfl ?_
  refine J.aload_n 5 dX11_begin_4 rfl rfl ?_
  refine gf_X11_232 rfl 8 dX11_begin_5 rfl (hK.flt hf) (v := .int (S.2 36 f)) rfl ?_
  have kg := hK.get (d := d + 4) (r := 1) (i := (S.2 36 f).toNatClampNeg) (by omega) (rng_get h1r im.1)
  rw [im.2] at kg
  refine cv_X11_132 rfl 11 kg dX11_begin_8 rfl (hK.listOb (r := 1) (by omega)).choose_spec rfl rfl (Nat.le_of_ble_eq_true rfl) (Nat.zero_le _) (Nat.zero_le _) (fun r h2 hp => ?_)
  obtain ⟨rfl, rfl⟩ := hp
  refine cc_X11_83 rfl 14 dX11_begin_11 rfl (hK.mach im.1) ?_
  refine J.ast_2 15 dX11_begin_14 rfl (by decide) ?_
  refine J.aload_n 16 dX11_begin_15 rfl rfl ?_
  refine gf_X11_19 rfl 19 dX11_begin_16 rfl (hK.hut) (v := .ref (ad 1 2)) rfl ?_
  refine J.aload_n 20 dX11_begin_19 rfl rfl ?_
  refine gf_X11_233 rfl 23 dX11_begin_20 rfl (hK.flt hf) (v := .int (S.2 37 f)) rfl ?_
  have kg := hK.get (d := d + 4) (r := 2) (i := (S.2 37 f).toNatClampNeg) (by omega) (rng_get h2r iy.1)
  rw [iy.2] at kg
  refine cv_X11_132 rfl 26 kg dX11_begin_23 rfl (hK.listOb (r := 2) (by omega)).choose_spec rfl rfl (Nat.le_of_ble_eq_true rfl) (Nat.zero_le _) (Nat.zero_le _) (fun r h2 hp => ?_)
  obtain ⟨rfl, rfl⟩ := hp
  refine cc_X11_88 rfl 29 dX11_begin_26 rfl (hK.pil iy.1) ?_
  refine J.ast_3 30 dX11_begin_29 rfl (by decide) ?_
  refine J.aload_n 31 dX11_begin_30 rfl rfl ?_
  refine J.dup 32 dX11_begin_31 rfl rfl ?_
  refine gf_X11_188 rfl 35 dX11_begin_32 rfl (hK.mach im.1) (v := .int (S.2 9 ((S.2 36 f).toNatClampNeg))) rfl ?_
  refine J.aload_n 36 dX11_begin_35 rfl rfl ?_
  refine gf_X11_247 rfl 39 dX11_begin_36 rfl (hK.flt hf) (v := .int (S.2 42 f)) rfl ?_
  refine J.isub 40 dX11_begin_39 rfl ?_
  refine pf_X11_188 rfl 43 dX11_begin_40 rfl (hK.mach im.1) (Nat.le_of_ble_eq_true rfl) ?_
  refine ks_4_3 im.1 hK hF (fun h hK hF => ?_)
  refine J.aload_n 44 dX11_begin_43 rfl rfl ?_
  refine J.aload_n 45 dX11_begin_44 rfl rfl ?_
  refine gf_X11_244 rfl 48 dX11_begin_45 rfl (hK.flt hf) (v := .int (S.2 41 f)) rfl ?_
  refine pf_X11_147 rfl 51 dX11_begin_48 rfl (hK.mach im.1) (Nat.le_of_ble_eq_true rfl) ?_
  refine ks_4_4 im.1 hK hF (fun h hK hF => ?_)
  refine J.aload_n 52 dX11_begin_51 rfl rfl ?_
  refine J.aload_n 53 dX11_begin_52 rfl rfl ?_
  refine gf_X11_244 rfl 56 dX11_begin_53 rfl (hK.flt hf) (v := .int (S.2 41 f)) rfl ?_
  refine J.aload_n 57 dX11_begin_56 rfl rfl ?_
  refine gf_X11_364 rfl 60 dX11_begin_57 rfl (hK.pil iy.1) (v := .int (S.2 13 ((S.2 37 f).toNatClampNeg))) rfl ?_
  refine J.iadd 61 dX11_begin_60 rfl ?_
  refine pf_X11_213 rfl 64 dX11_begin_61 rfl (hK.pil iy.1) (Nat.le_of_ble_eq_true rfl) ?_
  refine ks_5_3 iy.1 hK hF (fun h hK hF => ?_)
  refine J.aload_n 65 dX11_begin_64 rfl rfl ?_
  refine J.dup 66 dX11_begin_65 rfl rfl ?_
  refine gf_X11_210 rfl 69 dX11_begin_66 rfl (hK.pil iy.1) (v := .int (S.2 14 ((S.2 37 f).toNatClampNeg))) rfl ?_
  refine J.aload_n 70 dX11_begin_69 rfl rfl ?_
  refine gf_X11_244 rfl 73 dX11_begin_70 rfl (hK.flt hf) (v := .int (S.2 41 f)) rfl ?_
  refine J.aload_n 74 dX11_begin_73 rfl rfl ?_
  refine gf_X11_239 rfl 77 dX11_begin_74 rfl (hK.flt hf) (v := .int (S.2 39 f)) rfl ?_
  refine J.isub 78 dX11_begin_77 rfl ?_
  refine J.iadd 79 dX11_begin_78 rfl ?_
  refine pf_X11_210 rfl 82 dX11_begin_79 rfl (hK.pil iy.1) (Nat.le_of_ble_eq_true rfl) ?_
  refine ks_5_2 iy.1 hK hF (fun h hK hF => ?_)
  refine J.aload_n 83 dX11_begin_82 rfl rfl ?_
  refine gf_X11_244 rfl 86 dX11_begin_83 rfl (hK.flt hf) (v := .int (S.2 41 f)) rfl ?_
  refine J.aload_n 87 dX11_begin_86 rfl rfl ?_
  refine gf_X11_239 rfl 90 dX11_begin_87 rfl (hK.flt hf) (v := .int (S.2 39 f)) rfl ?_
  refine J.isub 91 dX11_begin_90 rfl ?_
  refine J.aload_n 92 dX11_begin_91 rfl rfl ?_
  refine gf_X11_160 rfl 95 dX11_begin_92 rfl (hK.mach im.1) (v := .ref (ad 1 (8 + (S.2 36 f).toNatClampNeg))) rfl ?_
  refine J.aload_n 96 dX11_begin_95 rfl rfl ?_
  refine gf_X11_63 rfl 99 dX11_begin_96 rfl (hK.hut) (v := .ref (ad 1 5)) rfl ?_
  change KR G O ad (a_b1 S f) X L wn sl fl h at hK
  refine cs_X11_367 rfl 102 (c_partM (h0 := h0) (r := 8 + (S.2 36 f).toNatClampNeg) (q := S.2 41 f - S.2 39 f) hK hF (by have := im.1; omega) (ek8 _) (hlen _ im.1) hb5 hb3) dX11_begin_99 rfl rfl rfl (Nat.le_of_ble_eq_true rfl) (Nat.zero_le _) (Nat.zero_le _) (fun r h hp => ?_)
  obtain ⟨rfl, hK, hF⟩ := hp
  change KR G O ad (a_b2 S L f) X L wn sl fl h at hK
  refine J.aload_n 103 dX11_begin_102 rfl rfl ?_
  refine gf_X11_160 rfl 106 dX11_begin_103 rfl (hK.mach im.1) (v := .ref (ad 1 (8 + (S.2 36 f).toNatClampNeg))) rfl ?_
  refine J.aload_n 107 dX11_begin_106 rfl rfl ?_
  refine gf_X11_25 rfl 110 dX11_begin_107 rfl (hK.hut) (v := .ref (ad 1 4)) rfl ?_
  refine cv_X11_79 rfl 113 (hK.size (r := 4) (by omega)) dX11_begin_110 rfl (hK.listOb (r := 4) (by omega)).choose_spec rfl rfl (Nat.le_of_ble_eq_true rfl) (Nat.zero_le _) (Nat.zero_le _) (fun r h2 hp => ?_)
  obtain ⟨rfl, rfl⟩ := hp
  refine J.aload_n 114 dX11_begin_113 rfl rfl ?_
  refine gf_X11_241 rfl 117 dX11_begin_114 rfl (hK.flt hf) (v := .int ((a_b2 S L f).2 40 f)) rfl ?_
  refine cs_X11_371 rfl 120 (c_along (h0 := h0) (r := 8 + (S.2 36 f).toNatClampNeg) (f := nI (L 4).length) (t := (a_b2 S L f).2 40 f) hK hF (by have := im.1; omega) (ek8 _) (by have := hlen _ im.1; omega)) dX11_begin_117 rfl rfl rfl (Nat.le_of_ble_eq_true rfl) (Nat.zero_le _) (Nat.zero_le _) (fun r h hp => ?_)
  obtain ⟨rfl, hK, hF⟩ := hp
  change KR G O ad (a_b3 S X L f).1 (a_b3 S X L f).2 L wn sl fl h at hK
  refine J.aload_n 121 dX11_begin_120 rfl rfl ?_
  refine gf_X11_63 rfl 124 dX11_begin_121 rfl (hK.hut) (v := .ref (ad 1 5)) rfl ?_
  refine J.aload_n 125 dX11_begin_124 rfl rfl ?_
  refine gf_X11_25 rfl 128 dX11_begin_125 rfl (hK.hut) (v := .ref (ad 1 4)) rfl ?_
  refine cv_X11_79 rfl 131 (hK.size (r := 4) (by omega)) dX11_begin_128 rfl (hK.listOb (r := 4) (by omega)).choose_spec rfl rfl (Nat.le_of_ble_eq_true rfl) (Nat.zero_le _) (Nat.zero_le _) (fun r h2 hp => ?_)
  obtain ⟨rfl, rfl⟩ := hp
  refine J.aload_n 132 dX11_begin_131 rfl rfl ?_
  refine gf_X11_244 rfl 135 dX11_begin_132 rfl (hK.flt hf) (v := .int (((a_b3 S X L f).1).2 41 f)) rfl ?_
  refine cs_X11_371 rfl 138 (c_along (h0 := h0) (r := 5) (f := nI (L 4).length) (t := ((a_b3 S X L f).1).2 41 f) hK hF (by omega) rfl (by omega)) dX11_begin_135 rfl rfl rfl (Nat.le_of_ble_eq_true rfl) (Nat.zero_le _) (Nat.zero_le _) (fun r h hp => ?_)
  obtain ⟨rfl, hK, hF⟩ := hp
  change KR G O ad (a_b4 S X L f).1 (a_b4 S X L f).2 L wn sl fl h at hK
  refine J.aload_n 139 dX11_begin_138 rfl rfl ?_
  refine gf_X11_160 rfl 142 dX11_begin_139 rfl (hK.mach im.1) (v := .ref (ad 1 (8 + (S.2 36 f).toNatClampNeg))) rfl ?_
  refine J.neG (hK.listOb (r := 8 + (S.2 36 f).toNatClampNeg) (by have := im.1; omega)).choose_spec (fun hg => ?_)
  refine cv_X11_339 rfl 145 (hK.clear (h0 := h0) (r := 8 + (S.2 36 f).toNatClampNeg) hF (by have := im.1; omega) (by omega) hg) dX11_begin_142 rfl (hK.listOb (r := 8 + (S.2 36 f).toNatClampNeg) (by have := im.1; omega)).choose_spec rfl rfl (Nat.le_of_ble_eq_true rfl) (Nat.zero_le _) (Nat.zero_le _) (fun r h hp => ?_)
  obtain ⟨rfl, hK, hF⟩ := hp
  refine J.aload_n 146 dX11_begin_145 rfl rfl ?_
  refine gf_X11_25 rfl 149 dX11_begin_146 rfl (hK.hut) (v := .ref (ad 1 4)) rfl ?_
  refine J.aload_n 150 dX11_begin_149 rfl rfl ?_
  have ka := hK.add (M := 410) (d := d) (h0 := h0) (r := 4) (x := f) hF (by omega) (by omega) (by rw [lset_n (by omega)]; omega) (by rw [lset_n (by omega)]; omega) (show cs _ _ _ _ _ _ _ 7 _ ≠ none from by rw [cs_flt hf]; exact fun z => by cases z)
  rw [show ek 4 = 7 from rfl, show (lset L (8 + (S.2 36 f).toNatClampNeg) []) 4 = L 4 from lset_n (by omega)] at ka
  refine cv_X11_71 rfl 153 ka dX11_begin_150 rfl (hK.listOb (r := 4) (by omega)).choose_spec rfl rfl (Nat.le_of_ble_eq_true rfl) (by omega) (by omega) (fun r h hp => ?_)
  obtain ⟨rfl, hK, hF⟩ := hp
  refine J.pop 154 dX11_begin_153 rfl rfl ?_
  exact J.vret dX11_begin_154 rfl (by rw [← hpost]; exact ⟨rfl, hK, hF⟩)
