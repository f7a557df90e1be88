/-! ===== hang, off ===== -/
theorem fitN_iff {S : MS} {m l i : Int32} : ∀ n, ¬ r_fitN S m l i n = 0 ↔ ¬ i = 0 ∧ ∀ k ∈ hgF (S.2 23) (S.2 24) m n, S.2 17 k = S.2 17 l.toNatClampNeg ∧ ¬ (S.2 20 k = 3 ∨ S.2 20 k = 1) ∧ ¬ (S.2 20 l.toNatClampNeg = 3 ∨ S.2 20 l.toNatClampNeg = 1)
  | 0 => by
    rw [r_fitN]
    exact ⟨fun z => ⟨z, fun k hk => (by cases hk)⟩, fun z => z.1⟩
  | n + 1 => by
    have ih := fitN_iff (S := S) (m := m) (l := l) (i := i) n
    rw [r_fitN, hgF_s]
    by_cases h1 : S.2 23 n = 1
    · by_cases h2 : S.2 24 n = m
      · rw [if_pos h1, if_pos h2, if_pos (show S.2 23 n = 1 ∧ S.2 24 n = m from ⟨h1, h2⟩)]
        by_cases h3 : r_fitN S m l i n = 0
        · rw [if_pos h3]
          refine ⟨fun z => absurd rfl z, fun z => absurd h3 (ih.mpr ⟨z.1, fun k hk => z.2 k (List.mem_append_left _ hk)⟩)⟩
        · rw [if_neg h3]
          obtain ⟨i1, i2⟩ := ih.mp h3
          constructor
          · intro z
            refine ⟨i1, fun k hk => ?_⟩
            rcases List.mem_append.mp hk with q | q
            · exact i2 k q
            · rw [List.mem_singleton] at q
              subst q
              revert z
              by_cases a1 : S.2 17 k = S.2 17 l.toNatClampNeg
              · by_cases a2 : S.2 20 k = 1
                · rw [if_pos a1, if_pos a2]; exact fun z => absurd rfl z
                · by_cases a3 : S.2 20 k = 3
                  · rw [if_pos a1, if_neg a2, if_pos a3]; exact fun z => absurd rfl z
                  · by_cases a4 : S.2 20 l.toNatClampNeg = 1
                    · rw [if_pos a1, if_neg a2, if_neg a3, if_pos a4]; exact fun z => absurd rfl z
                    · by_cases a5 : S.2 20 l.toNatClampNeg = 3
                      · rw [if_pos a1, if_neg a2, if_neg a3, if_neg a4, if_pos a5]; exact fun z => absurd rfl z
                      · exact fun _ => ⟨a1, fun z => z.elim a3 a2, fun z => z.elim a5 a4⟩
              · rw [if_neg a1]; exact fun z => absurd rfl z
          · intro z
            obtain ⟨a1, a2, a3⟩ := z.2 n (List.mem_append_right _ (List.mem_singleton.mpr rfl))
            rw [if_pos a1, if_neg (fun q => a2 (Or.inr q)), if_neg (fun q => a2 (Or.inl q)), if_neg (fun q => a3 (Or.inr q)), if_neg (fun q => a3 (Or.inl q))]
            decide
      · rw [if_pos h1, if_neg h2, if_neg (fun z => h2 z.2)]
        exact ih
    · rw [if_neg h1, if_neg (fun z => h1 z.1)]
      exact ih
theorem fit0_iff {S : MS} {n : Nat} {m l : Int32} : ¬ r_fit0 S n m l = 0 ↔ ¬ S.1 0 < S.2 10 m.toNatClampNeg ∧ (S.2 23 l.toNatClampNeg = 0 ∧ S.2 21 l.toNatClampNeg ≤ S.1 0 ∧ ¬ S.2 20 l.toNatClampNeg = 4) ∧ ¬ 9 < r_hangN S m 114 n + S.2 19 l.toNatClampNeg := by
  rw [r_fit0]
  by_cases a1 : S.1 0 < S.2 10 m.toNatClampNeg
  · rw [if_pos a1]; exact ⟨fun z => absurd rfl z, fun z => absurd a1 z.1⟩
  · rw [if_neg a1]
    by_cases a2 : S.2 23 l.toNatClampNeg = 0
    · rw [if_pos a2]
      by_cases a3 : S.1 0 < S.2 21 l.toNatClampNeg
      · rw [if_pos a3]; exact ⟨fun z => absurd rfl z, fun z => absurd a3 (Int32.not_lt.mpr z.2.1.2.1)⟩
      · rw [if_neg a3]
        by_cases a4 : S.2 20 l.toNatClampNeg = 4
        · rw [if_pos a4]; exact ⟨fun z => absurd rfl z, fun z => absurd a4 z.2.1.2.2⟩
        · rw [if_neg a4]
          by_cases a5 : 9 < r_hangN S m 114 n + S.2 19 l.toNatClampNeg
          · rw [if_pos a5]; exact ⟨fun z => absurd rfl z, fun z => absurd a5 z.2.2⟩
          · rw [if_neg a5]; exact ⟨fun _ => ⟨a1, ⟨a2, Int32.not_lt.mp a3, a4⟩, a5⟩, fun _ => by decide⟩
    · rw [if_neg a2]; exact ⟨fun z => absurd rfl z, fun z => absurd z.2.1.1 a2⟩
theorem hd0_mem {l : List Nat} (h : ¬ l = []) : hd0 l ∈ l := by
  cases l with
  | nil => exact absurd rfl h
  | cons a r => exact List.mem_cons_self
section HG
variable {G : Nat → Nat} {x0 m0 : Nat} {adm : Nat → Nat} {S X : MS} {L : Nat → List Nat} {wn : Nat → Option Nat} {sl : Nat → Nat} {fl : Nat} {ad : Nat → Nat → Nat} {h : AH}
theorem Inv.fit {m l : Int32} (hI : Inv S X L wn sl fl) (hm : 0 ≤ m ∧ m < nI (L 1).length) (hl : 0 ≤ l ∧ l < nI (L 3).length) : (¬ r_fitN S m l (r_fit0 S (L 3).length m l) (L 3).length = 0) ↔ (¬ S.1 0 < S.2 10 m.toNatClampNeg ∧ (S.2 23 l.toNatClampNeg = 0 ∧ S.2 21 l.toNatClampNeg ≤ S.1 0 ∧ ¬ S.2 20 l.toNatClampNeg = 4) ∧ (tkB S (L (8 + m.toNatClampNeg)) l.toNatClampNeg = true)) := by
  obtain ⟨i1, i2⟩ := idx_of hm (show (L 1).length ≤ 100000 by have := hI.co.b1; omega)
  obtain ⟨j1, j2⟩ := idx_of hl (show (L 3).length ≤ 100000 by have := hI.co.b3; omega)
  have hp := hI.ha.perm i1
  rw [i2] at hp
  have hp : (L (8 + m.toNatClampNeg)).Perm (hgF (S.2 23) (S.2 24) m (L 3).length) := hp
  obtain ⟨r, er, r1, r9⟩ := hI.lo.ro _ j1
  obtain ⟨k, k9, ek, kl⟩ := hI.ha.ro _ i1
  have ek : lsum (S.2 19) (L (8 + m.toNatClampNeg)) = nI k := ek
  rw [fitN_iff, fit0_iff, (hI.hn hm).2.2.1, tkB, decide_eq_true_iff]
  constructor
  · rintro ⟨⟨a1, a2, a3⟩, b⟩
    refine ⟨a1, a2, fun hne => ?_⟩
    have b2 := b (hd0 (L (8 + m.toNatClampNeg))) (hp.mem_iff.mp (hd0_mem hne))
    exact ⟨b2.2.2, b2.2.1, b2.1, Int32.not_lt.mp a3⟩
  · rintro ⟨a1, a2, a3⟩
    by_cases hne : L (8 + m.toNatClampNeg) = []
    · refine ⟨⟨a1, a2, ?_⟩, fun x hx => ?_⟩
      · rw [hne, er]
        exact fun z => by
          rw [show lsum (S.2 19) [] = nI 0 from rfl, nI_add] at z
          have := (nI_ltI (a := 9) (by decide) (by omega)).mp z
          omega
      · rw [hne] at hp
        rw [hp.symm.eq_nil] at hx
        cases hx
    · obtain ⟨c1, c2, c3, c4⟩ := a3 hne
      refine ⟨⟨a1, a2, Int32.not_lt.mpr c4⟩, fun x hx => ?_⟩
      have hx2 : x ∈ L (8 + m.toNatClampNeg) := hp.mem_iff.mpr hx
      refine ⟨(hI.ha.pl _ i1 x hx2 _ (hd0_mem hne)).trans c3, ?_, c1⟩
      by_cases q : x = hd0 (L (8 + m.toNatClampNeg))
      · rw [q]; exact c2
      · exact hI.ha.al _ i1 x hx2 _ (hd0_mem hne) q
theorem hagS {L : Nat → List Nat} {m : Nat} {v : List Nat} : (fun k => lset L (8 + m) v (8 + k)) = (fun k => if k = m then v else L (8 + k)) := by
  funext k
  by_cases e : k = m
  · rw [if_pos e, e, lset_s]
  · rw [if_neg e, lset_n (by omega)]
theorem IHa.put {pl ro ki st on : Nat → Int32} {H : Nat → List Nat} {nm nl m l : Nat} (h : IHa pl ro ki st on H nm nl) (hm : m < nm) (hb : nm ≤ 100000) (hl : l < nl) (h0 : st l = 0) (h4 : ki l ≠ 4) (hr : ∃ r, ro l = nI r ∧ 1 ≤ r ∧ r ≤ 9) (ht : ¬ H m = [] → ¬ (ki l = 3 ∨ ki l = 1) ∧ ¬ (ki (hd0 (H m)) = 3 ∨ ki (hd0 (H m)) = 1) ∧ pl (hd0 (H m)) = pl l ∧ lsum ro (H m) + ro l ≤ 9) : IHa pl ro ki (upd st l 1) (upd on l (nI m)) (fun k => if k = m then H m ++ [l] else H k) nm nl := by
  have hnot : ∀ k, k < nm → l ∉ H k := fun k hk z => absurd (h0.symm.trans ((h.mem k hk l).mp z).2.1) (by decide)
  have hxl : ∀ k, k < nm → ∀ x ∈ H k, x ≠ l := fun k hk x hx z => hnot k hk (z ▸ hx)
  have hpl : ∀ x ∈ H m, pl x = pl l := fun x hx => by
    have hne : ¬ H m = [] := fun z => by rw [z] at hx; cases hx
    rw [← (ht hne).2.2.1]
    exact h.pl m hm x hx _ (hd0_mem hne)
  have hal : ∀ x ∈ H m, ¬ (ki x = 3 ∨ ki x = 1) ∧ ¬ (ki l = 3 ∨ ki l = 1) := fun x hx => by
    have hne : ¬ H m = [] := fun z => by rw [z] at hx; cases hx
    refine ⟨?_, (ht hne).1⟩
    by_cases q : x = hd0 (H m)
    · rw [q]; exact (ht hne).2.1
    · exact h.al m hm x hx _ (hd0_mem hne) q
  refine ⟨fun k hk => ?_, fun k hk x => ?_, fun x hx hst => ?_, fun k hk x hx y hy => ?_, fun k hk x hx y hy hxy => ?_, fun k hk x hx => ?_, fun k hk => ?_⟩
  · by_cases e : k = m
    · simp only [if_pos e]
      refine List.nodup_append.mpr ⟨h.nd m hm, List.pairwise_singleton _ _, fun a ha b hb => ?_⟩
      rw [List.mem_singleton] at hb
      rw [hb]
      exact hxl m hm a ha
    · simp only [if_neg e]; exact h.nd k hk
  · by_cases e : k = m
    · simp only [if_pos e]
      rw [List.mem_append, List.mem_singleton, h.mem m hm x]
      by_cases q : x = l
      · subst q
        rw [pk_us, pk_us, e]
        exact ⟨fun _ => ⟨hl, rfl, rfl⟩, fun _ => Or.inr rfl⟩
      · rw [pk_un q, pk_un q, e]
        exact ⟨fun z => z.elim id (fun z => absurd z q), Or.inl⟩
    · simp only [if_neg e]
      rw [h.mem k hk x]
      by_cases q : x = l
      · subst q
        rw [pk_us, pk_us]
        refine ⟨fun z => absurd (h0.symm.trans z.2.1) (by decide), fun z => ?_⟩
        have := (nI_eq (by omega) (by omega)).mp z.2.2
        exact absurd this.symm e
      · rw [pk_un q, pk_un q]
  · by_cases q : x = l
    · subst q
      exact ⟨m, hm, pk_us⟩
    · rw [pk_un q] at hst ⊢
      exact h.on x hx hst
  · by_cases e : k = m
    · simp only [if_pos e] at hx hy
      have key : ∀ x, x ∈ H m ++ [l] → pl x = pl l := fun x hx => by
        rcases List.mem_append.mp hx with q | q
        · exact hpl x q
        · rw [List.mem_singleton.mp q]
      rw [key x hx, key y hy]
    · simp only [if_neg e] at hx hy; exact h.pl k hk x hx y hy
  · by_cases e : k = m
    · simp only [if_pos e] at hx hy
      rcases List.mem_append.mp hx with q | q
      · exact (hal x q).1
      · rw [List.mem_singleton] at q
        rcases List.mem_append.mp hy with q2 | q2
        · rw [q]; exact (hal y q2).2
        · rw [List.mem_singleton] at q2
          exact absurd (q.trans q2.symm) hxy
    · simp only [if_neg e] at hx hy; exact h.al k hk x hx y hy hxy
  · by_cases e : k = m
    · simp only [if_pos e] at hx
      rcases List.mem_append.mp hx with q | q
      · exact h.dn m hm x q
      · rw [List.mem_singleton.mp q]; exact h4
    · simp only [if_neg e] at hx; exact h.dn k hk x hx
  · by_cases e : k = m
    · simp only [if_pos e]
      obtain ⟨r, e1, r1, r9⟩ := hr
      obtain ⟨j, j9, ej, jl⟩ := h.ro m hm
      rw [lsum_s, List.length_append, List.length_singleton, ej, e1, nI_add]
      refine ⟨j + r, ?_, rfl, by omega⟩
      by_cases hne : H m = []
      · rw [hne] at ej
        have : nI 0 = nI j := ej
        have := (nI_eq (by decide) (by omega)).mp this
        omega
      · have := (ht hne).2.2.2
        rw [ej, e1, nI_add] at this
        exact (nI_leI (b := 9) (by omega) (by decide)).mp this
    · simp only [if_neg e]; exact h.ro k hk
theorem t_hang {m l : Int32} (hM : MR m0 adm S h) (hK : KR G (OM m0 adm) ad S X L wn sl fl h) (ha : ad 0 0 = x0) (hI : Inv S X L wn sl fl) : Two G x0 m0 adm Y_X11_hang Y_X12_hang [.int m, .int l] h := by
  have hv : a_hang S L m l = r_hang S (L 3).length m l := by
    rw [a_hang, r_hang, hI.co.n1, hI.co.n3]
    by_cases h1 : (0 ≤ m ∧ m < nI (L 1).length) ∧ (0 ≤ l ∧ l < nI (L 3).length)
    · rw [if_neg (not_not_intro h1), if_neg (show ¬ (¬ (0 ≤ m ∧ m < nI (L 1).length) ∨ ¬ (0 ≤ l ∧ l < nI (L 3).length)) from fun z => z.elim (fun q => q h1.1) (fun q => q h1.2))]
      have hf := hI.fit h1.1 h1.2
      by_cases h2 : r_fitN S m l (r_fit0 S (L 3).length m l) (L 3).length = 0
      · rw [if_pos h2, if_neg (fun z => hf.mpr z h2)]
      · rw [if_neg h2, if_pos (hf.mp h2), (hI.hn h1.1).1, nI_1, List.length_append, List.length_singleton]
    · rw [if_pos h1, if_pos (show ¬ (0 ≤ m ∧ m < nI (L 1).length) ∨ ¬ (0 ≤ l ∧ l < nI (L 3).length) from Classical.not_and_iff_not_or_not.mp h1)]
  have hc := c_hang (d := 13) (h0 := h) (m := m) (l := l) hK (KF.self hM) hI.co.r1 hI.co.b1 hI.co.r3 hI.co.b3 hI.ha.len
  rw [ha] at hc
  refine two_of (Q := fun S2 => S2 = s_hang S (L 3).length m l) (v := r_hang S (L 3).length m l) hM (by decide) (by decide) (hc.weaken (fun r h2 hp => ?_)) (k_hang (d := 19) hI.co.n3 hI.co.b3 (fun z => vp_of z hI.co.n1 hI.co.b1 (by decide)) (fun z => vp_of z hI.co.n3 hI.co.b3 (by decide)))
  obtain ⟨e, hK2, hF2⟩ := hp
  refine ⟨by rw [e, hv], _, _, _, _, _, _, _, hK2, hF2, ha, fun S2 z => ?_⟩
  subst z
  have hb1 := hI.co.b1
  by_cases hcn : ((0 ≤ m ∧ m < nI (L 1).length) ∧ (0 ≤ l ∧ l < nI (L 3).length)) ∧ ¬ S.1 0 < S.2 10 m.toNatClampNeg ∧ (S.2 23 l.toNatClampNeg = 0 ∧ S.2 21 l.toNatClampNeg ≤ S.1 0 ∧ ¬ S.2 20 l.toNatClampNeg = 4) ∧ (tkB S (L (8 + m.toNatClampNeg)) l.toNatClampNeg = true)
  · have hn : ¬ (¬ (0 ≤ m ∧ m < S.1 11) ∨ ¬ (0 ≤ l ∧ l < S.1 28) ∨ r_fitN S m l (r_fit0 S (L 3).length m l) (L 3).length = 0) := by
      rw [hI.co.n1, hI.co.n3]
      rintro (z | z | z)
      · exact z hcn.1.1
      · exact z hcn.1.2
      · exact (hI.fit hcn.1.1 hcn.1.2).mpr hcn.2 z
    rw [a_hangS, a_hangL, if_pos hcn, if_pos hcn, s_hang, if_neg hn]
    refine ⟨sS.same0, ?_⟩
    obtain ⟨i1, i2⟩ := idx_of hcn.1.1 (show (L 1).length ≤ 100000 by omega)
    obtain ⟨j1, j2⟩ := idx_of hcn.1.2 (show (L 3).length ≤ 100000 by have := hI.co.b3; omega)
    have eL : ∀ r, r < 8 → lset L (8 + m.toNatClampNeg) (L (8 + m.toNatClampNeg) ++ [l.toNatClampNeg]) r = L r := fun r hr => lset_n (by omega)
    unfold Inv
    rw [hagS, eL 0 (by decide), eL 1 (by decide), eL 2 (by decide), eL 3 (by decide), eL 4 (by decide), eL 5 (by decide), eL 6 (by decide), eL 7 (by decide)]
    refine ⟨hI.co, hI.tm, hI.tp, hI.tb, hI.pl, hI.ma, hI.pi, hI.lo, ⟨fun i hi => ?_, hI.st.by_⟩, ?_, ?_, hI.ru, hI.li, hI.be, hI.sc⟩
    · exact ⟨(pk_un (show i ≠ l.toNatClampNeg by omega)).trans (hI.st.nw i hi).1, (hI.st.nw i hi).2⟩
    · have := hI.ha.put i1 (by omega) j1 hcn.2.2.1.1 hcn.2.2.1.2.2 (hI.lo.ro _ j1) (by have q := hcn.2.2.2; rw [tkB, decide_eq_true_iff] at q; exact q)
      rw [i2] at this
      exact this
    · intro i hi hst
      by_cases q : i = l.toNatClampNeg
      · rw [q] at hst
        have : upd (S.2 23) l.toNatClampNeg 1 l.toNatClampNeg = 2 := hst
        rw [pk_us] at this
        exact absurd this (by decide)
      · exact hI.fy i hi ((pk_un q).symm.trans hst)
  · have hn : ¬ (0 ≤ m ∧ m < S.1 11) ∨ ¬ (0 ≤ l ∧ l < S.1 28) ∨ r_fitN S m l (r_fit0 S (L 3).length m l) (L 3).length = 0 := by
      rw [hI.co.n1, hI.co.n3]
      refine Classical.byContradiction (fun z => hcn ?_)
      have a1 : 0 ≤ m ∧ m < nI (L 1).length := Classical.byContradiction (fun q => z (Or.inl q))
      have a2 : 0 ≤ l ∧ l < nI (L 3).length := Classical.byContradiction (fun q => z (Or.inr (Or.inl q)))
      exact ⟨⟨a1, a2⟩, (hI.fit a1 a2).mp (fun q => z (Or.inr (Or.inr q)))⟩
    rw [a_hangS, a_hangL, if_neg hcn, if_neg hcn, s_hang, if_pos hn]
    exact ⟨sS.same0, hI⟩
end HG
