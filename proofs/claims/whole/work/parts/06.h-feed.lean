/-! ===== feed ===== -/
theorem and255 (y : Int32) : 0 ≤ y &&& 255 ∧ y &&& 255 ≤ 255 := by
  have h1 : (y &&& 255).toBitVec.toNat ≤ 255 := by
    rw [Int32.toBitVec_and, BitVec.toNat_and]
    exact Nat.and_le_right
  have h2 : (y &&& 255).toInt = ((y &&& 255).toBitVec.toNat : Int) := by
    rw [← Int32.toInt_toBitVec]
    exact BitVec.toInt_eq_toNat_of_lt (by omega)
  rw [Int32.le_iff_toInt_le, Int32.le_iff_toInt_le, h2, show (0 : Int32).toInt = 0 from rfl, show (255 : Int32).toInt = 255 from rfl]
  omega
theorem shr_eq (x : BitVec 32) {n : Nat} (h : n ≤ 24) : x.sshiftRight n &&& 255#32 = x >>> n &&& 255#32 := by
  apply BitVec.eq_of_getLsbD_eq
  intro i hi
  rw [BitVec.getLsbD_and, BitVec.getLsbD_and, BitVec.getLsbD_sshiftRight, BitVec.getLsbD_ushiftRight]
  by_cases h8 : i < 8
  · have : n + i < 32 := by omega
    have hd : decide (32 ≤ i) = false := decide_eq_false (by omega)
    rw [hd, if_pos this, Bool.not_false, Bool.true_and]
  · have : (255#32).getLsbD i = false := by
      rw [show (255#32) = BitVec.ofNat 32 (2 ^ 8 - 1) from rfl, BitVec.getLsbD_ofNat, Nat.testBit_two_pow_sub_one]
      simp
      omega
    rw [this, Bool.and_false, Bool.and_false]
theorem fd_0 (v : Int32) {u : UInt32} {s : Int32} {n : Nat} (hu : (u.toBitVec % 32#32).toNat = n) (hs : (s.toBitVec.smod 32#32).toNat = n) (h : n ≤ 24) : (v.toUInt32 >>> u).toInt32 &&& 255 = (v >>> s) &&& 255 := by
  apply Int32.toBitVec_inj.mp
  rw [Int32.toBitVec_and, Int32.toBitVec_and, Int32.toBitVec_shiftRight, UInt32.toBitVec_toInt32, UInt32.toBitVec_shiftRight, Int32.toBitVec_toUInt32]
  show v.toBitVec >>> (u.toBitVec % 32#32).toNat &&& 255#32 = v.toBitVec.sshiftRight (s.toBitVec.smod 32#32).toNat &&& 255#32
  rw [hu, hs, shr_eq _ h]
theorem fd_eq (v : Int32) {k : Nat} (hk : k < 4) : ((v.toUInt32 >>> ((8 * nI k).toUInt32 &&& Int32.toUInt32 31)).toInt32 &&& 255) = (v >>> ((8 * nI k) &&& 31)) &&& 255 := by
  have : k = 0 ∨ k = 1 ∨ k = 2 ∨ k = 3 := by omega
  rcases this with rfl | rfl | rfl | rfl
  · exact fd_0 v (n := 0) (by decide) (by decide) (by decide)
  · exact fd_0 v (n := 8) (by decide) (by decide) (by decide)
  · exact fd_0 v (n := 16) (by decide) (by decide) (by decide)
  · exact fd_0 v (n := 24) (by decide) (by decide) (by decide)
theorem feedN_eq {S : MS} {v : Int32} : ∀ k, k ≤ 4 → a_feedN S v k = s_feedN S v k
  | 0, _ => rfl
  | k + 1, hk => by rw [a_feedN, s_feedN, feedN_eq k (by omega), fd_eq v (by omega)]
theorem feedN_1 {S : MS} {v : Int32} {j : Nat} (hj : j ≠ 30) : ∀ k, (s_feedN S v k).1 j = S.1 j
  | 0 => rfl
  | k + 1 => by
    rw [s_feedN]
    show vf_upd _ 30 _ j = _
    rw [vf_upd, if_neg hj]
    exact feedN_1 hj k
theorem feedN_2 {S : MS} {v : Int32} {j : Nat} (hj : j ≠ 29) : ∀ k, (s_feedN S v k).2 j = S.2 j
  | 0 => rfl
  | k + 1 => by
    rw [s_feedN]
    show u2 _ 29 _ _ j = _
    rw [u2_n hj]
    exact feedN_2 hj k
theorem feedN_b {S : MS} {v : Int32} (h : ∀ j, 0 ≤ S.2 29 j ∧ S.2 29 j ≤ 255) : ∀ k j, 0 ≤ (s_feedN S v k).2 29 j ∧ (s_feedN S v k).2 29 j ≤ 255
  | 0, j => h j
  | k + 1, j => by
    have ih := feedN_b (v := v) h k j
    rw [s_feedN]
    show 0 ≤ u2 _ 29 _ _ 29 j ∧ u2 _ 29 _ _ 29 j ≤ 255
    rw [u2_s]
    by_cases q : j = ((s_feedN S v k).1 30).toNatClampNeg
    · rw [q, pk_us]; exact and255 _
    · rw [pk_un q]; exact ih
section FE
variable {G : Nat → Nat} {x0 m0 : Nat} {adm : Nat → Nat} {S X : MS} {L : Nat → List Nat} {wn : Nat → Option Nat} {sl : Nat → Nat} {fl : Nat} {ad : Nat → Nat → Nat} {h : AH}
theorem t_feed {x v : Int32} (hM : MR m0 adm S h) (hK : KR G (OM m0 adm) ad S X L wn sl fl h) (ha : ad 0 0 = x0) (hI : Inv S X L wn sl fl) : Two G x0 m0 adm Y_X11_feed Y_X12_feed [.int x, .int v] h := by
  obtain ⟨t, ht, et⟩ := hI.tp
  obtain ⟨q, hq⟩ : ∃ q, (1 ≤ x ∧ x ≤ 4) → x = nI q ∧ q ≤ 4 := by
    by_cases z : 1 ≤ x ∧ x ≤ 4
    · obtain ⟨w, e, -, hw⟩ := rg1_of z.1 z.2 (by decide)
      exact ⟨w, fun _ => ⟨e, hw⟩⟩
    · exact ⟨0, fun y => absurd y z⟩
  have hc := c_feed (d := 19) (h0 := h) (x := x) (v := v) hK (KF.self hM) hq et ht
  rw [ha] at hc
  have hv : a_feed S q x v = r_feed S q x v := by
    rw [a_feed, r_feed]
    by_cases z : 1 ≤ x ∧ x ≤ 4
    · rw [feedN_eq q (hq z).2]
    · rw [if_pos z, if_pos z]
  refine two_of (Q := fun S2 => S2 = s_feed S q x v) (v := r_feed S q x v) hM (Nat.zero_le _) (Nat.zero_le _) (hc.weaken (fun r h2 hp => ?_)) (k_feed (d := 19) hq et ht)
  obtain ⟨e, hK2, hF2⟩ := hp
  refine ⟨by rw [e, hv], _, _, _, _, _, _, _, hK2, hF2, ha, fun S2 z => ?_⟩
  subst z
  rw [a_feedS, s_feed]
  by_cases hcn : ¬ (1 ≤ x ∧ x ≤ 4) ∨ 60 < S.1 30 + x
  · rw [if_pos hcn, if_pos hcn]
    exact ⟨sS.same0, hI⟩
  · have z : 1 ≤ x ∧ x ≤ 4 := Classical.byContradiction (fun y => hcn (Or.inl y))
    rw [if_neg hcn, if_neg hcn, feedN_eq q (hq z).2]
    refine ⟨sS.same0, ?_⟩
    have h2 := fun j hj => feedN_2 (S := S) (v := v) (j := j) hj q
    have h1 := fun j hj => feedN_1 (S := S) (v := v) (j := j) hj q
    have h30 := s_feedN_30 (v := v) et q
    have hb := feedN_b (v := v) hI.tb q
    have q4 := (hq z).2
    have h60 : t + q ≤ 60 := by
      have : ¬ 60 < S.1 30 + x := fun y => hcn (Or.inr y)
      rw [et, (hq z).1, nI_add] at this
      exact Nat.not_lt.mp (fun y => this ((nI_ltI (a := 60) (by decide) (by omega)).mpr y))
    unfold Inv
    rw [h1 3 (by decide), h1 11 (by decide), h1 16 (by decide), h1 28 (by decide), h1 45 (by decide), h1 33 (by decide), h1 0 (by decide), h1 51 (by decide), h1 55 (by decide), h30, h2 1 (by decide), h2 2 (by decide), h2 8 (by decide), h2 9 (by decide), h2 10 (by decide), h2 12 (by decide), h2 13 (by decide), h2 14 (by decide), h2 15 (by decide), h2 17 (by decide), h2 18 (by decide), h2 19 (by decide), h2 20 (by decide), h2 21 (by decide), h2 23 (by decide), h2 24 (by decide), h2 25 (by decide), h2 27 (by decide), h2 40 (by decide), h2 41 (by decide), h2 31 (by decide), h2 32 (by decide), h2 50 (by decide), h2 53 (by decide)]
    exact ⟨hI.co, hI.tm, ⟨t + q, h60, rfl⟩, hb, hI.pl, hI.ma, hI.pi, hI.lo, hI.st, hI.ha, hI.fy, hI.ru, hI.li, hI.be, hI.sc⟩
end FE
