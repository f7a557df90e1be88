theorem KG.lob {G : Nat → Nat} {O : Nat → Prop} {ad : Nat → Nat → Nat} {C : Nat → Nat → Option AE} {P : Nat → Prop} {L : Nat → List Nat} {h : AH} {r : Nat} (hK : KG G O ad C P L h) (hr : P r) : ∃ fs, h (ad 1 r) = some (Ob 0 fs) := by
  obtain ⟨ed, cp, h1, h2, h3, h4⟩ := hK
  exact (h3 r hr).1.ob
theorem KG.nil {G : Nat → Nat} {O : Nat → Prop} {ad : Nat → Nat → Nat} {L : Nat → List Nat} {h : AH} : KG G O ad (fun _ _ => none) (fun _ => False) L h := ⟨fun _ => 0, fun _ => 0, fun _ _ _ z => (by cases z), fun _ _ _ _ z => absurd rfl z, fun _ z => False.elim z, fun _ _ z => False.elim z, fun _ _ z => False.elim z, fun _ z => False.elim z, fun _ _ _ z => (by cases z)⟩
/-- the state of a new office -/
def sg0 : Nat → Int32 := (upd (upd (upd (upd (upd (upd (upd (upd (upd (upd (upd (upd (fun _ => 0) 0 9) 1 9) 2 9) 3 9) 4 9) 5 9) 6 9) 7 9) 8 9) 9 9) 10 9) 11 9)
def s0 : MS := (fun k => if k = 3 then 1 else if k = 55 then -1 else 0, fun k => if k = 6 then sg0 else fun _ => 0)
def x0 : MS := (fun _ => 0, fun _ _ => 0)
def l0 : Nat → List Nat := fun r => if r = 0 then [0] else []
theorem k0L : (lset (lset (lset (lset (lset (lset (lset (lset (lset (fun _ => []) 0 []) 1 []) 2 []) 3 []) 4 []) 6 []) 7 []) 5 []) 0 ((lset (lset (lset (lset (lset (lset (lset (lset (fun _ => []) 0 []) 1 []) 2 []) 3 []) 4 []) 6 []) 7 []) 5 []) 0 ++ [0])) = l0 := by
  funext r
  unfold lset l0
  by_cases h : r = 0
  · rw [if_pos h, if_pos h]
    rfl
  · rw [if_neg h, if_neg h]
    (repeat' split) <;> rfl
theorem k0P : ∀ r, r < 8 + (l0 1).length → (fun r => (fun r => (fun r => (fun r => (fun r => (fun r => (fun r => (fun r => (fun _ => False) r ∨ r = 0) r ∨ r = 1) r ∨ r = 2) r ∨ r = 3) r ∨ r = 4) r ∨ r = 6) r ∨ r = 7) r ∨ r = 5) r := by
  intro r hr
  have : r < 8 := hr
  have : r = 0 ∨ r = 1 ∨ r = 2 ∨ r = 3 ∨ r = 4 ∨ r = 5 ∨ r = 6 ∨ r = 7 := by omega
  rcases this with rfl | rfl | rfl | rfl | rfl | rfl | rfl | rfl <;> simp
theorem k0C {a q1 q2 q3 q4 q5 q6 q7 q8 q9 q10 q11 q12 q13 q14 q15 q16 q17 q18 q19 q20 q21 q22 q23 q24 q25 q26 : Nat} : ∀ c i, cs (adU (adU (adU (adU (adU (adU (adU (adU (adU (adU (adU (adU (adU (adU (adU (adU (adU (adU (adU (adU (adU (adU (adU (adU (adU (adU (adU (fun _ _ => 0) 1 0 q1) 1 1 q2) 1 2 q3) 1 3 q4) 1 4 q5) 15 0 q7) 15 1 q8) 15 2 q9) 10 0 q6) 15 3 q11) 11 0 q10) 1 6 q13) 15 4 q14) 15 5 q15) 12 0 q12) 1 7 q17) 15 6 q18) 15 7 q19) 13 0 q16) 17 0 q21) 15 8 q22) 15 9 q23) 16 0 q24) 14 0 q20) 1 5 q25) 3 0 q26) 0 0 a) s0 x0 l0 (fun _ => none) (fun _ => 0) 0 c i = (cU (cU (cU (cU (cU (cU (cU (cU (cU (cU (cU (cU (cU (cU (cU (cU (cU (cU (cU (fun _ _ => none) 15 0 (Ai 12 (fun _ => 0))) 15 1 (Ai 12 (fun _ => 0))) 15 2 (Ai 12 (upd (upd (upd (upd (upd (upd (upd (upd (upd (upd (upd (upd (fun _ => 0) 0 9) 1 9) 2 9) 3 9) 4 9) 5 9) 6 9) 7 9) 8 9) 9 9) 10 9) 11 9))) 10 0 (Ob 11 [.ref q7, .ref q8, .ref q9])) 15 3 (Ai 60 (fun _ => 0))) 11 0 (Ob 10 [.ref q11, .int 0])) 15 4 (Ai 11 (fun _ => 0))) 15 5 (Ai 20 (fun _ => 0))) 12 0 (Ob 9 [.ref q13, .ref q14, .ref q15, .int 0])) 15 6 (Ai 9 (fun _ => 0))) 15 7 (Ai 9 (fun _ => 0))) 13 0 (Ob 5 [.ref q17, .ref q18, .ref q19, .int 0, .int 0])) 17 0 (Aq "HutLift$Place" 5 (fun _ => none))) 15 8 (Ai 5 (fun _ => 0))) 15 9 (Ai 5 (fun _ => 0))) 16 0 (Ai 32 (fun _ => 0))) 14 0 (Ob 4 [.ref q21, .ref q22, .ref q23, .ref q24, .int 0, .int 0, .int 0, .int 0])) 3 0 (Ob 7 [.int 0, .int 0, .int 0])) 0 0 (Ob 12 [.ref q1, .ref q2, .ref q3, .ref q4, .ref q5, .ref q6, .ref q10, .ref q12, .ref q16, .ref q20, .ref q25, .int 0])) c i
  | 0, 0 => rfl
  | 0, n + 1 => rfl
  | 1, i => rfl
  | 2, i => rfl
  | 3, 0 => rfl
  | 3, n + 1 => show (if n + 1 < 1 then some (Ob 7 (fPlace s0 (n + 1))) else none) = none from if_neg (by omega)
  | 4, i => rfl
  | 5, i => rfl
  | 6, i => rfl
  | 7, i => rfl
  | 8, i => rfl
  | 9, i => rfl
  | 10, 0 => rfl
  | 10, n + 1 => rfl
  | 11, 0 => rfl
  | 11, n + 1 => rfl
  | 12, 0 => rfl
  | 12, n + 1 => rfl
  | 13, 0 => rfl
  | 13, n + 1 => rfl
  | 14, 0 => rfl
  | 14, n + 1 => rfl
  | 15, i => by
    match i with
    | 0 => rfl
    | 1 => rfl
    | 2 => rfl
    | 3 => rfl
    | 4 => rfl
    | 5 => rfl
    | 6 => rfl
    | 7 => rfl
    | 8 => rfl
    | 9 => rfl
    | n + 10 => rfl
  | 16, 0 => rfl
  | 16, n + 1 => rfl
  | 17, 0 => rfl
  | 17, n + 1 => rfl
  | n + 18, i => rfl
theorem c_hutInit {d : Nat} {G : Nat → Nat} {O : Nat → Prop} {h0 k : AH} {a : Nat} (hF : KF O h0 k) (ha : k a = none) : Ct Y_X11_init (d + 7) G 27 251 [.ref a] (hu k a (Ob 12 [.null, .null, .null, .null, .null, .null, .null, .null, .null, .null, .null, .int 0])) (fun r h2 => r = none ∧ ∃ ad, ad 0 0 = a ∧ KR G O ad s0 x0 l0 (fun _ => none) (fun _ => 0) 0 h2 ∧ KF O h0 h2) := by
  refine Ct.ofn 0 rfl (Nat.le_of_ble_eq_true rfl) (by simp [Value.category]) ?_
  generalize hpost : (fun (r : Option Value) (h2 : AH) => r = none ∧ ∃ ad, ad 0 0 = a ∧ KR G O ad s0 x0 l0 (fun _ => none) (fun _ => 0) 0 h2 ∧ KF O h0 h2) = post
  show J Y_X11_init (d + 7) G 27 251 0 [some (.ref a)] [] (hu k a (Ob 12 [.null, .null, .null, .null, .null, .null, .null, .null, .null, .null, .null, .int 0])) post
  have g0 : KG G O (fun _ _ => 0) (fun _ _ => none) (fun _ => False) (fun _ => []) k ∧ KF O h0 k := ⟨KG.nil, hF⟩
  refine J.aload_n 1 dX11_init_0 rfl rfl ?_
  refine co_X11_1 rfl 4 dX11_init_1 rfl (Nat.le_of_ble_eq_true rfl) ?_
  refine J.aload_n 5 dX11_init_4 rfl rfl ?_
  refine nw_X11_7 rfl 8 dX11_init_5 rfl rfl rfl (fun q1 hq1 => ?_)
  obtain ⟨nq1, fq1, eq1⟩ := hu_push (e := (Ob 0 [.int 0, .null, .int 0])) hq1
  rw [eq1]
  have ha_q1 := hu_fr (e := (Ob 0 [.int 0, .null, .int 0])) (Ne.symm nq1) ha
  refine J.dup 9 dX11_init_8 rfl rfl ?_
  refine cn_X11_9 rfl 12 (jl_init (d := d + 3) (hu_inn nq1)) dX11_init_9 rfl rfl rfl (Nat.le_of_ble_eq_true rfl) (Nat.zero_le _) (Nat.zero_le _) (fun r h2 hp => ?_)
  obtain ⟨rfl, rfl⟩ := hp
  rw [hu_in nq1]
  replace ha_q1 := hu_fr (e := (Ob 0 [.int 0, .ref (G 0), .int 0])) (Ne.symm nq1) ha
  have g1 := g0.1.list (r0 := 0) (mc := 0) g0.2 fq1 (by simp) (fun _ => rfl)
  refine pf_X11_10 rfl rfl 15 dX11_init_12 rfl hu_s (Nat.le_of_ble_eq_true rfl) ?_
  rw [hu_hu]
  refine J.aload_n 16 dX11_init_15 rfl rfl ?_
  refine nw_X11_7 rfl 19 dX11_init_16 rfl rfl rfl (fun q2 hq2 => ?_)
  obtain ⟨nq2, fq2, eq2⟩ := hu_push (e := (Ob 0 [.int 0, .null, .int 0])) hq2
  rw [eq2]
  have ha_q2 := hu_fr (e := (Ob 0 [.int 0, .null, .int 0])) (Ne.symm nq2) ha_q1
  refine J.dup 20 dX11_init_19 rfl rfl ?_
  refine cn_X11_9 rfl 23 (jl_init (d := d + 3) (hu_inn nq2)) dX11_init_20 rfl rfl rfl (Nat.le_of_ble_eq_true rfl) (Nat.zero_le _) (Nat.zero_le _) (fun r h2 hp => ?_)
  obtain ⟨rfl, rfl⟩ := hp
  rw [hu_in nq2]
  replace ha_q2 := hu_fr (e := (Ob 0 [.int 0, .ref (G 0), .int 0])) (Ne.symm nq2) ha_q1
  have g2 := g1.1.list (r0 := 1) (mc := 0) g1.2 fq2 (by simp) (fun _ => rfl)
  refine pf_X11_16 rfl rfl 26 dX11_init_23 rfl hu_s (Nat.le_of_ble_eq_true rfl) ?_
  rw [hu_hu]
  refine J.aload_n 27 dX11_init_26 rfl rfl ?_
  refine nw_X11_7 rfl 30 dX11_init_27 rfl rfl rfl (fun q3 hq3 => ?_)
  obtain ⟨nq3, fq3, eq3⟩ := hu_push (e := (Ob 0 [.int 0, .null, .int 0])) hq3
  rw [eq3]
  have ha_q3 := hu_fr (e := (Ob 0 [.int 0, .null, .int 0])) (Ne.symm nq3) ha_q2
  refine J.dup 31 dX11_init_30 rfl rfl ?_
  refine cn_X11_9 rfl 34 (jl_init (d := d + 3) (hu_inn nq3)) dX11_init_31 rfl rfl rfl (Nat.le_of_ble_eq_true rfl) (Nat.zero_le _) (Nat.zero_le _) (fun r h2 hp => ?_)
  obtain ⟨rfl, rfl⟩ := hp
  rw [hu_in nq3]
  replace ha_q3 := hu_fr (e := (Ob 0 [.int 0, .ref (G 0), .int 0])) (Ne.symm nq3) ha_q2
  have g3 := g2.1.list (r0 := 2) (mc := 0) g2.2 fq3 (by simp) (fun _ => rfl)
  refine pf_X11_19 rfl rfl 37 dX11_init_34 rfl hu_s (Nat.le_of_ble_eq_true rfl) ?_
  rw [hu_hu]
  refine J.aload_n 38 dX11_init_37 rfl rfl ?_
  refine nw_X11_7 rfl 41 dX11_init_38 rfl rfl rfl (fun q4 hq4 => ?_)
  obtain ⟨nq4, fq4, eq4⟩ := hu_push (e := (Ob 0 [.int 0, .null, .int 0])) hq4
  rw [eq4]
  have ha_q4 := hu_fr (e := (Ob 0 [.int 0, .null, .int 0])) (Ne.symm nq4) ha_q3
  refine J.dup 42 dX11_init_41 rfl rfl ?_
  refine cn_X11_9 rfl 45 (jl_init (d := d + 3) (hu_inn nq4)) dX11_init_42 rfl rfl rfl (Nat.le_of_ble_eq_true rfl) (Nat.zero_le _) (Nat.zero_le _) (fun r h2 hp => ?_)
  obtain ⟨rfl, rfl⟩ := hp
  rw [hu_in nq4]
  replace ha_q4 := hu_fr (e := (Ob 0 [.int 0, .ref (G 0), .int 0])) (Ne.symm nq4) ha_q3
  have g4 := g3.1.list (r0 := 3) (mc := 0) g3.2 fq4 (by simp) (fun _ => rfl)
  refine pf_X11_22 rfl rfl 48 dX11_init_45 rfl hu_s (Nat.le_of_ble_eq_true rfl) ?_
  rw [hu_hu]
  refine J.aload_n 49 dX11_init_48 rfl rfl ?_
  refine nw_X11_7 rfl 52 dX11_init_49 rfl rfl rfl (fun q5 hq5 => ?_)
  obtain ⟨nq5, fq5, eq5⟩ := hu_push (e := (Ob 0 [.int 0, .null, .int 0])) hq5
  rw [eq5]
  have ha_q5 := hu_fr (e := (Ob 0 [.int 0, .null, .int 0])) (Ne.symm nq5) ha_q4
  refine J.dup 53 dX11_init_52 rfl rfl ?_
  refine cn_X11_9 rfl 56 (jl_init (d := d + 3) (hu_inn nq5)) dX11_init_53 rfl rfl rfl (Nat.le_of_ble_eq_true rfl) (Nat.zero_le _) (Nat.zero_le _) (fun r h2 hp => ?_)
  obtain ⟨rfl, rfl⟩ := hp
  rw [hu_in nq5]
  replace ha_q5 := hu_fr (e := (Ob 0 [.int 0, .ref (G 0), .int 0])) (Ne.symm nq5) ha_q4
  have g5 := g4.1.list (r0 := 4) (mc := 0) g4.2 fq5 (by simp) (fun _ => rfl)
  refine pf_X11_25 rfl rfl 59 dX11_init_56 rfl hu_s (Nat.le_of_ble_eq_true rfl) ?_
  rw [hu_hu]
  refine J.aload_n 60 dX11_init_59 rfl rfl ?_
  refine nw_X11_28 rfl 63 dX11_init_60 rfl rfl rfl (fun q6 hq6 => ?_)
  refine J.dup 64 dX11_init_63 rfl rfl ?_
  refine cn_X11_30 rfl 67 (c_weaInit (d := d + 2) hq6) dX11_init_64 rfl rfl rfl (Nat.le_of_ble_eq_true rfl) (by decide) (by decide) (fun r h2 hp => ?_)
  obtain ⟨rfl, q7, q8, q9, yq7, yq8, yq9, yq6, rfl⟩ := hp
  obtain ⟨nq7, fq7, eq7⟩ := hu_push (e := (Ai 12 (fun _ => 0))) yq7
  rw [eq7] at yq8 yq9 yq6 ⊢
  have ha_q7 := hu_fr (e := (Ai 12 (fun _ => 0))) (Ne.symm nq7) ha_q5
  have g6 := g5.1.cell (c0 := 15) (i0 := 0) (e := (Ai 12 (fun _ => 0))) g5.2 fq7 (by decide) rfl ⟨fun fs z => (by cases z), fun n f z => (by first | (cases z; done) | (simp at z))⟩
  obtain ⟨nq8, fq8, eq8⟩ := hu_push (e := (Ai 12 (fun _ => 0))) yq8
  rw [eq8] at yq9 yq6 ⊢
  have ha_q8 := hu_fr (e := (Ai 12 (fun _ => 0))) (Ne.symm nq8) ha_q7
  have g7 := g6.1.cell (c0 := 15) (i0 := 1) (e := (Ai 12 (fun _ => 0))) g6.2 fq8 (by decide) rfl ⟨fun fs z => (by cases z), fun n f z => (by first | (cases z; done) | (simp at z))⟩
  obtain ⟨nq9, fq9, eq9⟩ := hu_push (e := (Ai 12 (upd (upd (upd (upd (upd (upd (upd (upd (upd (upd (upd (upd (fun _ => 0) 0 9) 1 9) 2 9) 3 9) 4 9) 5 9) 6 9) 7 9) 8 9) 9 9) 10 9) 11 9))) yq9
  rw [eq9] at yq6 ⊢
  have ha_q9 := hu_fr (e := (Ai 12 (upd (upd (upd (upd (upd (upd (upd (upd (upd (upd (upd (upd (fun _ => 0) 0 9) 1 9) 2 9) 3 9) 4 9) 5 9) 6 9) 7 9) 8 9) 9 9) 10 9) 11 9))) (Ne.symm nq9) ha_q8
  have g8 := g7.1.cell (c0 := 15) (i0 := 2) (e := (Ai 12 (upd (upd (upd (upd (upd (upd (upd (upd (upd (upd (upd (upd (fun _ => 0) 0 9) 1 9) 2 9) 3 9) 4 9) 5 9) 6 9) 7 9) 8 9) 9 9) 10 9) 11 9))) g7.2 fq9 (by decide) rfl ⟨fun fs z => (by cases z), fun n f z => (by first | (cases z; done) | (simp at z))⟩
  obtain ⟨nq6, fq6, eq6⟩ := hu_push (e := (Ob 11 [.ref q7, .ref q8, .ref q9])) yq6
  rw [eq6]
  have ha_q6 := hu_fr (e := (Ob 11 [.ref q7, .ref q8, .ref q9])) (Ne.symm nq6) ha_q9
  have g9 := g8.1.cell (c0 := 10) (i0 := 0) (e := (Ob 11 [.ref q7, .ref q8, .ref q9])) g8.2 fq6 (by decide) rfl ⟨fun fs z => (by cases z), fun n f z => (by first | (cases z; done) | (simp at z))⟩
  refine pf_X11_31 rfl rfl 70 dX11_init_67 rfl hu_s (Nat.le_of_ble_eq_true rfl) ?_
  rw [hu_hu]
  refine J.aload_n 71 dX11_init_70 rfl rfl ?_
  refine nw_X11_35 rfl 74 dX11_init_71 rfl rfl rfl (fun q10 hq10 => ?_)
  refine J.dup 75 dX11_init_74 rfl rfl ?_
  refine cn_X11_37 rfl 78 (c_tapInit (d := d + 2) hq10) dX11_init_75 rfl rfl rfl (Nat.le_of_ble_eq_true rfl) (by decide) (by decide) (fun r h2 hp => ?_)
  obtain ⟨rfl, q11, yq11, yq10, rfl⟩ := hp
  obtain ⟨nq11, fq11, eq11⟩ := hu_push (e := (Ai 60 (fun _ => 0))) yq11
  rw [eq11] at yq10 ⊢
  have ha_q11 := hu_fr (e := (Ai 60 (fun _ => 0))) (Ne.symm nq11) ha_q6
  have g10 := g9.1.cell (c0 := 15) (i0 := 3) (e := (Ai 60 (fun _ => 0))) g9.2 fq11 (by decide) rfl ⟨fun fs z => (by cases z), fun n f z => (by first | (cases z; done) | (simp at z))⟩
  obtain ⟨nq10, fq10, eq10⟩ := hu_push (e := (Ob 10 [.ref q11, .int 0])) yq10
  rw [eq10]
  have ha_q10 := hu_fr (e := (Ob 10 [.ref q11, .int 0])) (Ne.symm nq10) ha_q11
  have g11 := g10.1.cell (c0 := 11) (i0 := 0) (e := (Ob 10 [.ref q11, .int 0])) g10.2 fq10 (by decide) rfl ⟨fun fs z => (by cases z), fun n f z => (by first | (cases z; done) | (simp at z))⟩
  refine pf_X11_38 rfl rfl 81 dX11_init_78 rfl hu_s (Nat.le_of_ble_eq_true rfl) ?_
  rw [hu_hu]
  refine J.aload_n 82 dX11_init_81 rfl rfl ?_
  refine nw_X11_42 rfl 85 dX11_init_82 rfl rfl rfl (fun q12 hq12 => ?_)
  refine J.dup 86 dX11_init_85 rfl rfl ?_
  refine cn_X11_44 rfl 89 (c_bookInit (d := d + 2) hq12) dX11_init_86 rfl rfl rfl (Nat.le_of_ble_eq_true rfl) (by decide) (by decide) (fun r h2 hp => ?_)
  obtain ⟨rfl, q13, q14, q15, yq13, yq14, yq15, yq12, rfl⟩ := hp
  obtain ⟨nq13, fq13, eq13⟩ := hu_push (e := (Ob 0 [.int 0, .ref (G 0), .int 0])) yq13
  rw [eq13] at yq14 yq15 yq12 ⊢
  have ha_q13 := hu_fr (e := (Ob 0 [.int 0, .ref (G 0), .int 0])) (Ne.symm nq13) ha_q10
  have g12 := g11.1.list (r0 := 6) (mc := 0) g11.2 fq13 (by simp) (fun _ => rfl)
  obtain ⟨nq14, fq14, eq14⟩ := hu_push (e := (Ai 11 (fun _ => 0))) yq14
  rw [eq14] at yq15 yq12 ⊢
  have ha_q14 := hu_fr (e := (Ai 11 (fun _ => 0))) (Ne.symm nq14) ha_q13
  have g13 := g12.1.cell (c0 := 15) (i0 := 4) (e := (Ai 11 (fun _ => 0))) g12.2 fq14 (by decide) rfl ⟨fun fs z => (by cases z), fun n f z => (by first | (cases z; done) | (simp at z))⟩
  obtain ⟨nq15, fq15, eq15⟩ := hu_push (e := (Ai 20 (fun _ => 0))) yq15
  rw [eq15] at yq12 ⊢
  have ha_q15 := hu_fr (e := (Ai 20 (fun _ => 0))) (Ne.symm nq15) ha_q14
  have g14 := g13.1.cell (c0 := 15) (i0 := 5) (e := (Ai 20 (fun _ => 0))) g13.2 fq15 (by decide) rfl ⟨fun fs z => (by cases z), fun n f z => (by first | (cases z; done) | (simp at z))⟩
  obtain ⟨nq12, fq12, eq12⟩ := hu_push (e := (Ob 9 [.ref q13, .ref q14, .ref q15, .int 0])) yq12
  rw [eq12]
  have ha_q12 := hu_fr (e := (Ob 9 [.ref q13, .ref q14, .ref q15, .int 0])) (Ne.symm nq12) ha_q15
  have g15 := g14.1.cell (c0 := 12) (i0 := 0) (e := (Ob 9 [.ref q13, .ref q14, .ref q15, .int 0])) g14.2 fq12 (by decide) rfl ⟨fun fs z => (by cases z), fun n f z => (by first | (cases z; done) | (simp at z))⟩
  refine pf_X11_45 rfl rfl 92 dX11_init_89 rfl hu_s (Nat.le_of_ble_eq_true rfl) ?_
  rw [hu_hu]
  refine J.aload_n 93 dX11_init_92 rfl rfl ?_
  refine nw_X11_49 rfl 96 dX11_init_93 rfl rfl rfl (fun q16 hq16 => ?_)
  refine J.dup 97 dX11_init_96 rfl rfl ?_
  refine cn_X11_51 rfl 100 (c_packInit (d := d + 2) hq16) dX11_init_97 rfl rfl rfl (Nat.le_of_ble_eq_true rfl) (by decide) (by decide) (fun r h2 hp => ?_)
  obtain ⟨rfl, q17, q18, q19, yq17, yq18, yq19, yq16, rfl⟩ := hp
  obtain ⟨nq17, fq17, eq17⟩ := hu_push (e := (Ob 0 [.int 0, .ref (G 0), .int 0])) yq17
  rw [eq17] at yq18 yq19 yq16 ⊢
  have ha_q17 := hu_fr (e := (Ob 0 [.int 0, .ref (G 0), .int 0])) (Ne.symm nq17) ha_q12
  have g16 := g15.1.list (r0 := 7) (mc := 0) g15.2 fq17 (by simp) (fun _ => rfl)
  obtain ⟨nq18, fq18, eq18⟩ := hu_push (e := (Ai 9 (fun _ => 0))) yq18
  rw [eq18] at yq19 yq16 ⊢
  have ha_q18 := hu_fr (e := (Ai 9 (fun _ => 0))) (Ne.symm nq18) ha_q17
  have g17 := g16.1.cell (c0 := 15) (i0 := 6) (e := (Ai 9 (fun _ => 0))) g16.2 fq18 (by decide) rfl ⟨fun fs z => (by cases z), fun n f z => (by first | (cases z; done) | (simp at z))⟩
  obtain ⟨nq19, fq19, eq19⟩ := hu_push (e := (Ai 9 (fun _ => 0))) yq19
  rw [eq19] at yq16 ⊢
  have ha_q19 := hu_fr (e := (Ai 9 (fun _ => 0))) (Ne.symm nq19) ha_q18
  have g18 := g17.1.cell (c0 := 15) (i0 := 7) (e := (Ai 9 (fun _ => 0))) g17.2 fq19 (by decide) rfl ⟨fun fs z => (by cases z), fun n f z => (by first | (cases z; done) | (simp at z))⟩
  obtain ⟨nq16, fq16, eq16⟩ := hu_push (e := (Ob 5 [.ref q17, .ref q18, .ref q19, .int 0, .int 0])) yq16
  rw [eq16]
  have ha_q16 := hu_fr (e := (Ob 5 [.ref q17, .ref q18, .ref q19, .int 0, .int 0])) (Ne.symm nq16) ha_q19
  have g19 := g18.1.cell (c0 := 13) (i0 := 0) (e := (Ob 5 [.ref q17, .ref q18, .ref q19, .int 0, .int 0])) g18.2 fq16 (by decide) rfl ⟨fun fs z => (by cases z), fun n f z => (by first | (cases z; done) | (simp at z))⟩
  refine pf_X11_52 rfl rfl 103 dX11_init_100 rfl hu_s (Nat.le_of_ble_eq_true rfl) ?_
  rw [hu_hu]
  refine J.aload_n 104 dX11_init_103 rfl rfl ?_
  refine nw_X11_56 rfl 107 dX11_init_104 rfl rfl rfl (fun q20 hq20 => ?_)
  refine J.dup 108 dX11_init_107 rfl rfl ?_
  refine cn_X11_58 rfl 111 (c_seaInit (d := d + 2) hq20) dX11_init_108 rfl rfl rfl (Nat.le_of_ble_eq_true rfl) (by decide) (by decide) (fun r h2 hp => ?_)
  obtain ⟨rfl, q21, q22, q23, q24, yq21, yq22, yq23, yq24, yq20, rfl⟩ := hp
  obtain ⟨nq21, fq21, eq21⟩ := hu_push (e := (Aq "HutLift$Place" 5 (fun _ => none))) yq21
  rw [eq21] at yq22 yq23 yq24 yq20 ⊢
  have ha_q21 := hu_fr (e := (Aq "HutLift$Place" 5 (fun _ => none))) (Ne.symm nq21) ha_q16
  have g20 := g19.1.cell (c0 := 17) (i0 := 0) (e := (Aq "HutLift$Place" 5 (fun _ => none))) g19.2 fq21 (by decide) rfl ⟨fun fs z => (by cases z), fun n f z => (by first | (cases z; done) | (simp at z))⟩
  obtain ⟨nq22, fq22, eq22⟩ := hu_push (e := (Ai 5 (fun _ => 0))) yq22
  rw [eq22] at yq23 yq24 yq20 ⊢
  have ha_q22 := hu_fr (e := (Ai 5 (fun _ => 0))) (Ne.symm nq22) ha_q21
  have g21 := g20.1.cell (c0 := 15) (i0 := 8) (e := (Ai 5 (fun _ => 0))) g20.2 fq22 (by decide) rfl ⟨fun fs z => (by cases z), fun n f z => (by first | (cases z; done) | (simp at z))⟩
  obtain ⟨nq23, fq23, eq23⟩ := hu_push (e := (Ai 5 (fun _ => 0))) yq23
  rw [eq23] at yq24 yq20 ⊢
  have ha_q23 := hu_fr (e := (Ai 5 (fun _ => 0))) (Ne.symm nq23) ha_q22
  have g22 := g21.1.cell (c0 := 15) (i0 := 9) (e := (Ai 5 (fun _ => 0))) g21.2 fq23 (by decide) rfl ⟨fun fs z => (by cases z), fun n f z => (by first | (cases z; done) | (simp at z))⟩
  obtain ⟨nq24, fq24, eq24⟩ := hu_push (e := (Ai 32 (fun _ => 0))) yq24
  rw [eq24] at yq20 ⊢
  have ha_q24 := hu_fr (e := (Ai 32 (fun _ => 0))) (Ne.symm nq24) ha_q23
  have g23 := g22.1.cell (c0 := 16) (i0 := 0) (e := (Ai 32 (fun _ => 0))) g22.2 fq24 (by decide) rfl ⟨fun fs z => (by cases z), fun n f z => (by first | (cases z; done) | (simp at z))⟩
  obtain ⟨nq20, fq20, eq20⟩ := hu_push (e := (Ob 4 [.ref q21, .ref q22, .ref q23, .ref q24, .int 0, .int 0, .int 0, .int 0])) yq20
  rw [eq20]
  have ha_q20 := hu_fr (e := (Ob 4 [.ref q21, .ref q22, .ref q23, .ref q24, .int 0, .int 0, .int 0, .int 0])) (Ne.symm nq20) ha_q24
  have g24 := g23.1.cell (c0 := 14) (i0 := 0) (e := (Ob 4 [.ref q21, .ref q22, .ref q23, .ref q24, .int 0, .int 0, .int 0, .int 0])) g23.2 fq20 (by decide) rfl ⟨fun fs z => (by cases z), fun n f z => (by first | (cases z; done) | (simp at z))⟩
  refine pf_X11_59 rfl rfl 114 dX11_init_111 rfl hu_s (Nat.le_of_ble_eq_true rfl) ?_
  rw [hu_hu]
  refine J.aload_n 115 dX11_init_114 rfl rfl ?_
  refine nw_X11_7 rfl 118 dX11_init_115 rfl rfl rfl (fun q25 hq25 => ?_)
  obtain ⟨nq25, fq25, eq25⟩ := hu_push (e := (Ob 0 [.int 0, .null, .int 0])) hq25
  rw [eq25]
  have ha_q25 := hu_fr (e := (Ob 0 [.int 0, .null, .int 0])) (Ne.symm nq25) ha_q20
  refine J.dup 119 dX11_init_118 rfl rfl ?_
  refine cn_X11_9 rfl 122 (jl_init (d := d + 3) (hu_inn nq25)) dX11_init_119 rfl rfl rfl (Nat.le_of_ble_eq_true rfl) (Nat.zero_le _) (Nat.zero_le _) (fun r h2 hp => ?_)
  obtain ⟨rfl, rfl⟩ := hp
  rw [hu_in nq25]
  replace ha_q25 := hu_fr (e := (Ob 0 [.int 0, .ref (G 0), .int 0])) (Ne.symm nq25) ha_q20
  have g25 := g24.1.list (r0 := 5) (mc := 0) g24.2 fq25 (by simp) (fun _ => rfl)
  refine pf_X11_63 rfl rfl 125 dX11_init_122 rfl hu_s (Nat.le_of_ble_eq_true rfl) ?_
  rw [hu_hu]
  refine J.aload_n 126 dX11_init_125 rfl rfl ?_
  refine gf_X11_10 rfl 129 dX11_init_126 rfl hu_s rfl ?_
  refine nw_X11_66 rfl 132 dX11_init_129 rfl rfl rfl (fun q26 hq26 => ?_)
  obtain ⟨nq26, fq26, eq26⟩ := hu_push (e := (Ob 7 [.int 0, .int 0, .int 0])) hq26
  rw [eq26]
  have ha_q26 := hu_fr (e := (Ob 7 [.int 0, .int 0, .int 0])) (Ne.symm nq26) ha_q25
  refine J.dup 133 dX11_init_132 rfl rfl ?_
  refine J.iconst 0 134 dX11_init_133 rfl (by decide) ?_
  refine J.iconst 0 135 dX11_init_134 rfl (by decide) ?_
  refine J.iconst 0 136 dX11_init_135 rfl (by decide) ?_
  refine cn_X11_68 rfl 139 (c_plInit (d := d + 5) (hu_inn nq26)) dX11_init_136 rfl rfl rfl (Nat.le_of_ble_eq_true rfl) (Nat.zero_le _) (Nat.zero_le _) (fun r h2 hp => ?_)
  obtain ⟨rfl, rfl⟩ := hp
  rw [hu_in nq26]
  replace ha_q26 := hu_fr (e := (Ob 7 [.int 0, .int 0, .int 0])) (Ne.symm nq26) ha_q25
  have g26 := g25.1.cell (c0 := 3) (i0 := 0) (e := (Ob 7 [.int 0, .int 0, .int 0])) g25.2 fq26 (by decide) rfl ⟨fun fs z => (by cases z), fun n f z => (by first | (cases z; done) | (simp at z))⟩
  have g27 := g26.1.cell (c0 := 0) (i0 := 0) (e := (Ob 12 [.ref q1, .ref q2, .ref q3, .ref q4, .ref q5, .ref q6, .ref q10, .ref q12, .ref q16, .ref q20, .ref q25, .int 0])) g26.2 ha_q26 (by decide) rfl ⟨fun fs z => (by cases z), fun n f z => (by first | (cases z; done) | (simp at z))⟩
  have kad := g27.1.add (d := d) (h0 := h0) (r := 0) (x := 0) (M := 10) g27.2 (by simp) (Nat.zero_le _) (Nat.le_refl _) ⟨7, _, rfl, by decide⟩
  obtain ⟨fs9, hlo⟩ := g27.1.lob (r := 0) (by simp)
  refine cv_X11_71 rfl 142 (av := [.ref q26]) (b := q1) kad dX11_init_139 rfl hlo rfl rfl (Nat.le_of_ble_eq_true rfl) (by decide) (by decide) (fun r h hp => ?_)
  obtain ⟨rfl, gz, hF⟩ := hp
  refine J.pop 143 dX11_init_142 rfl rfl ?_
  rw [k0L] at gz
  exact J.vret dX11_init_143 rfl (by rw [← hpost]; exact ⟨rfl, _, rfl, gz.kr (S := s0) (X := x0) (wn := fun _ => none) (sl := fun _ => 0) (fl := 0) k0C k0P, hF⟩)
