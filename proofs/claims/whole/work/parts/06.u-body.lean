/-! ===== the law's body from its entry ===== -/
theorem KR.reO {G : Nat → Nat} {O O2 : Nat → Prop} {ad : Nat → Nat → Nat} {S X : MS} {L : Nat → List Nat} {wn : Nat → Option Nat} {sl : Nat → Nat} {fl : Nat} {h h2 : AH} (hK : KR G O ad S X L wn sl fl h) (hO : ∀ b, h b ≠ none → O2 b) (hh : ∀ b, h b ≠ none → h2 b = h b) : KR G O2 ad S X L wn sl fl h2 := by
  obtain ⟨ed, cp, h1, h2', h3, h4, h5, h6⟩ := hK
  refine ⟨ed, cp, fun c i e he => ?_, h2', fun r hr => ?_, h4, h5, h6⟩
  · obtain ⟨a, -⟩ := h1 c i e he
    have hne : h (ad c i) ≠ none := by rw [a]; exact fun z => by cases z
    exact ⟨(hh _ hne).trans a, hO _ hne⟩
  · obtain ⟨g1, g2, g3, g4⟩ := h3 r hr
    have n1 : h (ad 1 r) ≠ none := by
      obtain ⟨fs, hfs⟩ := g1.ob
      rw [hfs]; exact fun z => by cases z
    have n2 : 0 < cp r → h (ed r) ≠ none := fun hp => by
      obtain ⟨f, hf⟩ := g1.row hp
      rw [hf]; exact fun z => by cases z
    exact ⟨g1.same (hh _ n1) (fun hp => hh _ (n2 hp)), g2, hO _ n1, fun hp => hO _ (n2 hp)⟩
theorem sg0_in : ∀ k, s0.2 6 k = s0.2 6 k := fun _ => rfl
theorem inv0 : Inv s0 x0 l0 (fun _ => none) (fun _ => 0) 0 := by
  refine ⟨⟨rfl, rfl, rfl, rfl, rfl, rfl, ?_, ?_, ?_, ?_, ?_, ?_, ?_, ?_, ?_, rfl, rfl, rfl, rfl, rfl, rfl, ?_⟩, rg0, rg0, fun j => ⟨by show (0 : Int32) ≤ 0; decide, by show (0 : Int32) ≤ 255; decide⟩, ⟨rfl, fun i _ => ⟨rg0, rg0⟩⟩, ⟨fun i hi => absurd hi (Nat.not_lt_zero _), fun i _ => rfl⟩, ⟨fun i hi => absurd hi (Nat.not_lt_zero _), fun i _ => ⟨rfl, rfl⟩⟩, ⟨fun i hi => absurd hi (Nat.not_lt_zero _), fun i hi => absurd hi (Nat.not_lt_zero _), fun i hi => absurd hi (Nat.not_lt_zero _), fun i hi => absurd hi (Nat.not_lt_zero _), fun i hi => absurd hi (Nat.not_lt_zero _)⟩, ⟨fun i _ => ⟨rfl, rfl⟩, fun i hi => absurd hi (Nat.not_lt_zero _)⟩, ⟨fun i hi => absurd hi (Nat.not_lt_zero _), fun i hi => absurd hi (Nat.not_lt_zero _), fun i hi => absurd hi (Nat.not_lt_zero _), fun i hi => absurd hi (Nat.not_lt_zero _), fun i hi => absurd hi (Nat.not_lt_zero _), fun i hi => absurd hi (Nat.not_lt_zero _), fun i hi => absurd hi (Nat.not_lt_zero _)⟩, fun i hi => absurd hi (Nat.not_lt_zero _), fun i hi => absurd hi (Nat.not_lt_zero _), ?_, ⟨Or.inl ⟨rfl, rfl⟩, fun j hj _ => ?_⟩, fun j => ⟨rfl, rfl⟩⟩
  · decide
  · decide
  · decide
  · decide
  · decide
  · decide
  · decide
  · decide
  · decide
  · decide
  · exact ⟨0, [], by omega, rfl, rfl, rfl, fun j hj => absurd hj (Nat.not_lt_zero _), fun p hp => (by cases hp), fun j hj => absurd hj (Nat.not_lt_zero _), List.Perm.refl _, fun i j _ hj => absurd hj (Nat.not_lt_zero _), fun j p hj => (by cases hj)⟩
  · rfl
theorem law_body {nm : String} {G : Nat → Nat} (hn : G 5 ≤ 2560) : J (Y_L_law nm) 21 G (74 + 90 * 512) (3918 + 14100 * 512) 0 [some (.ref (G 4)), none, none, none] [] (fun _ => none) (fun r _ => r = some (.int 1)) := by
  refine nw_L_7 (kc2 := 73 + 90 * 512) (ks2 := 3906 + 14100 * 512) rfl 3 dL_law_0 rfl rfl rfl (fun a ha => ?_)
  refine J.dup 4 dL_law_3 rfl rfl ?_
  have hF0 : KF (fun _ => True) (fun _ => none) (fun _ => none) := ⟨fun _ _ => trivial, fun _ _ => rfl⟩
  refine cn_L_9 rfl 7 (c_hutInit (d := 13) hF0 ha) dL_law_4 rfl rfl rfl (Nat.le_of_ble_eq_true rfl) (by omega) (by omega) (fun r h2 hp => ?_)
  obtain ⟨rfl, ad, e0, hK, -⟩ := hp
  refine J.ast_1 8 dL_law_7 rfl (show 1 < 4 by decide) ?_
  refine nw_L_10 (kc2 := 45 + 90 * 512) (ks2 := 3593 + 14100 * 512) rfl 11 dL_law_8 rfl (by omega) (by omega) (fun b hb => ?_)
  refine J.dup 12 dL_law_11 rfl rfl ?_
  refine cn_L_12 rfl 15 (k_modInit (d := 19) hb) dL_law_12 rfl rfl rfl (Nat.le_of_ble_eq_true rfl) (by omega) (by omega) (fun r h3 hp => ?_)
  obtain ⟨rfl, adm, hM, hfr, hkp⟩ := hp
  refine J.ast_2 16 dL_law_15 rfl (show 2 < 4 by decide) ?_
  refine J.iconst 0 17 dL_law_16 rfl (by decide) ?_
  refine J.ist_3 18 dL_law_17 rfl (show 3 < 4 by decide) ?_
  have hK2 : KR G (OM b adm) ad s0 x0 l0 (fun _ => none) (fun _ => 0) 0 h3 := hK.reO (fun z hz => ⟨fun q => hz (by rw [q]; exact hb), fun k2 hk q => hz (by rw [q]; exact hfr k2 hk)⟩) hkp
  refine J.room (kc2 := 90 * 512) (ks2 := 14100 * 512) (by omega) (by omega) ?_
  exact law_loop (show G 5 ≤ 100000 by omega) 512 0 h3 (by omega) (by omega) ⟨s0, x0, l0, fun _ => none, fun _ => 0, 0, ad, hM, hK2, e0, inv0⟩
