section JM
variable {Y : YM} {d kc ks pc : Nat} {G : Nat → Nat} {lv : List (Option Value)} {st : List Value} {h : AH} {post : Option Value → AH → Prop}
theorem Ct.ofn {mc ms : Nat} {av : List Value} (n : Nat) (hy : plainName Y.1.cls = true) (hn : (lg_sl av).length ≤ Y.2.2.1) (ha : ∀ v ∈ av, v.category = 1)
    (k : J Y d G mc ms 0 (av.map some ++ List.replicate n none) [] h post) : Ct Y d G mc ms av h post := by
  refine Ct.of hy hn ha rfl (J.lvs (lv2 := av.map some ++ List.replicate n none) (fun i v q => ?_) k)
  by_cases hi : i < (av.map some).length
  · rw [List.getElem?_append_left hi] at q
    exact q
  · rw [List.getElem?_append_right (by omega)] at q
    rw [List.getElem?_replicate] at q
    split at q
    · cases q
    · cases q
theorem J.tsOut {dflt lo hi : Int} {offs : Array Int} {len : Nat} {x : Int32} (tgt : Nat) (hd : decode Y.2.1 pc = .ok (.tableswitch dflt lo hi offs, len)) (hx : x.toInt < lo ∨ hi < x.toInt) (ht : (pc : Int) + dflt = (tgt : Int)) (k : J Y d G kc ks tgt lv st h post) : J Y d G kc ks pc lv (.int x :: st) h post :=
  J.lift (fun p l e R s m args below meth c H locs cells slots Q ls hx1 hb hl hown hts k => lv_tableOut hx1 hb hd hx ht k) k
theorem J.tsIn {dflt lo hi off k : Int} {offs : Array Int} {len : Nat} {x : Int32} (tgt : Nat) (hd : decode Y.2.1 pc = .ok (.tableswitch dflt lo hi offs, len)) (hx : x.toInt = k) (h1 : ¬ k < lo) (h2 : ¬ hi < k) (ho : offs[(k - lo).toNat]? = some off) (ht : (pc : Int) + off = (tgt : Int)) (kk : J Y d G kc ks tgt lv st h post) : J Y d G kc ks pc lv (.int x :: st) h post := by
  subst hx
  exact J.lift (fun p l e R s m args below meth c H locs cells slots Q ls hx1 hb hl hown hts k => lv_tableIn hx1 hb hd h1 h2 ho ht k) kk
end JM
