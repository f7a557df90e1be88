/-! ===== the invariant of both sides, and how a call of each is joined ===== -/
/-- a number within 0 .. B -/
def rg (v : Int32) (B : Nat) : Prop := ∃ k, k ≤ B ∧ v = nI k
def ICo (c0 c1 c2 c3 c4 c6 : Int32) (l0 l1 l2 l3 l4 l5 l6 l7 : List Nat) (fl : Nat) : Prop := (l0 = List.range l0.length) ∧ (l1 = List.range l1.length) ∧ (l2 = List.range l2.length) ∧ (l3 = List.range l3.length) ∧ (l4 = List.range l4.length) ∧ (l6 = List.range l6.length) ∧ (1 ≤ l0.length) ∧ (l0.length ≤ 12) ∧ (l1.length ≤ 4) ∧ (l2.length ≤ 6) ∧ (l3.length ≤ 80) ∧ (l4.length ≤ 200) ∧ (l5.length ≤ 80) ∧ (l6.length ≤ 10) ∧ (l7.length ≤ 80) ∧ (c0 = nI l0.length) ∧ (c1 = nI l1.length) ∧ (c2 = nI l2.length) ∧ (c3 = nI l3.length) ∧ (c4 = nI l4.length) ∧ (c6 = nI l6.length) ∧ (l4.length ≤ fl)
theorem ICo.r0 {c0 c1 c2 c3 c4 c6 : Int32} {l0 l1 l2 l3 l4 l5 l6 l7 : List Nat} {fl : Nat} (h_ : ICo c0 c1 c2 c3 c4 c6 l0 l1 l2 l3 l4 l5 l6 l7 fl) : l0 = List.range l0.length := h_.1
theorem ICo.r1 {c0 c1 c2 c3 c4 c6 : Int32} {l0 l1 l2 l3 l4 l5 l6 l7 : List Nat} {fl : Nat} (h_ : ICo c0 c1 c2 c3 c4 c6 l0 l1 l2 l3 l4 l5 l6 l7 fl) : l1 = List.range l1.length := h_.2.1
theorem ICo.r2 {c0 c1 c2 c3 c4 c6 : Int32} {l0 l1 l2 l3 l4 l5 l6 l7 : List Nat} {fl : Nat} (h_ : ICo c0 c1 c2 c3 c4 c6 l0 l1 l2 l3 l4 l5 l6 l7 fl) : l2 = List.range l2.length := h_.2.2.1
theorem ICo.r3 {c0 c1 c2 c3 c4 c6 : Int32} {l0 l1 l2 l3 l4 l5 l6 l7 : List Nat} {fl : Nat} (h_ : ICo c0 c1 c2 c3 c4 c6 l0 l1 l2 l3 l4 l5 l6 l7 fl) : l3 = List.range l3.length := h_.2.2.2.1
theorem ICo.r4 {c0 c1 c2 c3 c4 c6 : Int32} {l0 l1 l2 l3 l4 l5 l6 l7 : List Nat} {fl : Nat} (h_ : ICo c0 c1 c2 c3 c4 c6 l0 l1 l2 l3 l4 l5 l6 l7 fl) : l4 = List.range l4.length := h_.2.2.2.2.1
theorem ICo.r6 {c0 c1 c2 c3 c4 c6 : Int32} {l0 l1 l2 l3 l4 l5 l6 l7 : List Nat} {fl : Nat} (h_ : ICo c0 c1 c2 c3 c4 c6 l0 l1 l2 l3 l4 l5 l6 l7 fl) : l6 = List.range l6.length := h_.2.2.2.2.2.1
theorem ICo.p0 {c0 c1 c2 c3 c4 c6 : Int32} {l0 l1 l2 l3 l4 l5 l6 l7 : List Nat} {fl : Nat} (h_ : ICo c0 c1 c2 c3 c4 c6 l0 l1 l2 l3 l4 l5 l6 l7 fl) : 1 ≤ l0.length := h_.2.2.2.2.2.2.1
theorem ICo.b0 {c0 c1 c2 c3 c4 c6 : Int32} {l0 l1 l2 l3 l4 l5 l6 l7 : List Nat} {fl : Nat} (h_ : ICo c0 c1 c2 c3 c4 c6 l0 l1 l2 l3 l4 l5 l6 l7 fl) : l0.length ≤ 12 := h_.2.2.2.2.2.2.2.1
theorem ICo.b1 {c0 c1 c2 c3 c4 c6 : Int32} {l0 l1 l2 l3 l4 l5 l6 l7 : List Nat} {fl : Nat} (h_ : ICo c0 c1 c2 c3 c4 c6 l0 l1 l2 l3 l4 l5 l6 l7 fl) : l1.length ≤ 4 := h_.2.2.2.2.2.2.2.2.1
theorem ICo.b2 {c0 c1 c2 c3 c4 c6 : Int32} {l0 l1 l2 l3 l4 l5 l6 l7 : List Nat} {fl : Nat} (h_ : ICo c0 c1 c2 c3 c4 c6 l0 l1 l2 l3 l4 l5 l6 l7 fl) : l2.length ≤ 6 := h_.2.2.2.2.2.2.2.2.2.1
theorem ICo.b3 {c0 c1 c2 c3 c4 c6 : Int32} {l0 l1 l2 l3 l4 l5 l6 l7 : List Nat} {fl : Nat} (h_ : ICo c0 c1 c2 c3 c4 c6 l0 l1 l2 l3 l4 l5 l6 l7 fl) : l3.length ≤ 80 := h_.2.2.2.2.2.2.2.2.2.2.1
theorem ICo.b4 {c0 c1 c2 c3 c4 c6 : Int32} {l0 l1 l2 l3 l4 l5 l6 l7 : List Nat} {fl : Nat} (h_ : ICo c0 c1 c2 c3 c4 c6 l0 l1 l2 l3 l4 l5 l6 l7 fl) : l4.length ≤ 200 := h_.2.2.2.2.2.2.2.2.2.2.2.1
theorem ICo.b5 {c0 c1 c2 c3 c4 c6 : Int32} {l0 l1 l2 l3 l4 l5 l6 l7 : List Nat} {fl : Nat} (h_ : ICo c0 c1 c2 c3 c4 c6 l0 l1 l2 l3 l4 l5 l6 l7 fl) : l5.length ≤ 80 := h_.2.2.2.2.2.2.2.2.2.2.2.2.1
theorem ICo.b6 {c0 c1 c2 c3 c4 c6 : Int32} {l0 l1 l2 l3 l4 l5 l6 l7 : List Nat} {fl : Nat} (h_ : ICo c0 c1 c2 c3 c4 c6 l0 l1 l2 l3 l4 l5 l6 l7 fl) : l6.length ≤ 10 := h_.2.2.2.2.2.2.2.2.2.2.2.2.2.1
theorem ICo.b7 {c0 c1 c2 c3 c4 c6 : Int32} {l0 l1 l2 l3 l4 l5 l6 l7 : List Nat} {fl : Nat} (h_ : ICo c0 c1 c2 c3 c4 c6 l0 l1 l2 l3 l4 l5 l6 l7 fl) : l7.length ≤ 80 := h_.2.2.2.2.2.2.2.2.2.2.2.2.2.2.1
theorem ICo.n0 {c0 c1 c2 c3 c4 c6 : Int32} {l0 l1 l2 l3 l4 l5 l6 l7 : List Nat} {fl : Nat} (h_ : ICo c0 c1 c2 c3 c4 c6 l0 l1 l2 l3 l4 l5 l6 l7 fl) : c0 = nI l0.length := h_.2.2.2.2.2.2.2.2.2.2.2.2.2.2.2.1
theorem ICo.n1 {c0 c1 c2 c3 c4 c6 : Int32} {l0 l1 l2 l3 l4 l5 l6 l7 : List Nat} {fl : Nat} (h_ : ICo c0 c1 c2 c3 c4 c6 l0 l1 l2 l3 l4 l5 l6 l7 fl) : c1 = nI l1.length := h_.2.2.2.2.2.2.2.2.2.2.2.2.2.2.2.2.1
theorem ICo.n2 {c0 c1 c2 c3 c4 c6 : Int32} {l0 l1 l2 l3 l4 l5 l6 l7 : List Nat} {fl : Nat} (h_ : ICo c0 c1 c2 c3 c4 c6 l0 l1 l2 l3 l4 l5 l6 l7 fl) : c2 = nI l2.length := h_.2.2.2.2.2.2.2.2.2.2.2.2.2.2.2.2.2.1
theorem ICo.n3 {c0 c1 c2 c3 c4 c6 : Int32} {l0 l1 l2 l3 l4 l5 l6 l7 : List Nat} {fl : Nat} (h_ : ICo c0 c1 c2 c3 c4 c6 l0 l1 l2 l3 l4 l5 l6 l7 fl) : c3 = nI l3.length := h_.2.2.2.2.2.2.2.2.2.2.2.2.2.2.2.2.2.2.1
theorem ICo.n4 {c0 c1 c2 c3 c4 c6 : Int32} {l0 l1 l2 l3 l4 l5 l6 l7 : List Nat} {fl : Nat} (h_ : ICo c0 c1 c2 c3 c4 c6 l0 l1 l2 l3 l4 l5 l6 l7 fl) : c4 = nI l4.length := h_.2.2.2.2.2.2.2.2.2.2.2.2.2.2.2.2.2.2.2.1
theorem ICo.n6 {c0 c1 c2 c3 c4 c6 : Int32} {l0 l1 l2 l3 l4 l5 l6 l7 : List Nat} {fl : Nat} (h_ : ICo c0 c1 c2 c3 c4 c6 l0 l1 l2 l3 l4 l5 l6 l7 fl) : c6 = nI l6.length := h_.2.2.2.2.2.2.2.2.2.2.2.2.2.2.2.2.2.2.2.2.1
theorem ICo.hfl {c0 c1 c2 c3 c4 c6 : Int32} {l0 l1 l2 l3 l4 l5 l6 l7 : List Nat} {fl : Nat} (h_ : ICo c0 c1 c2 c3 c4 c6 l0 l1 l2 l3 l4 l5 l6 l7 fl) : l4.length ≤ fl := h_.2.2.2.2.2.2.2.2.2.2.2.2.2.2.2.2.2.2.2.2.2
/-- places: height, way -/
def IPl (h w : Nat → Int32) (n : Nat) : Prop := h 0 = 0 ∧ ∀ i, i < n → rg (h i) 9 ∧ rg (w i) 60
/-- machines: tank, fuel, free -/
def IMa (t f b : Nat → Int32) (n : Nat) : Prop := (∀ i, i < n → rg (t i) 2000 ∧ rg (f i) 2000 ∧ rg (b i) 720) ∧ ∀ i, n ≤ i → b i = 0
/-- pilots: most, rest, flown, free -/
def IPi (a r f b : Nat → Int32) (n : Nat) : Prop := (∀ i, i < n → rg (a i) 720 ∧ rg (r i) 120 ∧ rg (f i) 720 ∧ rg (b i) 840) ∧ ∀ i, n ≤ i → f i = 0 ∧ b i = 0
/-- loads, what never changes: place, weight, room, kind, ready -/
def ILo (pl we ro ki re : Nat → Int32) (n np : Nat) : Prop := (∀ i, i < n → ∃ p, pl i = nI p ∧ 0 < p ∧ p < np) ∧ (∀ i, i < n → ∃ w, we i = nI w ∧ 1 ≤ w ∧ w ≤ 99) ∧ (∀ i, i < n → ∃ r, ro i = nI r ∧ 1 ≤ r ∧ r ≤ 9) ∧ (∀ i, i < n → rg (ki i) 4) ∧ (∀ i, i < n → rg (re i) 720)
theorem ILo.pl {pl we ro ki re : Nat → Int32} {n np : Nat} (h_ : ILo pl we ro ki re n np) : ∀ i, i < n → ∃ p, pl i = nI p ∧ 0 < p ∧ p < np := h_.1
theorem ILo.we {pl we ro ki re : Nat → Int32} {n np : Nat} (h_ : ILo pl we ro ki re n np) : ∀ i, i < n → ∃ w, we i = nI w ∧ 1 ≤ w ∧ w ≤ 99 := h_.2.1
theorem ILo.ro {pl we ro ki re : Nat → Int32} {n np : Nat} (h_ : ILo pl we ro ki re n np) : ∀ i, i < n → ∃ r, ro i = nI r ∧ 1 ≤ r ∧ r ≤ 9 := h_.2.2.1
theorem ILo.ki {pl we ro ki re : Nat → Int32} {n np : Nat} (h_ : ILo pl we ro ki re n np) : ∀ i, i < n → rg (ki i) 4 := h_.2.2.2.1
theorem ILo.re {pl we ro ki re : Nat → Int32} {n np : Nat} (h_ : ILo pl we ro ki re n np) : ∀ i, i < n → rg (re i) 720 := h_.2.2.2.2
/-- loads, state: state, on, by, cost -/
def ISt (st by_ co : Nat → Int32) (n nf : Nat) : Prop := (∀ i, n ≤ i → st i = 0 ∧ co i = 0) ∧ (∀ i, i < n → by_ i = -1 ∨ ∃ f, f < nf ∧ by_ i = nI f)
theorem ISt.nw {st by_ co : Nat → Int32} {n nf : Nat} (h_ : ISt st by_ co n nf) : ∀ i, n ≤ i → st i = 0 ∧ co i = 0 := h_.1
theorem ISt.by_ {st by_ co : Nat → Int32} {n nf : Nat} (h_ : ISt st by_ co n nf) : ∀ i, i < n → by_ i = -1 ∨ ∃ f, f < nf ∧ by_ i = nI f := h_.2
/-- what hangs: the lists of the machines -/
def IHa (pl ro ki st on : Nat → Int32) (H : Nat → List Nat) (nm nl : Nat) : Prop := (∀ m, m < nm → (H m).Nodup) ∧ (∀ m, m < nm → ∀ x, x ∈ H m ↔ x < nl ∧ st x = 1 ∧ on x = nI m) ∧ (∀ x, x < nl → st x = 1 → ∃ m, m < nm ∧ on x = nI m) ∧ (∀ m, m < nm → ∀ x ∈ H m, ∀ y ∈ H m, pl x = pl y) ∧ (∀ m, m < nm → ∀ x ∈ H m, ∀ y ∈ H m, x ≠ y → ¬ (ki x = 3 ∨ ki x = 1)) ∧ (∀ m, m < nm → ∀ x ∈ H m, ki x ≠ 4) ∧ (∀ m, m < nm → ∃ k, k ≤ 9 ∧ lsum ro (H m) = nI k ∧ (H m).length ≤ k)
theorem IHa.nd {pl ro ki st on : Nat → Int32} {H : Nat → List Nat} {nm nl : Nat} (h_ : IHa pl ro ki st on H nm nl) : ∀ m, m < nm → (H m).Nodup := h_.1
theorem IHa.mem {pl ro ki st on : Nat → Int32} {H : Nat → List Nat} {nm nl : Nat} (h_ : IHa pl ro ki st on H nm nl) : ∀ m, m < nm → ∀ x, x ∈ H m ↔ x < nl ∧ st x = 1 ∧ on x = nI m := h_.2.1
theorem IHa.on {pl ro ki st on : Nat → Int32} {H : Nat → List Nat} {nm nl : Nat} (h_ : IHa pl ro ki st on H nm nl) : ∀ x, x < nl → st x = 1 → ∃ m, m < nm ∧ on x = nI m := h_.2.2.1
theorem IHa.pl {pl ro ki st on : Nat → Int32} {H : Nat → List Nat} {nm nl : Nat} (h_ : IHa pl ro ki st on H nm nl) : ∀ m, m < nm → ∀ x ∈ H m, ∀ y ∈ H m, pl x = pl y := h_.2.2.2.1
theorem IHa.al {pl ro ki st on : Nat → Int32} {H : Nat → List Nat} {nm nl : Nat} (h_ : IHa pl ro ki st on H nm nl) : ∀ m, m < nm → ∀ x ∈ H m, ∀ y ∈ H m, x ≠ y → ¬ (ki x = 3 ∨ ki x = 1) := h_.2.2.2.2.1
theorem IHa.dn {pl ro ki st on : Nat → Int32} {H : Nat → List Nat} {nm nl : Nat} (h_ : IHa pl ro ki st on H nm nl) : ∀ m, m < nm → ∀ x ∈ H m, ki x ≠ 4 := h_.2.2.2.2.2.1
theorem IHa.ro {pl ro ki st on : Nat → Int32} {H : Nat → List Nat} {nm nl : Nat} (h_ : IHa pl ro ki st on H nm nl) : ∀ m, m < nm → ∃ k, k ≤ 9 ∧ lsum ro (H m) = nI k ∧ (H m).length ≤ k := h_.2.2.2.2.2.2
/-- what flies: where it lands -/
def IFl (ki st by_ la se ba : Nat → Int32) (nl nf : Nat) : Prop := ∀ x, x < nl → st x = 2 → ∃ f, f < nf ∧ by_ x = nI f ∧ la x = (if ki x = 4 then ba f else se f)
/-- a rule's text without a fault, and the component's rule of it; the rows of text, sizes; the component's rows -/
def IRu (tx mn : Nat → Int32) (xg : Nat → Nat → Int32) (sl : Nat → Nat) (n : Nat) : Prop := ∀ i, i < n → ∃ (q : Nat) (g : Nat → Int32), q ≤ 60 ∧ mn i = nI q ∧ sl i = q ∧ (∀ j, j < q → tx (60 * i + j) = g j) ∧ okT g q ∧ (∀ j, 0 ≤ g j ∧ g j ≤ 255) ∧
  xg 8 i = nI (arS g q).2.1 ∧ xg 9 i = amN (arS g q).1 (arS g q).2.1 ∧ xg 10 i = ahN (arS g q).1 (arS g q).2.1 ∧ xg (100 + i) = (arS g q).1
/-- THE LIST: as it was listed, and sorted -/
def ILi (li : Nat → Int32) (c x : Int32) (wn : Nat → Option Nat) (np : Nat) : Prop := ∃ (n : Nat) (l : List Nat), n ≤ 5 ∧ l.length = n ∧ c = nI n ∧ x = nI n ∧ (∀ j, j < n → li j = nI (l.getD j 0)) ∧ (∀ p ∈ l, 0 < p ∧ p < np) ∧
  (∀ j, j < n → wn j = some (wf wn j)) ∧ ((List.range n).map (wf wn)).Perm l ∧ (∀ i j, i < j → j < n → wf wn i ≤ wf wn j) ∧ (∀ j p, wn j = some p → p < np)
/-- the order found last -/
def IBe (c x : Int32) (bo fo : Nat → Int32) : Prop := ((c = -1 ∧ x = 0) ∨ ∃ k, k ≤ 5 ∧ c = nI k ∧ x = nI k) ∧ ∀ j, nI j < c → j < 5 → bo j = fo j
def Inv (S X : MS) (L : Nat → List Nat) (wn : Nat → Option Nat) (sl : Nat → Nat) (fl : Nat) : Prop := (ICo (S.1 3) (S.1 11) (S.1 16) (S.1 28) (S.1 45) (S.1 33) (L 0) (L 1) (L 2) (L 3) (L 4) (L 5) (L 6) (L 7) fl) ∧ (rg (S.1 0) 720) ∧ (rg (S.1 30) 60) ∧ (∀ j, 0 ≤ S.2 29 j ∧ S.2 29 j ≤ 255) ∧ (IPl (S.2 1) (S.2 2) (L 0).length) ∧ (IMa (S.2 8) (S.2 9) (S.2 10) (L 1).length) ∧ (IPi (S.2 12) (S.2 13) (S.2 14) (S.2 15) (L 2).length) ∧ (ILo (S.2 17) (S.2 18) (S.2 19) (S.2 20) (S.2 21) (L 3).length (L 0).length) ∧ (ISt (S.2 23) (S.2 25) (S.2 27) (L 3).length (L 4).length) ∧ (IHa (S.2 17) (S.2 19) (S.2 20) (S.2 23) (S.2 24) (fun m => L (8 + m)) (L 1).length (L 3).length) ∧ (IFl (S.2 20) (S.2 23) (S.2 25) (X.2 0) (S.2 40) (S.2 41) (L 3).length (L 4).length) ∧ (IRu (S.2 31) (S.2 32) X.2 sl (L 6).length) ∧ (ILi (S.2 50) (S.1 51) (X.1 3) wn (L 0).length) ∧ (IBe (S.1 55) (X.1 4) (S.2 53) (X.2 6)) ∧ (∀ j, X.2 3 j = 0 ∧ X.2 4 j = 0)
theorem Inv.co {S X : MS} {L : Nat → List Nat} {wn : Nat → Option Nat} {sl : Nat → Nat} {fl : Nat} (h_ : Inv S X L wn sl fl) : ICo (S.1 3) (S.1 11) (S.1 16) (S.1 28) (S.1 45) (S.1 33) (L 0) (L 1) (L 2) (L 3) (L 4) (L 5) (L 6) (L 7) fl := h_.1
theorem Inv.tm {S X : MS} {L : Nat → List Nat} {wn : Nat → Option Nat} {sl : Nat → Nat} {fl : Nat} (h_ : Inv S X L wn sl fl) : rg (S.1 0) 720 := h_.2.1
theorem Inv.tp {S X : MS} {L : Nat → List Nat} {wn : Nat → Option Nat} {sl : Nat → Nat} {fl : Nat} (h_ : Inv S X L wn sl fl) : rg (S.1 30) 60 := h_.2.2.1
theorem Inv.tb {S X : MS} {L : Nat → List Nat} {wn : Nat → Option Nat} {sl : Nat → Nat} {fl : Nat} (h_ : Inv S X L wn sl fl) : ∀ j, 0 ≤ S.2 29 j ∧ S.2 29 j ≤ 255 := h_.2.2.2.1
theorem Inv.pl {S X : MS} {L : Nat → List Nat} {wn : Nat → Option Nat} {sl : Nat → Nat} {fl : Nat} (h_ : Inv S X L wn sl fl) : IPl (S.2 1) (S.2 2) (L 0).length := h_.2.2.2.2.1
theorem Inv.ma {S X : MS} {L : Nat → List Nat} {wn : Nat → Option Nat} {sl : Nat → Nat} {fl : Nat} (h_ : Inv S X L wn sl fl) : IMa (S.2 8) (S.2 9) (S.2 10) (L 1).length := h_.2.2.2.2.2.1
theorem Inv.pi {S X : MS} {L : Nat → List Nat} {wn : Nat → Option Nat} {sl : Nat → Nat} {fl : Nat} (h_ : Inv S X L wn sl fl) : IPi (S.2 12) (S.2 13) (S.2 14) (S.2 15) (L 2).length := h_.2.2.2.2.2.2.1
theorem Inv.lo {S X : MS} {L : Nat → List Nat} {wn : Nat → Option Nat} {sl : Nat → Nat} {fl : Nat} (h_ : Inv S X L wn sl fl) : ILo (S.2 17) (S.2 18) (S.2 19) (S.2 20) (S.2 21) (L 3).length (L 0).length := h_.2.2.2.2.2.2.2.1
theorem Inv.st {S X : MS} {L : Nat → List Nat} {wn : Nat → Option Nat} {sl : Nat → Nat} {fl : Nat} (h_ : Inv S X L wn sl fl) : ISt (S.2 23) (S.2 25) (S.2 27) (L 3).length (L 4).length := h_.2.2.2.2.2.2.2.2.1
theorem Inv.ha {S X : MS} {L : Nat → List Nat} {wn : Nat → Option Nat} {sl : Nat → Nat} {fl : Nat} (h_ : Inv S X L wn sl fl) : IHa (S.2 17) (S.2 19) (S.2 20) (S.2 23) (S.2 24) (fun m => L (8 + m)) (L 1).length (L 3).length := h_.2.2.2.2.2.2.2.2.2.1
theorem Inv.fy {S X : MS} {L : Nat → List Nat} {wn : Nat → Option Nat} {sl : Nat → Nat} {fl : Nat} (h_ : Inv S X L wn sl fl) : IFl (S.2 20) (S.2 23) (S.2 25) (X.2 0) (S.2 40) (S.2 41) (L 3).length (L 4).length := h_.2.2.2.2.2.2.2.2.2.2.1
theorem Inv.ru {S X : MS} {L : Nat → List Nat} {wn : Nat → Option Nat} {sl : Nat → Nat} {fl : Nat} (h_ : Inv S X L wn sl fl) : IRu (S.2 31) (S.2 32) X.2 sl (L 6).length := h_.2.2.2.2.2.2.2.2.2.2.2.1
theorem Inv.li {S X : MS} {L : Nat → List Nat} {wn : Nat → Option Nat} {sl : Nat → Nat} {fl : Nat} (h_ : Inv S X L wn sl fl) : ILi (S.2 50) (S.1 51) (X.1 3) wn (L 0).length := h_.2.2.2.2.2.2.2.2.2.2.2.2.1
theorem Inv.be {S X : MS} {L : Nat → List Nat} {wn : Nat → Option Nat} {sl : Nat → Nat} {fl : Nat} (h_ : Inv S X L wn sl fl) : IBe (S.1 55) (X.1 4) (S.2 53) (X.2 6) := h_.2.2.2.2.2.2.2.2.2.2.2.2.2.1
theorem Inv.sc {S X : MS} {L : Nat → List Nat} {wn : Nat → Option Nat} {sl : Nat → Nat} {fl : Nat} (h_ : Inv S X L wn sl fl) : ∀ j, X.2 3 j = 0 ∧ X.2 4 j = 0 := h_.2.2.2.2.2.2.2.2.2.2.2.2.2.2
/-- two states that look the same to the component -/
def sS (S T : MS) (L : Nat → List Nat) (fl : Nat) : Prop := (S.1 0 = T.1 0) ∧ (S.1 30 = T.1 30) ∧ (∀ i, i < (L 0).length → S.2 1 i = T.2 1 i ∧ S.2 2 i = T.2 2 i) ∧ (∀ i, i < (L 1).length → S.2 7 i = T.2 7 i ∧ S.2 8 i = T.2 8 i ∧ S.2 9 i = T.2 9 i ∧ S.2 10 i = T.2 10 i) ∧ (∀ i, i < (L 2).length → S.2 12 i = T.2 12 i ∧ S.2 13 i = T.2 13 i ∧ S.2 14 i = T.2 14 i ∧ S.2 15 i = T.2 15 i) ∧ (∀ i, i < (L 3).length → S.2 20 i = T.2 20 i ∧ S.2 17 i = T.2 17 i ∧ S.2 19 i = T.2 19 i ∧ S.2 18 i = T.2 18 i ∧ S.2 21 i = T.2 21 i ∧ S.2 22 i = T.2 22 i ∧ S.2 23 i = T.2 23 i ∧ S.2 24 i = T.2 24 i ∧ S.2 25 i = T.2 25 i ∧ S.2 26 i = T.2 26 i ∧ S.2 27 i = T.2 27 i) ∧ (∀ i, i < fl → S.2 36 i = T.2 36 i ∧ S.2 37 i = T.2 37 i ∧ S.2 38 i = T.2 38 i ∧ S.2 39 i = T.2 39 i ∧ S.2 40 i = T.2 40 i ∧ S.2 41 i = T.2 41 i ∧ S.2 42 i = T.2 42 i ∧ S.2 43 i = T.2 43 i ∧ S.2 44 i = T.2 44 i) ∧ (S.2 4 = T.2 4) ∧ (S.2 5 = T.2 5) ∧ (S.2 6 = T.2 6) ∧ (S.2 29 = T.2 29)
theorem sS.i0 {S T : MS} {L : Nat → List Nat} {fl : Nat} (h_ : sS S T L fl) : S.1 0 = T.1 0 := h_.1
theorem sS.i30 {S T : MS} {L : Nat → List Nat} {fl : Nat} (h_ : sS S T L fl) : S.1 30 = T.1 30 := h_.2.1
theorem sS.pl {S T : MS} {L : Nat → List Nat} {fl : Nat} (h_ : sS S T L fl) : ∀ i, i < (L 0).length → S.2 1 i = T.2 1 i ∧ S.2 2 i = T.2 2 i := h_.2.2.1
theorem sS.ma {S T : MS} {L : Nat → List Nat} {fl : Nat} (h_ : sS S T L fl) : ∀ i, i < (L 1).length → S.2 7 i = T.2 7 i ∧ S.2 8 i = T.2 8 i ∧ S.2 9 i = T.2 9 i ∧ S.2 10 i = T.2 10 i := h_.2.2.2.1
theorem sS.pi {S T : MS} {L : Nat → List Nat} {fl : Nat} (h_ : sS S T L fl) : ∀ i, i < (L 2).length → S.2 12 i = T.2 12 i ∧ S.2 13 i = T.2 13 i ∧ S.2 14 i = T.2 14 i ∧ S.2 15 i = T.2 15 i := h_.2.2.2.2.1
theorem sS.lo {S T : MS} {L : Nat → List Nat} {fl : Nat} (h_ : sS S T L fl) : ∀ i, i < (L 3).length → S.2 20 i = T.2 20 i ∧ S.2 17 i = T.2 17 i ∧ S.2 19 i = T.2 19 i ∧ S.2 18 i = T.2 18 i ∧ S.2 21 i = T.2 21 i ∧ S.2 22 i = T.2 22 i ∧ S.2 23 i = T.2 23 i ∧ S.2 24 i = T.2 24 i ∧ S.2 25 i = T.2 25 i ∧ S.2 26 i = T.2 26 i ∧ S.2 27 i = T.2 27 i := h_.2.2.2.2.2.1
theorem sS.fl {S T : MS} {L : Nat → List Nat} {fl : Nat} (h_ : sS S T L fl) : ∀ i, i < fl → S.2 36 i = T.2 36 i ∧ S.2 37 i = T.2 37 i ∧ S.2 38 i = T.2 38 i ∧ S.2 39 i = T.2 39 i ∧ S.2 40 i = T.2 40 i ∧ S.2 41 i = T.2 41 i ∧ S.2 42 i = T.2 42 i ∧ S.2 43 i = T.2 43 i ∧ S.2 44 i = T.2 44 i := h_.2.2.2.2.2.2.1
theorem sS.a4 {S T : MS} {L : Nat → List Nat} {fl : Nat} (h_ : sS S T L fl) : S.2 4 = T.2 4 := h_.2.2.2.2.2.2.2.1
theorem sS.a5 {S T : MS} {L : Nat → List Nat} {fl : Nat} (h_ : sS S T L fl) : S.2 5 = T.2 5 := h_.2.2.2.2.2.2.2.2.1
theorem sS.a6 {S T : MS} {L : Nat → List Nat} {fl : Nat} (h_ : sS S T L fl) : S.2 6 = T.2 6 := h_.2.2.2.2.2.2.2.2.2.1
theorem sS.a29 {S T : MS} {L : Nat → List Nat} {fl : Nat} (h_ : sS S T L fl) : S.2 29 = T.2 29 := h_.2.2.2.2.2.2.2.2.2.2
theorem sS.same0 {S : MS} {L : Nat → List Nat} {fl : Nat} : sS S S L fl := ⟨Eq.refl _, Eq.refl _, fun _ _ => ⟨Eq.refl _, Eq.refl _⟩, fun _ _ => ⟨Eq.refl _, Eq.refl _, Eq.refl _, Eq.refl _⟩, fun _ _ => ⟨Eq.refl _, Eq.refl _, Eq.refl _, Eq.refl _⟩, fun _ _ => ⟨Eq.refl _, Eq.refl _, Eq.refl _, Eq.refl _, Eq.refl _, Eq.refl _, Eq.refl _, Eq.refl _, Eq.refl _, Eq.refl _, Eq.refl _⟩, fun _ _ => ⟨Eq.refl _, Eq.refl _, Eq.refl _, Eq.refl _, Eq.refl _, Eq.refl _, Eq.refl _, Eq.refl _, Eq.refl _⟩, Eq.refl _, Eq.refl _, Eq.refl _, Eq.refl _⟩
/-- the same rows, the same two numbers -/
theorem sS.of {S T : MS} {L : Nat → List Nat} {fl : Nat} (h0 : S.1 0 = T.1 0) (h30 : S.1 30 = T.1 30) (h : ∀ k, k < 45 → k ≠ 3 → k ≠ 11 → k ≠ 16 → k ≠ 28 → k ≠ 30 → k ≠ 31 → k ≠ 32 → k ≠ 33 → k ≠ 34 → k ≠ 35 → S.2 k = T.2 k) : sS S T L fl := by
  have e : ∀ k i, k < 45 → k ≠ 3 → k ≠ 11 → k ≠ 16 → k ≠ 28 → k ≠ 30 → k ≠ 31 → k ≠ 32 → k ≠ 33 → k ≠ 34 → k ≠ 35 → S.2 k i = T.2 k i := fun k i a1 a2 a3 a4 a5 a6 a7 a8 a9 a10 a11 => congrFun (h k a1 a2 a3 a4 a5 a6 a7 a8 a9 a10 a11) i
  refine ⟨h0, h30, fun i _ => ⟨?_, ?_⟩, fun i _ => ⟨?_, ?_, ?_, ?_⟩, fun i _ => ⟨?_, ?_, ?_, ?_⟩, fun i _ => ⟨?_, ?_, ?_, ?_, ?_, ?_, ?_, ?_, ?_, ?_, ?_⟩, fun i _ => ⟨?_, ?_, ?_, ?_, ?_, ?_, ?_, ?_, ?_⟩, ?_, ?_, ?_, ?_⟩
  all_goals first | exact e _ _ (by decide) (by decide) (by decide) (by decide) (by decide) (by decide) (by decide) (by decide) (by decide) (by decide) (by decide) | exact h _ (by decide) (by decide) (by decide) (by decide) (by decide) (by decide) (by decide) (by decide) (by decide) (by decide) (by decide)
theorem sS.cse {S T : MS} {L : Nat → List Nat} {fl : Nat} (h : sS S T L fl) (ad : Nat → Nat → Nat) (X : MS) (wn : Nat → Option Nat) (sl : Nat → Nat) : ∀ c i, cs ad T X L wn sl fl c i = cs ad S X L wn sl fl c i
  | 0, i => by
    show (if i = 0 then some (Ob 12 (fHut ad T)) else none) = (if i = 0 then some (Ob 12 (fHut ad S)) else none)
    simp only [fHut, h.i0]
  | 1, i => rfl
  | 2, i => rfl
  | 3, i => by
    show (if i < (L 0).length then some (Ob 7 (fPlace T i)) else none) = (if i < (L 0).length then some (Ob 7 (fPlace S i)) else none)
    by_cases e : i < (L 0).length
    · rw [if_pos e, if_pos e]
      obtain ⟨a, b⟩ := h.pl i e
      simp only [fPlace, a, b]
    · rw [if_neg e, if_neg e]
  | 4, i => by
    show (if i < (L 1).length then some (Ob 3 (fMach ad T i)) else none) = (if i < (L 1).length then some (Ob 3 (fMach ad S i)) else none)
    by_cases e : i < (L 1).length
    · rw [if_pos e, if_pos e]
      obtain ⟨a, b, c, d⟩ := h.ma i e
      simp only [fMach, a, b, c, d]
    · rw [if_neg e, if_neg e]
  | 5, i => by
    show (if i < (L 2).length then some (Ob 6 (fPil T i)) else none) = (if i < (L 2).length then some (Ob 6 (fPil S i)) else none)
    by_cases e : i < (L 2).length
    · rw [if_pos e, if_pos e]
      obtain ⟨a, b, c, d⟩ := h.pi i e
      simp only [fPil, a, b, c, d]
    · rw [if_neg e, if_neg e]
  | 6, i => by
    show (if i < (L 3).length then some (Ob 2 (fLoad T X i)) else none) = (if i < (L 3).length then some (Ob 2 (fLoad S X i)) else none)
    by_cases e : i < (L 3).length
    · rw [if_pos e, if_pos e]
      obtain ⟨a1, a2, a3, a4, a5, a6, a7, a8, a9, a10, a11⟩ := h.lo i e
      simp only [fLoad, a1, a2, a3, a4, a5, a6, a7, a8, a9, a10, a11]
    · rw [if_neg e, if_neg e]
  | 7, i => by
    show (if i < fl then some (Ob 1 (fFlt T i)) else none) = (if i < fl then some (Ob 1 (fFlt S i)) else none)
    by_cases e : i < fl
    · rw [if_pos e, if_pos e]
      obtain ⟨a1, a2, a3, a4, a5, a6, a7, a8, a9⟩ := h.fl i e
      simp only [fFlt, a1, a2, a3, a4, a5, a6, a7, a8, a9]
    · rw [if_neg e, if_neg e]
  | 8, i => rfl
  | 9, i => rfl
  | 10, i => rfl
  | 11, i => by
    show (if i = 0 then some (Ob 10 (fTape ad T)) else none) = (if i = 0 then some (Ob 10 (fTape ad S)) else none)
    simp only [fTape, h.i30]
  | 12, i => rfl
  | 13, i => rfl
  | 14, i => rfl
  | 15, i => by
    show aCell T X i = aCell S X i
    match i with
    | 0 => show some (Ai 12 (T.2 4)) = some (Ai 12 (S.2 4)); rw [h.a4]
    | 1 => show some (Ai 12 (T.2 5)) = some (Ai 12 (S.2 5)); rw [h.a5]
    | 2 => show some (Ai 12 (T.2 6)) = some (Ai 12 (S.2 6)); rw [h.a6]
    | 3 => show some (Ai 60 (T.2 29)) = some (Ai 60 (S.2 29)); rw [h.a29]
    | 4 => rfl
    | 5 => rfl
    | 6 => rfl
    | 7 => rfl
    | 8 => rfl
    | 9 => rfl
    | n + 10 => rfl
  | 16, i => rfl
  | 17, i => rfl
  | n + 18, i => rfl
/-- the addresses that are not the model's -/
def OM (m0 : Nat) (adm : Nat → Nat) : Nat → Prop := fun b => b ≠ m0 ∧ ∀ k, mk k = true → b ≠ adm k
def Stt (G : Nat → Nat) (x0 m0 : Nat) (adm : Nat → Nat) (h : AH) : Prop := ∃ (S X : MS) (L : Nat → List Nat) (wn : Nat → Option Nat) (sl : Nat → Nat) (fl : Nat) (ad : Nat → Nat → Nat), MR m0 adm S h ∧ KR G (OM m0 adm) ad S X L wn sl fl h ∧ ad 0 0 = x0 ∧ Inv S X L wn sl fl
theorem KF.self {m0 : Nat} {adm : Nat → Nat} {S : MS} {h : AH} (hM : MR m0 adm S h) : KF (OM m0 adm) h h := ⟨fun b hb => ⟨fun z => (by rw [z, hM.1] at hb; cases hb), fun k hk z => (by rw [z, hM.2.1 k hk] at hb; cases hb)⟩, fun _ _ => rfl⟩
theorem MR.keep {m0 : Nat} {adm : Nat → Nat} {S : MS} {h h2 : AH} (hM : MR m0 adm S h) (hF : KF (OM m0 adm) h h2) : MR m0 adm S h2 := by
  obtain ⟨h1, h3, h4, h5⟩ := hM
  refine ⟨?_, fun k hk => ?_, h4, h5⟩
  · rw [hF.2 m0 (fun z => z.1 rfl)]
    exact h1
  · rw [hF.2 (adm k) (fun z => z.2 k hk rfl)]
    exact h3 k hk
/-- a call on both sides gives one answer, and the invariant stands behind it -/
def Two (G : Nat → Nat) (x0 m0 : Nat) (adm : Nat → Nat) (Y1 Y2 : YM) (av : List Value) (h : AH) : Prop := ∃ (v : Int32) (mc ms : Nat), mc ≤ 90 ∧ ms ≤ 14100 ∧ Ct Y1 20 G mc ms (.ref x0 :: av) h (fun r h2 => r = some (.int v) ∧ (∃ fs, h2 m0 = some (Ob 13 fs)) ∧ Ct Y2 20 G 0 0 (.ref m0 :: av) h2 (fun r2 h3 => r2 = some (.int v) ∧ Stt G x0 m0 adm h3))
theorem two_of {G : Nat → Nat} {x0 m0 : Nat} {adm : Nat → Nat} {S : MS} {h : AH} {Y1 Y2 : YM} {av : List Value} {v : Int32} {mc ms : Nat} {Q : MS → Prop} (hM : MR m0 adm S h) (hmc : mc ≤ 90) (hms : ms ≤ 14100)
    (hc : Ct Y1 20 G mc ms (.ref x0 :: av) h (fun r h2 => r = some (.int v) ∧ ∃ (S1 X2 : MS) (L2 : Nat → List Nat) (wn2 : Nat → Option Nat) (sl2 : Nat → Nat) (fl2 : Nat) (ad2 : Nat → Nat → Nat), KR G (OM m0 adm) ad2 S1 X2 L2 wn2 sl2 fl2 h2 ∧ KF (OM m0 adm) h h2 ∧ ad2 0 0 = x0 ∧ ∀ S2, Q S2 → sS S1 S2 L2 fl2 ∧ Inv S2 X2 L2 wn2 sl2 fl2))
    (hk : CM Y2 20 av S (fun r S2 => r = some (.int v) ∧ Q S2)) : Two G x0 m0 adm Y1 Y2 av h := by
  refine ⟨v, mc, ms, hmc, hms, hc.weaken (fun r h2 hp => ?_)⟩
  obtain ⟨e, S1, X2, L2, wn2, sl2, fl2, ad2, hK, hF, ha, hq⟩ := hp
  refine ⟨e, ⟨_, (hM.keep hF).1⟩, (hk G m0 adm h2 h2 (hM.keep hF) (fun _ _ _ => rfl)).weaken (fun r3 h3 hp3 => ?_)⟩
  obtain ⟨S2, ⟨e3, q2⟩, hM3, hF3⟩ := hp3
  obtain ⟨s1, s2⟩ := hq S2 q2
  exact ⟨e3, S2, X2, L2, wn2, sl2, fl2, ad2, hM3, (hK.same (fun b hb => hF3 b hb.1 hb.2)).congr (s1.cse ad2 X2 wn2 sl2), ha, s2⟩
/-- a question on both sides -/
theorem two_q {G : Nat → Nat} {x0 m0 : Nat} {adm : Nat → Nat} {S X : MS} {L : Nat → List Nat} {wn : Nat → Option Nat} {sl : Nat → Nat} {fl : Nat} {ad : Nat → Nat → Nat} {h : AH} {Y1 Y2 : YM} {av : List Value} {v w : Int32} (hM : MR m0 adm S h) (hK : KR G (OM m0 adm) ad S X L wn sl fl h) (ha : ad 0 0 = x0) (hI : Inv S X L wn sl fl)
    (hc : Ct Y1 20 G 0 0 (.ref (ad 0 0) :: av) h (fun r h2 => r = some (.int w) ∧ h2 = h)) (hk : CM Y2 20 av S (fun r S2 => r = some (.int v) ∧ S2 = S)) (e : w = v) : Two G x0 m0 adm Y1 Y2 av h := by
  subst e
  rw [ha] at hc
  refine two_of (Q := fun S2 => S2 = S) hM (Nat.zero_le _) (Nat.zero_le _) (hc.weaken (fun r h2 hp => ?_)) hk
  obtain ⟨e1, rfl⟩ := hp
  exact ⟨e1, S, X, L, wn, sl, fl, ad, hK, KF.self hM, ha, fun S2 z => by subst z; exact ⟨sS.same0, hI⟩⟩
