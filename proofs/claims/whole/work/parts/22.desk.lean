/-! Desk: its cells, and how they change. -/
def fctL (f : Nat → Int32) : List Int32 := [f 0, f 1, f 2, f 3, f 4, f 5, f 6, f 7]
def dkO (h : pmH) (B : Nat) (A : AD) : Prop := h[B]? = some (.inr (2, [.ref (B + 1), .ref (B + 2), .ref (B + 5), .ref (B + 10), .ref (B + 11), .ref (B + 12), .ref (B + 14), .ref (B + 16), .ref (B + 18), .ref (B + 20), .ref (B + 22), .ref (B + 24), .int (sc A 2), .int (sc A 3), .int (sc A 4), .int (sc A 5), .int (sc A 6), .int (sc A 7)]))
def shR (h : pmH) (a : Nat) (A : AD) : Prop := h[a]? = some (.inr (7, [.int (sc A 8), .int (sc A 9), .int (sc A 10)]))
def clR (h : pmH) (a : Nat) (A : AD) : Prop := ∃ dn : Int32, h[a]? = some (.inr (0, [.int (sc A 12), .int (sc A 16), .int (sc A 17), .int (sc A 18), .int dn])) ∧ (dn = 0 ∧ sc A 15 = 1 ∨ dn = 1 ∧ sc A 15 = -1)
def coR (h : pmH) (a : Nat) (A : AD) : Prop := h[a]? = some (.inr (1, [.int (sc A 19), .int (sc A 20), .int (sc A 21), .int (sc A 22)]))
def lwR (h : pmH) (L : Nat) (A : AD) : Prop := h[L]? = some (.inr (3, [.ref (L + 1), .ref (L + 3), .int (sc A 23)])) ∧ (∃ cs, rw_ h (L + 1) 400 cs ∧ (sc A 23 = -1 ∨ ∀ f, lawE cs (fctL f) = lw A f)) ∧ ∃ st, rw_ h (L + 3) 60 st
def capR (p : Nat) : Nat := if p ≤ 3 then 65 else if p = 4 then 16 else 100
def dk_ (h : pmH) (B : Nat) (A : AD) : Prop := dkO h B A ∧ shR h (B + 1) A ∧ skA h (B + 2) A ∧ lwR h (B + 5) A ∧ clR h (B + 10) A ∧ coR h (B + 11) A ∧ (∀ p, 1 ≤ p → p ≤ 5 → rw_ h (B + (10 + 2 * p)) (capR p) (li A p)) ∧ (∃ vs, rw_ h (B + 22) 8 vs) ∧ ∃ us, rw_ h (B + 24) 65 us
def frd (h h' : pmH) (B : Nat) : Prop := ∀ i, i < B ∨ B + 26 ≤ i → h'[i]? = h[i]?
theorem frd.rf {h : pmH} {B : Nat} : frd h h B := fun _ _ => rfl
theorem frd.tr {h h1 h2 : pmH} {B : Nat} (x : frd h h1 B) (y : frd h1 h2 B) : frd h h2 B := fun i p => (y i p).trans (x i p)
theorem frd_2 {h h' : pmH} {B : Nat} (p : Nat) (f : fr2 h h' (B + (10 + 2 * p))) (hp : 1 ≤ p ∧ p ≤ 7) : frd h h' B := fun i q => f i (by omega) (by omega)
theorem frd_3 {h h' : pmH} {B : Nat} (f : fr3 h h' (B + 2)) : frd h h' B := fun i q => f i (by omega) (by omega) (by omega)
theorem frd_s {h : pmH} {B j : Nat} {c : pmC} (hj : j < 26) : frd h (h.set (B + j) c) B := fun i q => hset_n (by omega)
theorem frd_0 {h : pmH} {B : Nat} {c : pmC} : frd h (h.set B c) B := fun i q => hset_n (by omega)
theorem skA.kept {h h' : pmH} {a : Nat} {A : AD} (H : skA h a A) (e0 : h'[a]? = h[a]?) (e1 : h'[a + 1]? = h[a + 1]?) (e2 : h'[a + 2]? = h[a + 2]?) : skA h' a A := by
  unfold skA
  rw [e0, e1, e2]
  exact H
theorem skA.cg {h : pmH} {a : Nat} {A A' : AD} (H : skA h a A) (x0 : sc A' 0 = sc A 0) (x1 : sc A' 1 = sc A 1) (x2 : sc A' 11 = sc A 11) (x3 : sc A' 13 = sc A 13) (x4 : sc A' 14 = sc A 14) (x5 : cn A' = cn A) (x6 : nt A' = nt A) : skA h a A' := by
  unfold skA
  rw [x0, x1, x2, x3, x4, x5, x6]
  exact H
theorem lwR.kept {h h' : pmH} {L : Nat} {A : AD} (H : lwR h L A) (e : ∀ i, L ≤ i → i ≤ L + 4 → h'[i]? = h[i]?) : lwR h' L A := by
  obtain ⟨h1, ⟨cs, h2, h3⟩, st, h4⟩ := H
  exact ⟨(e _ (by omega) (by omega)).trans h1, ⟨cs, h2.kept (e _ (by omega) (by omega)) (e _ (by omega) (by omega)), h3⟩, st, h4.kept (e _ (by omega) (by omega)) (e _ (by omega) (by omega))⟩
theorem lwR.cg {h : pmH} {L : Nat} {A A' : AD} (H : lwR h L A) (x0 : sc A' 23 = sc A 23) (x1 : lw A' = lw A) : lwR h L A' := by
  unfold lwR
  rw [x0, x1]
  exact H
theorem clR.cg {h h' : pmH} {a : Nat} {A A' : AD} (H : clR h a A) (e : h'[a]? = h[a]?) (x0 : sc A' 12 = sc A 12) (x1 : sc A' 15 = sc A 15) (x2 : sc A' 16 = sc A 16) (x3 : sc A' 17 = sc A 17) (x4 : sc A' 18 = sc A 18) : clR h' a A' := by
  unfold clR
  rw [e, x0, x1, x2, x3, x4]
  exact H
section DK
variable {h h' : pmH} {B : Nat} {A A' : AD}
theorem dkO.cg (H : dkO h B A) (e : h'[B]? = h[B]?) (x : ∀ i, 2 ≤ i → i ≤ 7 → sc A' i = sc A i) : dkO h' B A' := by
  unfold dkO
  rw [e, x 2 (by omega) (by omega), x 3 (by omega) (by omega), x 4 (by omega) (by omega), x 5 (by omega) (by omega), x 6 (by omega) (by omega), x 7 (by omega) (by omega)]
  exact H
theorem shR.cg {a : Nat} (H : shR h a A) (e : h'[a]? = h[a]?) (x : ∀ i, 8 ≤ i → i ≤ 10 → sc A' i = sc A i) : shR h' a A' := by
  unfold shR
  rw [e, x 8 (by omega) (by omega), x 9 (by omega) (by omega), x 10 (by omega) (by omega)]
  exact H
theorem coR.cg {a : Nat} (H : coR h a A) (e : h'[a]? = h[a]?) (x : ∀ i, 19 ≤ i → i ≤ 22 → sc A' i = sc A i) : coR h' a A' := by
  unfold coR
  rw [e, x 19 (by omega) (by omega), x 20 (by omega) (by omega), x 21 (by omega) (by omega), x 22 (by omega) (by omega)]
  exact H
theorem dk_.o (D : dk_ h B A) : h[B]? = some (.inr (2, [.ref (B + 1), .ref (B + 2), .ref (B + 5), .ref (B + 10), .ref (B + 11), .ref (B + 12), .ref (B + 14), .ref (B + 16), .ref (B + 18), .ref (B + 20), .ref (B + 22), .ref (B + 24), .int (sc A 2), .int (sc A 3), .int (sc A 4), .int (sc A 5), .int (sc A 6), .int (sc A 7)])) := D.1
theorem dk_.sh (D : dk_ h B A) : h[B + 1]? = some (.inr (7, [.int (sc A 8), .int (sc A 9), .int (sc A 10)])) := D.2.1
theorem dk_.sk (D : dk_ h B A) : skA h (B + 2) A := D.2.2.1
theorem dk_.ko (D : dk_ h B A) : h[B + 2]? = some (.inr (8, [.ref (B + 2 + 1), .ref (B + 2 + 2), .int (sc A 14), .int (sc A 0), .int (sc A 11), .int (sc A 13), .int (sc A 1)])) := D.2.2.1.1
theorem dk_.la (D : dk_ h B A) : lwR h (B + 5) A := D.2.2.2.1
theorem dk_.lo (D : dk_ h B A) : h[B + 5]? = some (.inr (3, [.ref (B + 5 + 1), .ref (B + 5 + 3), .int (sc A 23)])) := D.2.2.2.1.1
theorem dk_.cl (D : dk_ h B A) : clR h (B + 10) A := D.2.2.2.2.1
theorem dk_.co (D : dk_ h B A) : h[B + 11]? = some (.inr (1, [.int (sc A 19), .int (sc A 20), .int (sc A 21), .int (sc A 22)])) := D.2.2.2.2.2.1
theorem dk_.row (D : dk_ h B A) {p : Nat} (h1 : 1 ≤ p) (h2 : p ≤ 5) : rw_ h (B + (10 + 2 * p)) (capR p) (li A p) := D.2.2.2.2.2.2.1 p h1 h2
theorem dk_.w (D : dk_ h B A) : rw_ h (B + 12) 65 (li A 1) := D.row (p := 1) (by omega) (by omega)
theorem dk_.t (D : dk_ h B A) : rw_ h (B + 14) 65 (li A 2) := D.row (p := 2) (by omega) (by omega)
theorem dk_.s (D : dk_ h B A) : rw_ h (B + 16) 65 (li A 3) := D.row (p := 3) (by omega) (by omega)
theorem dk_.g (D : dk_ h B A) : rw_ h (B + 18) 16 (li A 4) := D.row (p := 4) (by omega) (by omega)
theorem dk_.p (D : dk_ h B A) : rw_ h (B + 20) 100 (li A 5) := D.row (p := 5) (by omega) (by omega)
theorem dk_.v (D : dk_ h B A) : ∃ vs, rw_ h (B + 22) 8 vs := D.2.2.2.2.2.2.2.1
theorem dk_.u (D : dk_ h B A) : ∃ us, rw_ h (B + 24) 65 us := D.2.2.2.2.2.2.2.2
theorem dk_.wo (D : dk_ h B A) : h[B + 12]? = some (.inr (6, [.ref (B + 12 + 1), .int (nI (li A 1).length)])) := D.w.o
theorem dk_.to (D : dk_ h B A) : h[B + 14]? = some (.inr (6, [.ref (B + 14 + 1), .int (nI (li A 2).length)])) := D.t.o
theorem dk_.so (D : dk_ h B A) : h[B + 16]? = some (.inr (6, [.ref (B + 16 + 1), .int (nI (li A 3).length)])) := D.s.o
theorem dk_.go (D : dk_ h B A) : h[B + 18]? = some (.inr (6, [.ref (B + 18 + 1), .int (nI (li A 4).length)])) := D.g.o
theorem dk_.po (D : dk_ h B A) : h[B + 20]? = some (.inr (6, [.ref (B + 20 + 1), .int (nI (li A 5).length)])) := D.p.o
theorem sc_ne {i j : Nat} {x : Int32} (hij : j ≠ i) : sc (uS A i x) j = sc A j := if_neg hij
/-- the desk's cells, but for those that f speaks of, are as they were -/
theorem dk_.kept (D : dk_ h B A) (f : ∀ i, B ≤ i → i < B + 26 → h'[i]? = h[i]?) : dk_ h' B A := by
  obtain ⟨vs, dv⟩ := D.v
  obtain ⟨us, du⟩ := D.u
  exact ⟨dkO.cg D.1 (f _ (by omega) (by omega)) (fun _ _ _ => rfl), shR.cg D.2.1 (f _ (by omega) (by omega)) (fun _ _ _ => rfl), D.sk.kept (f _ (by omega) (by omega)) (f _ (by omega) (by omega)) (f _ (by omega) (by omega)), D.la.kept (fun i _ _ => f i (by omega) (by omega)), D.cl.cg (f _ (by omega) (by omega)) rfl rfl rfl rfl rfl, coR.cg D.2.2.2.2.2.1 (f _ (by omega) (by omega)) (fun _ _ _ => rfl), fun p h1 h2 => (D.row h1 h2).kept (f _ (by omega) (by omega)) (f _ (by omega) (by omega)), ⟨vs, dv.kept (f _ (by omega) (by omega)) (f _ (by omega) (by omega))⟩, us, du.kept (f _ (by omega) (by omega)) (f _ (by omega) (by omega))⟩
theorem dk_.ur (D : dk_ h B A) {p : Nat} {l : List Int32} (h1 : 1 ≤ p) (h2 : p ≤ 5) (K : rw_ h' (B + (10 + 2 * p)) (capR p) l) (f : fr2 h h' (B + (10 + 2 * p))) : dk_ h' B (uL A p l) := by
  obtain ⟨vs, dv⟩ := D.v
  obtain ⟨us, du⟩ := D.u
  refine ⟨dkO.cg D.1 (f _ (by omega) (by omega)) (fun _ _ _ => rfl), shR.cg D.2.1 (f _ (by omega) (by omega)) (fun _ _ _ => rfl), (D.sk.kept (f _ (by omega) (by omega)) (f _ (by omega) (by omega)) (f _ (by omega) (by omega))).cg rfl rfl rfl rfl rfl rfl rfl, (D.la.kept (fun i _ _ => f i (by omega) (by omega))).cg rfl rfl, D.cl.cg (f _ (by omega) (by omega)) rfl rfl rfl rfl rfl, coR.cg D.2.2.2.2.2.1 (f _ (by omega) (by omega)) (fun _ _ _ => rfl), fun q g1 g2 => ?_, ⟨vs, dv.kept (f _ (by omega) (by omega)) (f _ (by omega) (by omega))⟩, us, du.kept (f _ (by omega) (by omega)) (f _ (by omega) (by omega))⟩
  rw [li_uL]
  by_cases e : q = p
  · rw [if_pos e, e]
    exact K
  · rw [if_neg e]
    exact (D.row g1 g2).kept (f _ (by omega) (by omega)) (f _ (by omega) (by omega))
theorem dk_.uw (D : dk_ h B A) {l : List Int32} (K : rw_ h' (B + 12) 65 l) (f : fr2 h h' (B + 12)) : dk_ h' B (uL A 1 l) := D.ur (p := 1) (by omega) (by omega) K f
theorem dk_.ut (D : dk_ h B A) {l : List Int32} (K : rw_ h' (B + 14) 65 l) (f : fr2 h h' (B + 14)) : dk_ h' B (uL A 2 l) := D.ur (p := 2) (by omega) (by omega) K f
theorem dk_.us (D : dk_ h B A) {l : List Int32} (K : rw_ h' (B + 16) 65 l) (f : fr2 h h' (B + 16)) : dk_ h' B (uL A 3 l) := D.ur (p := 3) (by omega) (by omega) K f
theorem dk_.ug (D : dk_ h B A) {l : List Int32} (K : rw_ h' (B + 18) 16 l) (f : fr2 h h' (B + 18)) : dk_ h' B (uL A 4 l) := D.ur (p := 4) (by omega) (by omega) K f
theorem dk_.up (D : dk_ h B A) {l : List Int32} (K : rw_ h' (B + 20) 100 l) (f : fr2 h h' (B + 20)) : dk_ h' B (uL A 5 l) := D.ur (p := 5) (by omega) (by omega) K f
theorem dk_.uv (D : dk_ h B A) {l : List Int32} (K : rw_ h' (B + 22) 8 l) (f : fr2 h h' (B + 22)) : dk_ h' B A := by
  obtain ⟨us, du⟩ := D.u
  exact ⟨dkO.cg D.1 (f _ (by omega) (by omega)) (fun _ _ _ => rfl), shR.cg D.2.1 (f _ (by omega) (by omega)) (fun _ _ _ => rfl), D.sk.kept (f _ (by omega) (by omega)) (f _ (by omega) (by omega)) (f _ (by omega) (by omega)), D.la.kept (fun i _ _ => f i (by omega) (by omega)), D.cl.cg (f _ (by omega) (by omega)) rfl rfl rfl rfl rfl, coR.cg D.2.2.2.2.2.1 (f _ (by omega) (by omega)) (fun _ _ _ => rfl), fun p h1 h2 => (D.row h1 h2).kept (f _ (by omega) (by omega)) (f _ (by omega) (by omega)), ⟨l, K⟩, us, du.kept (f _ (by omega) (by omega)) (f _ (by omega) (by omega))⟩
theorem dk_.uu (D : dk_ h B A) {l : List Int32} (K : rw_ h' (B + 24) 65 l) (f : fr2 h h' (B + 24)) : dk_ h' B A := by
  obtain ⟨vs, dv⟩ := D.v
  exact ⟨dkO.cg D.1 (f _ (by omega) (by omega)) (fun _ _ _ => rfl), shR.cg D.2.1 (f _ (by omega) (by omega)) (fun _ _ _ => rfl), D.sk.kept (f _ (by omega) (by omega)) (f _ (by omega) (by omega)) (f _ (by omega) (by omega)), D.la.kept (fun i _ _ => f i (by omega) (by omega)), D.cl.cg (f _ (by omega) (by omega)) rfl rfl rfl rfl rfl, coR.cg D.2.2.2.2.2.1 (f _ (by omega) (by omega)) (fun _ _ _ => rfl), fun p h1 h2 => (D.row h1 h2).kept (f _ (by omega) (by omega)) (f _ (by omega) (by omega)), ⟨vs, dv.kept (f _ (by omega) (by omega)) (f _ (by omega) (by omega))⟩, l, K⟩
theorem dk_.uo (D : dk_ h B A) (o : dkO h' B A') (f : ∀ i, i ≠ B → h'[i]? = h[i]?) (E : ∀ i, i < 2 ∨ 7 < i → sc A' i = sc A i) (R : A'.2 = A.2) : dk_ h' B A' := by
  obtain ⟨vs, dv⟩ := D.v
  obtain ⟨us, du⟩ := D.u
  have rl : li A' = li A := congrArg (·.1) R
  have rc : cn A' = cn A := congrArg (·.2.1) R
  have rn : nt A' = nt A := congrArg (·.2.2.1) R
  have rw' : lw A' = lw A := congrArg (·.2.2.2) R
  exact ⟨o, shR.cg D.2.1 (f _ (by omega)) (fun i _ _ => E i (by omega)), (D.sk.kept (f _ (by omega)) (f _ (by omega)) (f _ (by omega))).cg (E _ (by omega)) (E _ (by omega)) (E _ (by omega)) (E _ (by omega)) (E _ (by omega)) rc rn, (D.la.kept (fun i _ _ => f i (by omega))).cg (E _ (by omega)) rw', D.cl.cg (f _ (by omega)) (E _ (by omega)) (E _ (by omega)) (E _ (by omega)) (E _ (by omega)) (E _ (by omega)), coR.cg D.2.2.2.2.2.1 (f _ (by omega)) (fun i _ _ => E i (by omega)), fun p h1 h2 => by rw [rl]; exact (D.row h1 h2).kept (f _ (by omega)) (f _ (by omega)), ⟨vs, dv.kept (f _ (by omega)) (f _ (by omega))⟩, us, du.kept (f _ (by omega)) (f _ (by omega))⟩
theorem dk_.ush (D : dk_ h B A) (o : shR h' (B + 1) A') (f : ∀ i, i ≠ B + 1 → h'[i]? = h[i]?) (E : ∀ i, i < 8 ∨ 10 < i → sc A' i = sc A i) (R : A'.2 = A.2) : dk_ h' B A' := by
  obtain ⟨vs, dv⟩ := D.v
  obtain ⟨us, du⟩ := D.u
  have rl : li A' = li A := congrArg (·.1) R
  have rc : cn A' = cn A := congrArg (·.2.1) R
  have rn : nt A' = nt A := congrArg (·.2.2.1) R
  have rw' : lw A' = lw A := congrArg (·.2.2.2) R
  exact ⟨dkO.cg D.1 (f _ (by omega)) (fun i _ _ => E i (by omega)), o, (D.sk.kept (f _ (by omega)) (f _ (by omega)) (f _ (by omega))).cg (E _ (by omega)) (E _ (by omega)) (E _ (by omega)) (E _ (by omega)) (E _ (by omega)) rc rn, (D.la.kept (fun i _ _ => f i (by omega))).cg (E _ (by omega)) rw', D.cl.cg (f _ (by omega)) (E _ (by omega)) (E _ (by omega)) (E _ (by omega)) (E _ (by omega)) (E _ (by omega)), coR.cg D.2.2.2.2.2.1 (f _ (by omega)) (fun i _ _ => E i (by omega)), fun p h1 h2 => by rw [rl]; exact (D.row h1 h2).kept (f _ (by omega)) (f _ (by omega)), ⟨vs, dv.kept (f _ (by omega)) (f _ (by omega))⟩, us, du.kept (f _ (by omega)) (f _ (by omega))⟩
theorem dk_.ucl (D : dk_ h B A) (o : clR h' (B + 10) A') (f : ∀ i, i ≠ B + 10 → h'[i]? = h[i]?) (E : ∀ i, i ≠ 12 → i < 15 ∨ 18 < i → sc A' i = sc A i) (R : A'.2 = A.2) : dk_ h' B A' := by
  obtain ⟨vs, dv⟩ := D.v
  obtain ⟨us, du⟩ := D.u
  have rl : li A' = li A := congrArg (·.1) R
  have rc : cn A' = cn A := congrArg (·.2.1) R
  have rn : nt A' = nt A := congrArg (·.2.2.1) R
  have rw' : lw A' = lw A := congrArg (·.2.2.2) R
  exact ⟨dkO.cg D.1 (f _ (by omega)) (fun i _ _ => E i (by omega) (by omega)), shR.cg D.2.1 (f _ (by omega)) (fun i _ _ => E i (by omega) (by omega)), (D.sk.kept (f _ (by omega)) (f _ (by omega)) (f _ (by omega))).cg (E _ (by omega) (by omega)) (E _ (by omega) (by omega)) (E _ (by omega) (by omega)) (E _ (by omega) (by omega)) (E _ (by omega) (by omega)) rc rn, (D.la.kept (fun i _ _ => f i (by omega))).cg (E _ (by omega) (by omega)) rw', o, coR.cg D.2.2.2.2.2.1 (f _ (by omega)) (fun i _ _ => E i (by omega) (by omega)), fun p h1 h2 => by rw [rl]; exact (D.row h1 h2).kept (f _ (by omega)) (f _ (by omega)), ⟨vs, dv.kept (f _ (by omega)) (f _ (by omega))⟩, us, du.kept (f _ (by omega)) (f _ (by omega))⟩
theorem dk_.uco (D : dk_ h B A) (o : coR h' (B + 11) A') (f : ∀ i, i ≠ B + 11 → h'[i]? = h[i]?) (E : ∀ i, i < 19 ∨ 22 < i → sc A' i = sc A i) (R : A'.2 = A.2) : dk_ h' B A' := by
  obtain ⟨vs, dv⟩ := D.v
  obtain ⟨us, du⟩ := D.u
  have rl : li A' = li A := congrArg (·.1) R
  have rc : cn A' = cn A := congrArg (·.2.1) R
  have rn : nt A' = nt A := congrArg (·.2.2.1) R
  have rw' : lw A' = lw A := congrArg (·.2.2.2) R
  exact ⟨dkO.cg D.1 (f _ (by omega)) (fun i _ _ => E i (by omega)), shR.cg D.2.1 (f _ (by omega)) (fun i _ _ => E i (by omega)), (D.sk.kept (f _ (by omega)) (f _ (by omega)) (f _ (by omega))).cg (E _ (by omega)) (E _ (by omega)) (E _ (by omega)) (E _ (by omega)) (E _ (by omega)) rc rn, (D.la.kept (fun i _ _ => f i (by omega))).cg (E _ (by omega)) rw', D.cl.cg (f _ (by omega)) (E _ (by omega)) (E _ (by omega)) (E _ (by omega)) (E _ (by omega)) (E _ (by omega)), o, fun p h1 h2 => by rw [rl]; exact (D.row h1 h2).kept (f _ (by omega)) (f _ (by omega)), ⟨vs, dv.kept (f _ (by omega)) (f _ (by omega))⟩, us, du.kept (f _ (by omega)) (f _ (by omega))⟩
def skEq (A A' : AD) : Prop := li A' = li A ∧ lw A' = lw A ∧ ∀ i, i ≠ 0 → i ≠ 1 → i ≠ 11 → i ≠ 13 → i ≠ 14 → sc A' i = sc A i
theorem dk_.usk (D : dk_ h B A) (K : skA h' (B + 2) A') (f : fr3 h h' (B + 2)) (E : skEq A A') : dk_ h' B A' := by
  obtain ⟨vs, dv⟩ := D.v
  obtain ⟨us, du⟩ := D.u
  obtain ⟨rl, rw', E⟩ := E
  exact ⟨dkO.cg D.1 (f _ (by omega) (by omega) (by omega)) (fun i _ _ => E i (by omega) (by omega) (by omega) (by omega) (by omega)), shR.cg D.2.1 (f _ (by omega) (by omega) (by omega)) (fun i _ _ => E i (by omega) (by omega) (by omega) (by omega) (by omega)), K, (D.la.kept (fun i _ _ => f i (by omega) (by omega) (by omega))).cg (E _ (by omega) (by omega) (by omega) (by omega) (by omega)) rw', D.cl.cg (f _ (by omega) (by omega) (by omega)) (E _ (by omega) (by omega) (by omega) (by omega) (by omega)) (E _ (by omega) (by omega) (by omega) (by omega) (by omega)) (E _ (by omega) (by omega) (by omega) (by omega) (by omega)) (E _ (by omega) (by omega) (by omega) (by omega) (by omega)) (E _ (by omega) (by omega) (by omega) (by omega) (by omega)), coR.cg D.2.2.2.2.2.1 (f _ (by omega) (by omega) (by omega)) (fun i _ _ => E i (by omega) (by omega) (by omega) (by omega) (by omega)), fun p h1 h2 => by rw [rl]; exact (D.row h1 h2).kept (f _ (by omega) (by omega) (by omega)) (f _ (by omega) (by omega) (by omega)), ⟨vs, dv.kept (f _ (by omega) (by omega) (by omega)) (f _ (by omega) (by omega) (by omega))⟩, us, du.kept (f _ (by omega) (by omega) (by omega)) (f _ (by omega) (by omega) (by omega))⟩
theorem dk_.ulw (D : dk_ h B A) (K : lwR h' (B + 5) A') (f : ∀ i, i < B + 5 ∨ B + 9 < i → h'[i]? = h[i]?) (E : ∀ i, i ≠ 23 → sc A' i = sc A i) (rl : li A' = li A) (rc : cn A' = cn A) (rn : nt A' = nt A) : dk_ h' B A' := by
  obtain ⟨vs, dv⟩ := D.v
  obtain ⟨us, du⟩ := D.u
  exact ⟨dkO.cg D.1 (f _ (by omega)) (fun i _ _ => E i (by omega)), shR.cg D.2.1 (f _ (by omega)) (fun i _ _ => E i (by omega)), (D.sk.kept (f _ (by omega)) (f _ (by omega)) (f _ (by omega))).cg (E _ (by omega)) (E _ (by omega)) (E _ (by omega)) (E _ (by omega)) (E _ (by omega)) rc rn, K, D.cl.cg (f _ (by omega)) (E _ (by omega)) (E _ (by omega)) (E _ (by omega)) (E _ (by omega)) (E _ (by omega)), coR.cg D.2.2.2.2.2.1 (f _ (by omega)) (fun i _ _ => E i (by omega)), fun p h1 h2 => by rw [rl]; exact (D.row h1 h2).kept (f _ (by omega)) (f _ (by omega)), ⟨vs, dv.kept (f _ (by omega)) (f _ (by omega))⟩, us, du.kept (f _ (by omega)) (f _ (by omega))⟩
end DK
