/-! Desk: what its methods do, on the abstract desk. -/
def ins0 (xs : List Int32) (x : Int32) (cap : Nat) : List Int32 := (x :: xs).take cap
theorem rw_ins_0 {xs : List Int32} {x : Int32} {cap : Nat} : rw_ins xs 0 x cap = ins0 xs x cap := by
  unfold rw_ins ins0
  rw [List.take_zero, List.drop_zero, List.nil_append]
theorem c_Row_ins0 {h : pmH} {r cap : Nat} {xs : List Int32} (H : rw_ h r cap xs) (hc : 0 < cap) (x : Int32) (d : Nat) : PM (d + 1) 61 [.ref r, .int 0, .int x] h (fun v h' => v = none ∧ rw_ h' r cap (ins0 xs x cap) ∧ fr2 h h' r) := by
  have K := c_Row_insert H (Nat.zero_le _) hc x d
  rw [rw_ins_0] at K
  exact K
theorem fnd_m {xs : List Int32} {x : Int32} (hl : xs.length ≤ 1000) : rw_fnd xs x = -1 ↔ x ∉ xs := by
  unfold rw_fnd
  by_cases hm : x ∈ xs
  · rw [if_pos hm]
    have := List.idxOf_lt_length_iff.mpr hm
    exact ⟨fun e => absurd (e ▸ (by decide : (-1 : Int32) < 0)) (nI_pos (by omega)), fun c => absurd hm c⟩
  · rw [if_neg hm]
    exact ⟨fun _ => hm, fun _ => rfl⟩
theorem rem_e {xs : List Int32} {x : Int32} (hl : xs.length ≤ 1000) : (if rw_fnd xs x < 0 then xs else xs.eraseIdx (rw_fnd xs x).toNatClampNeg) = xs.erase x := by
  unfold rw_fnd
  by_cases hm : x ∈ xs
  · have := List.idxOf_lt_length_iff.mpr hm
    rw [if_pos hm, if_neg (nI_pos (by omega)), nI_clamp (by omega), List.erase_eq_eraseIdx_of_idxOf rfl]
  · rw [if_neg hm, if_pos (by decide), List.erase_of_not_mem hm]
theorem c_Row_rem {h : pmH} {r cap : Nat} {xs : List Int32} (H : rw_ h r cap xs) (x : Int32) (d : Nat) : PM (d + 1) 62 [.ref r, .int (rw_fnd xs x)] h (fun v h' => (∃ y, v = some (.int y)) ∧ rw_ h' r cap (xs.erase x) ∧ fr2 h h' r) := by
  have len := H.le
  refine PM_use (c_Row_removeAt H (rw_fnd xs x) d) ?_
  rintro v h' - ⟨rfl, K1, K2⟩
  rw [rem_e (by omega)] at K1
  exact ⟨⟨_, rfl⟩, K1, K2⟩
theorem c_Row_rm0 {h : pmH} {r cap : Nat} {xs : List Int32} (H : rw_ h r cap xs) (d : Nat) : PM (d + 1) 62 [.ref r, .int 0] h (fun v h' => (∃ y, v = some (.int y)) ∧ rw_ h' r cap (xs.eraseIdx 0) ∧ fr2 h h' r) := by
  refine PM_use (c_Row_removeAt H 0 d) ?_
  rintro v h' - ⟨rfl, K1, K2⟩
  rw [if_neg (by decide)] at K1
  exact ⟨⟨_, rfl⟩, K1, K2⟩
theorem c_Row_cut0 {h : pmH} {r cap : Nat} {xs : List Int32} (H : rw_ h r cap xs) (d : Nat) : PM (d + 1) 65 [.ref r, .int 0] h (fun v h' => v = none ∧ rw_ h' r cap [] ∧ fr2 h h' r) := by
  refine PM_use (c_Row_cut H 0 d) ?_
  rintro v h' - ⟨rfl, K1, K2⟩
  rw [if_neg (by decide)] at K1
  exact ⟨rfl, K1, K2⟩
def hisF (xs : List Int32) (key : Int32) : List Int32 := (if xs.length < 100 then xs else xs.eraseIdx 0) ++ [key]
def remF (A : AD) (key : Int32) : AD := uL A 5 (hisF (li A 5) key)
def partN (A : AD) (key : Int32) : Nat := if key ∈ li A 1 then 1 else if key ∈ li A 2 then 2 else if key ∈ li A 3 then 3 else 0
def insR (A : AD) (q : Nat) (x : Int32) : AD := uL A q (ins0 (li A q) x 65)
def drpR (A : AD) (q : Nat) : AD := uL A q (li A q).dropLast
def mvD (A : AD) (q : Nat) : AD := insR (drpR A q) 2 ((li A q).getLastD (-1))
def mvE (A : AD) : AD := if sfI (sc A 8) (sc A 9) (sc A 10) < nI (li A 3).length then mvD A 3 else A
def mvF (A : AD) (p : Nat) (key : Int32) : AD := mvE (insR (uL A p ((li A p).erase key)) (if p = 1 then 1 else 3) key)
def gnF (A : AD) (key : Int32) : AD := uS (uL A 4 (ins0 (li A 4) key 16)) 4 (sc A 4 + 1)
def clrF (A : AD) : AD := uS (uS (uS (uS A 19 (-1)) 20 (-1)) 21 (-1)) 22 (-1)
def cmG (A : AD) (key : Int32) : AD := if key ∈ li A 4 then uS (uL A 4 ((li A 4).erase key)) 5 (sc A 5 + 1) else A
def cmF (A : AD) (key : Int32) : AD := insR (cmG (clrF A) key) 1 key
def fcF (A : AD) (c v : Int32) : Nat → Int32
  | 0 => estF A c
  | 1 => estF A v
  | 2 => sc A 3
  | 3 => sc A 2
  | 4 => sc A 4
  | 5 => sc A 9
  | 6 => sc A 8
  | _ => c - c / 10 * 10
def beF (A : AD) (c v : Int32) : Bool := if sc A 23 = -1 then decide (estF A v < estF A c) else lw A (fcF A c v)
def lvQ (A : AD) : Nat := if 0 < nI (li A 2).length then 2 else 3
def lvW (A : AD) (c : Int32) : AD :=
  let A1 := uS (uS (insR (drpR A (lvQ A)) 2 c) 21 (sc A 20)) 22 1
  gnF (uS A1 6 (sc A1 6 + 1)) (sc A 20)
def lvX (A : AD) (c : Int32) : AD :=
  let A1 := uS (uS A 21 c) 22 0
  gnF (uS A1 7 (sc A1 7 + 1)) c
def lvH (A : AD) (c : Int32) : AD := if beF A c (sc A 20) then lvW A c else lvX A c
def lvG (A : AD) (c : Int32) : AD :=
  if nI (li A 2).length + nI (li A 3).length < mfI (sc A 8) (sc A 9) then insR A 2 c else
  if mfI (sc A 8) (sc A 9) < 1 then gnF (uS A 21 c) c else
  lvH (uS A 20 ((li A (lvQ A)).getLastD (-1))) c
def lvF (A : AD) (c : Int32) : AD := lvG (uS A 19 c) c
def fit1 : Nat → AD → AD
  | 0, A => A
  | n + 1, A => if sfI (sc A 8) (sc A 9) (sc A 10) < nI (li A 3).length then fit1 n (mvD A 3) else A
def fit2 : Nat → AD → AD
  | 0, A => A
  | n + 1, A => if wfI (sc A 8) (sc A 9) < nI (li A 1).length then fit2 n (mvD A 1) else A
/-- the row and the place of the n-th from the end, tried first -/
def colP (A : AD) (n : Nat) : Nat × Nat := if n < (li A 2).length then (2, (li A 2).length - 1 - n) else (3, (li A 2).length + (li A 3).length - 1 - n)
def colE (A : AD) (n : Nat) : Int32 := estF A ((li A (colP A n).1).getD (colP A n).2 (-1))
def colS (A : AD) : Nat → Nat × Int32 × Int32
  | 0 => (2, -1, 0)
  | n + 1 => if (colS A n).2.1 = -1 ∨ colE A n < (colS A n).2.2 then ((colP A n).1, nI (colP A n).2, colE A n) else colS A n
def drpG (A : AD) (q : Nat) (k : Int32) : AD := gnF (uL A q (if k < 0 then li A q else (li A q).eraseIdx k.toNatClampNeg)) (rw_get (li A q) k)
def drpF (A : AD) : AD := drpG A (colS A ((li A 2).length + (li A 3).length)).1 (colS A ((li A 2).length + (li A 3).length)).2.1
def fit3 : Nat → AD → AD
  | 0, A => A
  | n + 1, A => if mfI (sc A 8) (sc A 9) < nI (li A 2).length + nI (li A 3).length then fit3 n (drpF A) else A
def fitF (A : AD) : AD := fit3 65 (fit2 65 (fit1 65 A))
def srC1 (A : AD) (hit : Int32) : AD := uS (uS A 16 (sc A 16 + 1)) 17 (sc A 17 + hit)
def srC2 (A : AD) : AD := uS (uS (uS (uS A 15 (if sc A 17 < sc A 18 then - sc A 15 else sc A 15)) 16 0) 17 0) 18 (sc A 17)
def srC3 (A : AD) : AD := uS A 9 (mdI (sc A 9) (5 * sc A 15))
def srC (A : AD) (hit : Int32) : AD := if sc A 12 < 1 then A else if sc A 16 + 1 < sc A 12 then srC1 A hit else fitF (srC3 (srC2 (srC1 A hit)))
def srA (A : AD) (key : Int32) : AD := remF (uS (addF A key) 2 (sc (addF A key) 2 + 1)) key
def srB2 (A : AD) : AD := if wfI (sc A 8) (sc A 9) < nI (li A 1).length then lvF (drpR A 1) ((li A 1).getLastD (-1)) else A
def srG (A : AD) (key : Int32) : AD := if partN A key = 0 then srC (srB2 (cmF A key)) 0 else srC (mvF (uS A 3 (sc A 3 + 1)) (partN A key) key) 1
def srvF (A : AD) (key : Int32) : AD := srG (srA A key) key
/-! changes of one object of the desk -/
section DN
variable {h h' : pmH} {B : Nat} {A : AD}
theorem dk_.pc (D : dk_ h B A) (A' : AD) (x0 x1 x2 x3 : Int32) (e0 : x0 = sc A' 19 := by rfl) (e1 : x1 = sc A' 20 := by rfl) (e2 : x2 = sc A' 21 := by rfl) (e3 : x3 = sc A' 22 := by rfl) (E : ∀ i, i < 19 ∨ 22 < i → sc A' i = sc A i := by intro i hi; first | rfl | (simp only [gnF, clrF, sc_uS, sc_uL]; repeat (first | rfl | rw [if_neg (by omega)]))) (R : A'.2 = A.2 := by rfl) : ∃ h1, h.set (B + 11) (.inr (1, [.int x0, .int x1, .int x2, .int x3])) = h1 ∧ h1.length = h.length ∧ frd h h1 B ∧ dk_ h1 B A' := by
  subst e0 e1 e2 e3
  refine ⟨_, rfl, List.length_set, frd_s (by omega), D.uco ?_ (fun i hi => hset_n (Ne.symm hi)) E R⟩
  unfold coR
  rw [hset_s, D.co]
  rfl
theorem dk_.psh (D : dk_ h B A) (A' : AD) (x0 x1 x2 : Int32) (e0 : x0 = sc A' 8 := by rfl) (e1 : x1 = sc A' 9 := by rfl) (e2 : x2 = sc A' 10 := by rfl) (E : ∀ i, i < 8 ∨ 10 < i → sc A' i = sc A i := by intro i hi; first | rfl | (simp only [gnF, clrF, sc_uS, sc_uL]; repeat (first | rfl | rw [if_neg (by omega)]))) (R : A'.2 = A.2 := by rfl) : ∃ h1, h.set (B + 1) (.inr (7, [.int x0, .int x1, .int x2])) = h1 ∧ h1.length = h.length ∧ frd h h1 B ∧ dk_ h1 B A' := by
  subst e0 e1 e2
  refine ⟨_, rfl, List.length_set, frd_s (by omega), D.ush ?_ (fun i hi => hset_n (Ne.symm hi)) E R⟩
  unfold shR
  rw [hset_s, D.sh]
  rfl
theorem dk_.pd (D : dk_ h B A) (A' : AD) (x2 x3 x4 x5 x6 x7 : Int32) (e2 : x2 = sc A' 2 := by rfl) (e3 : x3 = sc A' 3 := by rfl) (e4 : x4 = sc A' 4 := by rfl) (e5 : x5 = sc A' 5 := by rfl) (e6 : x6 = sc A' 6 := by rfl) (e7 : x7 = sc A' 7 := by rfl) (E : ∀ i, i < 2 ∨ 7 < i → sc A' i = sc A i := by intro i hi; first | rfl | (simp only [gnF, clrF, sc_uS, sc_uL]; repeat (first | rfl | rw [if_neg (by omega)]))) (R : A'.2 = A.2 := by rfl) : ∃ h1, h.set B (.inr (2, [.ref (B + 1), .ref (B + 2), .ref (B + 5), .ref (B + 10), .ref (B + 11), .ref (B + 12), .ref (B + 14), .ref (B + 16), .ref (B + 18), .ref (B + 20), .ref (B + 22), .ref (B + 24), .int x2, .int x3, .int x4, .int x5, .int x6, .int x7])) = h1 ∧ h1.length = h.length ∧ frd h h1 B ∧ dk_ h1 B A' := by
  subst e2 e3 e4 e5 e6 e7
  refine ⟨_, rfl, List.length_set, frd_0, D.uo ?_ (fun i hi => hset_n (Ne.symm hi)) E R⟩
  unfold dkO
  rw [hset_s, D.o]
  rfl
theorem uL_uL {i : Nat} {x y : List Int32} : uL (uL A i x) i y = uL A i y := by
  unfold uL
  congr 2
  funext j
  unfold va_up
  dsimp only
  split <;> rfl
theorem li_same {i : Nat} {x : List Int32} : li (uL A i x) i = x := if_pos rfl
end DN
