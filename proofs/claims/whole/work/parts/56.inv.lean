/-! What holds of a desk all the time; the fitting keeps it. -/
section MK
variable {A B : AD}
def ic (y x : Int32) : Nat := if y = x then 1 else 0
theorem ct_cons (y x : Int32) (l : List Int32) : (y :: l).count x = l.count x + ic y x := by
  unfold ic
  rw [List.count_cons]
  by_cases c : y = x
  · rw [if_pos c, if_pos (beq_iff_eq.mpr c)]
  · rw [if_neg c, if_neg (fun z => c (beq_iff_eq.mp z))]
theorem ct_ins (l : List Int32) (y x : Int32) (n : Nat) : (ins0 l y n).count x ≤ l.count x + ic y x := by
  unfold ins0
  rw [← ct_cons]
  exact (List.take_sublist n (y :: l)).count_le x
theorem ct_last {l : List Int32} (hl : 0 < l.length) (x : Int32) : l.dropLast.count x + ic (l.getLastD (-1)) x = l.count x := by
  obtain ⟨ys, y, rfl⟩ : ∃ ys y, l = ys ++ [y] := ⟨l.dropLast, l.getLast (by intro z; rw [z] at hl; exact absurd hl (by decide)), (List.dropLast_concat_getLast _).symm⟩
  have e : (ys ++ [y]).getLastD (-1) = y := by simp
  have z := ct_cons y x []
  rw [List.dropLast_concat, e, List.count_append, z, List.count_nil, Nat.zero_add]
theorem ct_ix {l : List Int32} {k : Nat} (hk : k < l.length) (x : Int32) : (l.eraseIdx k).count x + ic (l.getD k (-1)) x = l.count x := by
  have e : l.getD k (-1) = l[k] := by
    rw [List.getD_eq_getElem?_getD, List.getElem?_eq_getElem hk]
    rfl
  have s : l = l.take k ++ l[k] :: l.drop (k + 1) := by
    rw [List.getElem_cons_drop, List.take_append_drop]
  have c : l.count x = (l.take k ++ l[k] :: l.drop (k + 1)).count x := congrArg (fun z => List.count x z) s
  rw [c, List.eraseIdx_eq_take_drop_succ, List.count_append, List.count_append, ct_cons, e]
  omega
theorem ct_er {l : List Int32} {y : Int32} (hy : y ∈ l) (x : Int32) : (l.erase y).count x + ic y x = l.count x := by
  have hk := List.idxOf_lt_length_iff.mpr hy
  have e : l.getD (l.idxOf y) (-1) = y := by
    rw [List.getD_eq_getElem?_getD, List.getElem?_eq_getElem hk]
    exact List.getElem_idxOf _
  have := ct_ix hk x
  rw [e, ← List.erase_eq_eraseIdx_of_idxOf rfl] at this
  exact this
def tc (A : AD) (x : Int32) : Nat := (li A 1).count x + (li A 2).count x + (li A 3).count x + (li A 4).count x
theorem tc_gn (y x : Int32) : tc (gnF A y) x ≤ tc A x + ic y x := by
  have := ct_ins (li A 4) y x 16
  have e : tc (gnF A y) x = (li A 1).count x + (li A 2).count x + (li A 3).count x + (ins0 (li A 4) y 16).count x := rfl
  rw [e]
  unfold tc
  omega
theorem tc_in {q : Nat} (hq : q = 1 ∨ q = 2 ∨ q = 3) (y x : Int32) : tc (insR A q y) x ≤ tc A x + ic y x := by
  have := ct_ins (li A q) y x 65
  rcases hq with rfl | rfl | rfl
  · have e : tc (insR A 1 y) x = (ins0 (li A 1) y 65).count x + (li A 2).count x + (li A 3).count x + (li A 4).count x := rfl
    rw [e]
    unfold tc
    omega
  · have e : tc (insR A 2 y) x = (li A 1).count x + (ins0 (li A 2) y 65).count x + (li A 3).count x + (li A 4).count x := rfl
    rw [e]
    unfold tc
    omega
  · have e : tc (insR A 3 y) x = (li A 1).count x + (li A 2).count x + (ins0 (li A 3) y 65).count x + (li A 4).count x := rfl
    rw [e]
    unfold tc
    omega
theorem tc_uL {q : Nat} (hq : q = 1 ∨ q = 2 ∨ q = 3) (l : List Int32) (x : Int32) : tc (uL A q l) x + (li A q).count x = tc A x + l.count x := by
  rcases hq with rfl | rfl | rfl
  · have e : tc (uL A 1 l) x = l.count x + (li A 2).count x + (li A 3).count x + (li A 4).count x := rfl
    rw [e]
    unfold tc
    omega
  · have e : tc (uL A 2 l) x = (li A 1).count x + l.count x + (li A 3).count x + (li A 4).count x := rfl
    rw [e]
    unfold tc
    omega
  · have e : tc (uL A 3 l) x = (li A 1).count x + (li A 2).count x + l.count x + (li A 4).count x := rfl
    rw [e]
    unfold tc
    omega
theorem tc_dr {q : Nat} (hq : q = 1 ∨ q = 2 ∨ q = 3) (hl : 0 < (li A q).length) (x : Int32) : tc (drpR A q) x + ic ((li A q).getLastD (-1)) x = tc A x := by
  have h1 := ct_last hl x
  have h2 := tc_uL (A := A) hq (li A q).dropLast x
  unfold drpR
  omega
theorem tc_mv {q : Nat} (hq : q = 1 ∨ q = 2 ∨ q = 3) (hl : 0 < (li A q).length) (x : Int32) : tc (mvD A q) x ≤ tc A x := by
  have h1 := tc_dr hq hl x
  have h2 := tc_in (A := drpR A q) (q := 2) (by omega) ((li A q).getLastD (-1)) x
  unfold mvD
  omega
theorem ins_len (l : List Int32) (y : Int32) (n : Nat) : (ins0 l y n).length = min n (l.length + 1) := by
  unfold ins0
  rw [List.length_take, List.length_cons]
/-- all but the lists, at other lists -/
def smX (A B : AD) : Prop := B.1 = A.1 ∧ B.2.2 = A.2.2
theorem smX.rf : smX A A := ⟨rfl, rfl⟩
theorem smX.tr {C : AD} (x : smX A B) (y : smX B C) : smX A C := ⟨y.1.trans x.1, y.2.trans x.2⟩
theorem smX_mvD {q : Nat} : smX A (mvD A q) := ⟨rfl, rfl⟩
theorem smX.sc (x : smX A B) (i : Nat) : sc B i = sc A i := congrFun x.1 i
theorem shV.cg (V : shV A) (e8 : sc B 8 = sc A 8) (e9 : sc B 9 = sc A 9) (e10 : sc B 10 = sc A 10) : shV B ∧ wN B = wN A ∧ mN B = mN A ∧ sN B = sN A := by
  have r : rN B = rN A := by unfold rN; rw [e8]
  have d : dN B = dN A := by unfold dN; rw [e9]
  have k : kN B = kN A := by unfold kN; rw [e10]
  have w : wN B = wN A := by unfold wN; rw [r, d]
  have mm : mN B = mN A := by unfold mN; rw [r, w]
  have s : sN B = sN A := by unfold sN; rw [mm, k]
  refine ⟨?_, w, mm, s⟩
  unfold shV
  rw [r, d, k, e8, e9, e10]
  exact V
theorem skV.cg (V : skV A) (e13 : sc B 13 = sc A 13) (e14 : sc B 14 = sc A 14) (en : nt B = nt A) : skV B := by
  obtain ⟨⟨w, w1, w2, w3⟩, v2, v3⟩ := V
  exact ⟨⟨w, w1, w2, e13.trans w3⟩, by rw [e14]; exact v2, fun k hk => by rw [en]; exact v3 k hk⟩
theorem fit1_ok : ∀ (n : Nat) (A : AD), shV A → (li A 3).length ≤ n → tot A ≤ 64 → (li (fit1 n A) 3).length ≤ sN A ∧ (li (fit1 n A) 1) = li A 1 ∧ tot (fit1 n A) ≤ 64 ∧ li (fit1 n A) 4 = li A 4 ∧ li (fit1 n A) 5 = li A 5 ∧ smX A (fit1 n A) ∧ ∀ x, tc (fit1 n A) x ≤ tc A x
  | 0, A, V, h1, h2 => ⟨by show (li A 3).length ≤ _; omega, rfl, h2, rfl, rfl, smX.rf, fun x => Nat.le_refl _⟩
  | n + 1, A, V, h1, h2 => by
    have e : fit1 (n + 1) A = if sfI (sc A 8) (sc A 9) (sc A 10) < nI (li A 3).length then fit1 n (mvD A 3) else A := rfl
    have h2' := h2
    have bb := V.b
    unfold tot at h2'
    rw [e, V.s]
    by_cases c : nI (sN A) < nI (li A 3).length
    · rw [if_pos c]
      have c' : sN A < (li A 3).length := (nI_ltI (by omega) (by omega)).mp c
      obtain ⟨V', -, -, s'⟩ := V.cg (B := mvD A 3) rfl rfl rfl
      have l3 : (li (mvD A 3) 3).length = (li A 3).length - 1 := by
        show (li A 3).dropLast.length = _
        rw [List.length_dropLast]
      have l2 : (li (mvD A 3) 2).length = min 65 ((li A 2).length + 1) := ins_len _ _ _
      have l1 : li (mvD A 3) 1 = li A 1 := rfl
      have tt : tot (mvD A 3) ≤ 64 := by
        unfold tot
        rw [l1]
        omega
      obtain ⟨a1, a2, a3, a4, a5, a6, a7⟩ := fit1_ok n (mvD A 3) V' (by omega) tt
      rw [s'] at a1
      exact ⟨a1, a2, a3, a4, a5, smX_mvD.tr a6, fun x => Nat.le_trans (a7 x) (tc_mv (by omega) (by omega) x)⟩
    · rw [if_neg c]
      have c' : ¬ sN A < (li A 3).length := fun z => c (nI_lt z (by omega))
      exact ⟨by omega, rfl, h2, rfl, rfl, smX.rf, fun x => Nat.le_refl _⟩
theorem fit2_ok : ∀ (n : Nat) (A : AD), shV A → (li A 1).length ≤ n → tot A ≤ 64 → (li (fit2 n A) 1).length ≤ wN A ∧ (li (fit2 n A) 3) = li A 3 ∧ tot (fit2 n A) ≤ 64 ∧ li (fit2 n A) 4 = li A 4 ∧ li (fit2 n A) 5 = li A 5 ∧ smX A (fit2 n A) ∧ ∀ x, tc (fit2 n A) x ≤ tc A x
  | 0, A, V, h1, h2 => ⟨by show (li A 1).length ≤ _; omega, rfl, h2, rfl, rfl, smX.rf, fun x => Nat.le_refl _⟩
  | n + 1, A, V, h1, h2 => by
    have e : fit2 (n + 1) A = if wfI (sc A 8) (sc A 9) < nI (li A 1).length then fit2 n (mvD A 1) else A := rfl
    have h2' := h2
    have bb := V.b
    unfold tot at h2'
    rw [e, V.w]
    by_cases c : nI (wN A) < nI (li A 1).length
    · rw [if_pos c]
      have c' : wN A < (li A 1).length := (nI_ltI (by omega) (by omega)).mp c
      obtain ⟨V', w', -, -⟩ := V.cg (B := mvD A 1) rfl rfl rfl
      have l1 : (li (mvD A 1) 1).length = (li A 1).length - 1 := by
        show (li A 1).dropLast.length = _
        rw [List.length_dropLast]
      have l2 : (li (mvD A 1) 2).length = min 65 ((li A 2).length + 1) := ins_len _ _ _
      have l3 : li (mvD A 1) 3 = li A 3 := rfl
      have tt : tot (mvD A 1) ≤ 64 := by
        unfold tot
        rw [l3]
        omega
      obtain ⟨a1, a2, a3, a4, a5, a6, a7⟩ := fit2_ok n (mvD A 1) V' (by omega) tt
      rw [w'] at a1
      exact ⟨a1, a2, a3, a4, a5, smX_mvD.tr a6, fun x => Nat.le_trans (a7 x) (tc_mv (by omega) (by omega) x)⟩
    · rw [if_neg c]
      have c' : ¬ wN A < (li A 1).length := fun z => c (nI_lt z (by omega))
      exact ⟨by omega, rfl, h2, rfl, rfl, smX.rf, fun x => Nat.le_refl _⟩
/-- all but the lists and how many went out -/
def smY (A B : AD) : Prop := (∀ i, i ≠ 4 → sc B i = sc A i) ∧ B.2.2 = A.2.2
theorem smY.tr {C : AD} (x : smY A B) (y : smY B C) : smY A C := ⟨fun i hi => (y.1 i hi).trans (x.1 i hi), y.2.trans x.2⟩
theorem smX.y (x : smX A B) : smY A B := ⟨fun i _ => x.sc i, x.2⟩
theorem smY.shV (x : smY A B) (V : shV A) : shV B ∧ wN B = wN A ∧ mN B = mN A ∧ sN B = sN A := V.cg (x.1 8 (by omega)) (x.1 9 (by omega)) (x.1 10 (by omega))
theorem drpF_ok (h : 0 < (li A 2).length + (li A 3).length) (h64 : (li A 2).length + (li A 3).length ≤ 64) : (li (drpF A) 2).length + (li (drpF A) 3).length + 1 = (li A 2).length + (li A 3).length ∧ (li (drpF A) 3).length ≤ (li A 3).length ∧ li (drpF A) 1 = li A 1 ∧ li (drpF A) 5 = li A 5 ∧ (li (drpF A) 4).length = min 16 ((li A 4).length + 1) ∧ smY A (drpF A) ∧ ∀ x, tc (drpF A) x ≤ tc A x := by
  obtain ⟨q23, k, hk, ek⟩ := colS_ok A ((li A 2).length + (li A 3).length) h (Nat.le_refl _)
  obtain ⟨q, hq⟩ : ∃ q, (colS A ((li A 2).length + (li A 3).length)).1 = q := ⟨_, rfl⟩
  rw [hq] at q23 hk
  have lq : (li A q).length ≤ 64 := by rcases q23 with e | e <;> rw [e] <;> omega
  have le : ((li A q).eraseIdx k).length = (li A q).length - 1 := List.length_eraseIdx_of_lt hk
  have tcx : ∀ x, tc (gnF (uL A q ((li A q).eraseIdx k)) ((li A q).getD k (-1))) x ≤ tc A x := fun x => by
    have t1 := tc_gn (A := uL A q ((li A q).eraseIdx k)) ((li A q).getD k (-1)) x
    have t2 := tc_uL (A := A) (q := q) (by omega) ((li A q).eraseIdx k) x
    have t3 := ct_ix hk x
    omega
  have l4 : (li (gnF (uL A q ((li A q).eraseIdx k)) ((li A q).getD k (-1))) 4).length = min 16 ((li A 4).length + 1) := by
    have : li (gnF (uL A q ((li A q).eraseIdx k)) ((li A q).getD k (-1))) 4 = ins0 (li A 4) ((li A q).getD k (-1)) 16 := by
      rcases q23 with e | e <;> rw [e] <;> rfl
    rw [this, ins_len]
  have sy : smY A (gnF (uL A q ((li A q).eraseIdx k)) ((li A q).getD k (-1))) := ⟨fun i hi => if_neg hi, rfl⟩
  rw [drpF_e A hq ek (by omega)]
  refine ⟨?_, ?_, ?_, ?_, l4, sy, tcx⟩
  · rcases q23 with e | e
    · rw [e] at le hk ⊢
      show ((li A 2).eraseIdx k).length + (li A 3).length + 1 = _
      omega
    · rw [e] at le hk ⊢
      show (li A 2).length + ((li A 3).eraseIdx k).length + 1 = _
      omega
  · rcases q23 with e | e
    · rw [e]
      exact Nat.le_refl _
    · rw [e] at le hk ⊢
      show ((li A 3).eraseIdx k).length ≤ _
      omega
  · rcases q23 with e | e <;> rw [e] <;> rfl
  · rcases q23 with e | e <;> rw [e] <;> rfl
theorem fit3_ok : ∀ (n : Nat) (A : AD), shV A → (li A 2).length + (li A 3).length ≤ n → (li A 2).length + (li A 3).length ≤ 64 → (li A 4).length ≤ 16 → (li (fit3 n A) 2).length + (li (fit3 n A) 3).length ≤ mN A ∧ (li (fit3 n A) 3).length ≤ (li A 3).length ∧ li (fit3 n A) 1 = li A 1 ∧ li (fit3 n A) 5 = li A 5 ∧ (li (fit3 n A) 4).length ≤ 16 ∧ smY A (fit3 n A) ∧ ∀ x, tc (fit3 n A) x ≤ tc A x
  | 0, A, V, h1, h2, h4 => ⟨by show (li A 2).length + (li A 3).length ≤ _; omega, Nat.le_refl _, rfl, rfl, h4, smX.rf.y, fun x => Nat.le_refl _⟩
  | n + 1, A, V, h1, h2, h4 => by
    have e : fit3 (n + 1) A = if mfI (sc A 8) (sc A 9) < nI (li A 2).length + nI (li A 3).length then fit3 n (drpF A) else A := rfl
    have bb := V.b
    rw [e, V.mm, nI_add]
    by_cases c : nI (mN A) < nI ((li A 2).length + (li A 3).length)
    · rw [if_pos c]
      have c' : mN A < (li A 2).length + (li A 3).length := (nI_ltI (by omega) (by omega)).mp c
      obtain ⟨b1, b2, b3, b4, b5, b6, b7⟩ := drpF_ok (A := A) (by omega) h2
      obtain ⟨V', -, m', -⟩ := b6.shV V
      obtain ⟨a1, a2, a3, a4, a5, a6, a7⟩ := fit3_ok n (drpF A) V' (by omega) (by omega) (by omega)
      rw [m'] at a1
      exact ⟨a1, Nat.le_trans a2 b2, a3.trans b3, a4.trans b4, a5, b6.tr a6, fun x => Nat.le_trans (a7 x) (b7 x)⟩
    · rw [if_neg c]
      have c' : ¬ mN A < (li A 2).length + (li A 3).length := fun z => c (nI_lt z (by omega))
      exact ⟨by omega, Nat.le_refl _, rfl, rfl, h4, smX.rf.y, fun x => Nat.le_refl _⟩
def ptV (A : AD) : Prop := (li A 1).length ≤ wN A ∧ (li A 2).length + (li A 3).length ≤ mN A ∧ (li A 3).length ≤ sN A
theorem fitF_ok (V : shV A) (ht : tot A ≤ 64) (h4 : (li A 4).length ≤ 16) : ptV (fitF A) ∧ shV (fitF A) ∧ li (fitF A) 5 = li A 5 ∧ (li (fitF A) 4).length ≤ 16 ∧ smY A (fitF A) ∧ ∀ x, tc (fitF A) x ≤ tc A x := by
  have ht' := ht
  unfold tot at ht'
  obtain ⟨a1, a2, a3, a4, a5, a6, a7⟩ := fit1_ok 65 A V (by omega) ht
  obtain ⟨V1, w1, m1, s1⟩ := a6.y.shV V
  have h1 : (li (fit1 65 A) 1).length ≤ 65 := by rw [a2]; omega
  obtain ⟨b1, b2, b3, b4, b5, b6, b7⟩ := fit2_ok 65 (fit1 65 A) V1 h1 a3
  obtain ⟨V2, w2, m2, s2⟩ := b6.y.shV V1
  have b3' := b3
  unfold tot at b3'
  obtain ⟨c1, c2, c3, c4, c5, c6, c7⟩ := fit3_ok 65 (fit2 65 (fit1 65 A)) V2 (by omega) (by omega) (by rw [b4, a4]; exact h4)
  obtain ⟨V3, w3, m3, s3⟩ := c6.shV V2
  have e : fitF A = fit3 65 (fit2 65 (fit1 65 A)) := rfl
  rw [← e] at c1 c2 c3 c4 c5 c6 c7 V3 w3 m3 s3
  refine ⟨⟨?_, ?_, ?_⟩, V3, c4.trans (b5.trans a5), c5, (a6.y.tr b6.y).tr c6, fun x => Nat.le_trans (c7 x) (Nat.le_trans (b7 x) (a7 x))⟩
  · rw [c3, w3, w2]
    omega
  · rw [m3]
    exact c1
  · rw [b2] at c2
    rw [s3, s2, s1]
    omega
end MK
