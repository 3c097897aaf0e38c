/-! LawReader: its state, and what each piece of the law's text makes of it. -/
abbrev LZ : Type := PS × Nat × List Int32
def lTk (K : List Int32) (k : Int32) (s : LZ) : LZ := (taF K k s.1, s.2)
def lNd (K : List Int32) (k : Int32) (s : LZ) : LZ := (neF K k s.1, s.2)
def lFa (s : LZ) : LZ := (faF (nI s.1.1) s.1, s.2)
def lSt (x : Int32) (s : LZ) : LZ := (s.1, s.2.1, s.2.2 ++ [x])
def lPa (s : LZ) : LZ := (s.1, s.2.1 + 1, s.2.2)
def rgF (K : List Int32) (s : LZ) : Int32 × LZ := if taB K 60 s.1 = true then (10, lTk K 60 s) else if taB K 62 s.1 = true then (12, lTk K 62 s) else (11, lNd K 61 s)
def isVf (k : Int32) : Bool := decide (¬ k < 256 ∧ k < 264)
def rsA (K N : List Int32) (st : Int32) (s : LZ) : LZ :=
  let s2 := if isVf (kiF K s.1) = true then lSt (kiF K s.1 - 256) (lNd K (kiF K s.1) (lPa s)) else lSt (16 + nnV K N s.1) (lNd K 267 (lPa s))
  if st = -1 then s2 else lSt st s2
def rsF (K N : List Int32) : Nat → Int32 → LZ → LZ
  | 0, _, s => s
  | f + 1, st, s =>
    if (isVf (kiF K s.1) = false ∧ ¬ kiF K s.1 = 267) ∨ ¬ s.2.1 < 60 then lFa s else
    if taB K 43 (rsA K N st s).1 = true then rsF K N f 8 (lTk K 43 (rsA K N st s)) else
    if taB K 45 (rsA K N st s).1 = true then rsF K N f 9 (lTk K 45 (rsA K N st s)) else rsA K N st s
theorem rsF_s (K N : List Int32) (f : Nat) (st : Int32) (s : LZ) : rsF K N (f + 1) st s = if (isVf (kiF K s.1) = false ∧ ¬ kiF K s.1 = 267) ∨ ¬ s.2.1 < 60 then lFa s else
    if taB K 43 (rsA K N st s).1 = true then rsF K N f 8 (lTk K 43 (rsA K N st s)) else
    if taB K 45 (rsA K N st s).1 = true then rsF K N f 9 (lTk K 45 (rsA K N st s)) else rsA K N st s := rfl
def ntF (K : List Int32) : Nat → Bool → LZ → Bool × LZ
  | 0, b, s => (b, s)
  | f + 1, b, s => if taB K 266 s.1 = true then ntF K f (!b) (lTk K 266 s) else (b, s)
theorem ntF_s (K : List Int32) (f : Nat) (b : Bool) (s : LZ) : ntF K (f + 1) b s = if taB K 266 s.1 = true then ntF K f (!b) (lTk K 266 s) else (b, s) := rfl
def atC (K N : List Int32) (s : LZ) : LZ := lSt (rgF K (rsF K N 400 (-1) s)).1 (rsF K N 400 (-1) (rgF K (rsF K N 400 (-1) s)).2)
def atB (K N : List Int32) (top : Bool) (E : LZ → LZ) (s : LZ) : LZ := if kiF K s.1 = 40 ∧ top = true then lFa s else if taB K 40 s.1 = true then lNd K 41 (E (lTk K 40 s)) else atC K N s
def atF (K N : List Int32) (top : Bool) (E : LZ → LZ) (s : LZ) : LZ := if (ntF K 400 false s).1 = true then lSt 13 (atB K N top E (ntF K 400 false s).2) else atB K N top E (ntF K 400 false s).2
def alG (K : List Int32) (kd op : Int32) (A : LZ → LZ) : Nat → LZ → LZ
  | 0, s => s
  | f + 1, s => if taB K kd s.1 = true then alG K kd op A f (lSt op (A (lTk K kd s))) else s
theorem alG_s (K : List Int32) (kd op : Int32) (A : LZ → LZ) (f : Nat) (s : LZ) : alG K kd op A (f + 1) s = if taB K kd s.1 = true then alG K kd op A f (lSt op (A (lTk K kd s))) else s := rfl
def alF (K : List Int32) (kd op : Int32) (A : LZ → LZ) (s : LZ) : LZ := alG K kd op A 400 (A s)
def LE (K N : List Int32) : Nat → LZ → LZ
  | 0 => alF K 265 15 (alF K 264 14 (atF K N true id))
  | e + 1 => alF K 265 15 (alF K 264 14 (atF K N false (LE K N e)))
def frR (h h' : pmH) (R : Nat) : Prop := ∀ i, i < R ∨ R + 13 ≤ i → h'[i]? = h[i]?
theorem frR.rf {h : pmH} {R : Nat} : frR h h R := fun _ _ => rfl
theorem frR.tr {h h1 h2 : pmH} {R : Nat} (x : frR h h1 R) (y : frR h1 h2 R) : frR h h2 R := fun i p => (y i p).trans (x i p)
def lr_ (h : pmH) (R : Nat) (t : TS) (tb : Int32) (s : LZ) : Prop := h[R]? = some (.inr (4, [.ref (R + 1), .ref (R + 8)])) ∧ tk_ h (R + 1) t tb s.1.1 s.1.2 ∧ h[R + 8]? = some (.inr (3, [.ref (R + 8 + 1), .ref (R + 8 + 3), .int (nI s.2.1)])) ∧ rw_ h (R + 8 + 1) 400 (s.2.2.take 400) ∧ (∃ st, rw_ h (R + 8 + 3) 60 st) ∧ s.1.1 ≤ t.1.length ∧ s.2.1 ≤ 60
section LR
variable {h h' : pmH} {R : Nat} {t : TS} {tb : Int32} {s : LZ}
theorem lr_.o (L : lr_ h R t tb s) : h[R]? = some (.inr (4, [.ref (R + 1), .ref (R + 8)])) := L.1
theorem lr_.tt (L : lr_ h R t tb s) : tk_ h (R + 1) t tb s.1.1 s.1.2 := L.2.1
theorem lr_.to (L : lr_ h R t tb s) : h[R + 1]? = some (.inr (9, [.ref (R + 1 + 1), .ref (R + 1 + 3), .ref (R + 1 + 5), .int tb, .int (nI s.1.1), .int s.1.2])) := L.2.1.1
theorem lr_.l (L : lr_ h R t tb s) : h[R + 8]? = some (.inr (3, [.ref (R + 8 + 1), .ref (R + 8 + 3), .int (nI s.2.1)])) := L.2.2.1
theorem lr_.ss (L : lr_ h R t tb s) : rw_ h (R + 8 + 1) 400 (s.2.2.take 400) := L.2.2.2.1
theorem lr_.so (L : lr_ h R t tb s) : h[R + 8 + 1]? = some (.inr (6, [.ref (R + 8 + 1 + 1), .int (nI (s.2.2.take 400).length)])) := L.2.2.2.1.o
theorem lr_.ix (L : lr_ h R t tb s) : s.1.1 ≤ t.1.length := L.2.2.2.2.2.1
theorem lr_.pa (L : lr_ h R t tb s) : s.2.1 ≤ 60 := L.2.2.2.2.2.2
theorem lr_.i4 (L : lr_ h R t tb s) : s.1.1 ≤ 1000 := by
  have := L.ix
  have := L.tt.2.1.le
  omega
theorem lr_.ut (L : lr_ h R t tb s) {p : PS} (T : tk_ h' (R + 1) t tb p.1 p.2) (f : frT h h' (R + 1)) (hp : p.1 ≤ t.1.length) : lr_ h' R t tb (p, s.2) ∧ frR h h' R := by
  obtain ⟨st, k⟩ := L.2.2.2.2.1
  exact ⟨⟨(f _ (by omega)).trans L.1, T, (f _ (by omega)).trans L.l, L.ss.kept (f _ (by omega)) (f _ (by omega)), ⟨st, k.kept (f _ (by omega)) (f _ (by omega))⟩, hp, L.pa⟩, fun i hi => f i (by omega)⟩
theorem tk_.kept (T : tk_ h R t tb s.1.1 s.1.2) (f : ∀ i, R ≤ i → i < R + 7 → h'[i]? = h[i]?) : tk_ h' R t tb s.1.1 s.1.2 := ⟨(f _ (by omega) (by omega)).trans T.1, T.2.1.kept (f _ (by omega) (by omega)) (f _ (by omega) (by omega)), T.2.2.1.kept (f _ (by omega) (by omega)) (f _ (by omega) (by omega)), T.2.2.2.kept (f _ (by omega) (by omega)) (f _ (by omega) (by omega))⟩
theorem lr_.us (L : lr_ h R t tb s) {x : Int32} (K : rw_ h' (R + 8 + 1) 400 ((s.2.2 ++ [x]).take 400)) (f : fr2 h h' (R + 8 + 1)) : lr_ h' R t tb (lSt x s) ∧ frR h h' R := by
  obtain ⟨st, k⟩ := L.2.2.2.2.1
  exact ⟨⟨(f _ (by omega) (by omega)).trans L.1, L.tt.kept (fun i a b => f i (by omega) (by omega)), (f _ (by omega) (by omega)).trans L.l, K, ⟨st, k.kept (f _ (by omega) (by omega)) (f _ (by omega) (by omega))⟩, L.ix, L.pa⟩, fun i hi => f i (by omega) (by omega)⟩
theorem lr_.up (L : lr_ h R t tb s) (hp : s.2.1 < 60) : ∃ h1, h.set (R + 8) (.inr (3, [.ref (R + 8 + 1), .ref (R + 8 + 3), .int (nI (s.2.1 + 1))])) = h1 ∧ h1.length = h.length ∧ frR h h1 R ∧ lr_ h1 R t tb (lPa s) := by
  obtain ⟨st, k⟩ := L.2.2.2.2.1
  refine ⟨_, rfl, List.length_set, fun i hi => hset_n (by omega), (hset_n (by omega)).trans L.1, L.tt.kept (fun i a b => hset_n (by omega)), ?_, L.ss.kept (hset_n (by omega)) (hset_n (by omega)), ⟨st, k.kept (hset_n (by omega)) (hset_n (by omega))⟩, L.ix, hp⟩
  rw [hset_s, L.l]
  rfl
theorem taF_ix {K : List Int32} {k : Int32} {p : PS} (hk : k ≠ -1) (hp : p.1 ≤ K.length) : (taF K k p).1 ≤ K.length := by
  unfold taF
  split
  · rename_i c
    exact taB_lt hk c
  · exact hp
theorem neF_ix {K : List Int32} {k : Int32} {p : PS} (hk : k ≠ -1) (hp : p.1 ≤ K.length) : (neF K k p).1 ≤ K.length := by
  unfold neF
  split
  · rename_i c
    exact taB_lt hk c
  · unfold faF
    split
    · exact hp
    · exact hp
theorem faF_ix {x : Int32} {p : PS} {n : Nat} (hp : p.1 ≤ n) : (faF x p).1 ≤ n := by
  unfold faF
  split
  · exact hp
  · exact hp
theorem c_R_takes (L : lr_ h R t tb s) (k : Int32) (hk : k ≠ -1) (d : Nat) : PM (d + 2) 106 [.ref (R + 1), .int k] h (fun v h' => v = some (.int (if taB t.1 k s.1 then 1 else 0)) ∧ lr_ h' R t tb (lTk t.1 k s) ∧ frR h h' R) := by
  refine PM_use (c_T_takes L.tt L.i4 k d) ?_
  rintro v h' - ⟨rfl, K1, K2⟩
  exact ⟨rfl, L.ut K1 K2 (taF_ix hk L.ix)⟩
theorem c_R_need (L : lr_ h R t tb s) (k : Int32) (hk : k ≠ -1) (d : Nat) : PM (d + 2) 107 [.ref (R + 1), .int k] h (fun v h' => v = none ∧ lr_ h' R t tb (lNd t.1 k s) ∧ frR h h' R) := by
  refine PM_use (c_T_need L.tt L.i4 k d) ?_
  rintro v h' - ⟨rfl, K1, K2⟩
  exact ⟨rfl, L.ut K1 K2 (neF_ix hk L.ix)⟩
theorem c_R_needNumber (L : lr_ h R t tb s) (d : Nat) : PM (d + 2) 108 [.ref (R + 1)] h (fun v h' => v = some (.int (nnV t.1 t.2.2 s.1)) ∧ lr_ h' R t tb (lNd t.1 267 s) ∧ frR h h' R) := by
  refine PM_use (c_T_needNumber L.tt L.i4 d) ?_
  rintro v h' - ⟨rfl, K1, K2⟩
  exact ⟨rfl, L.ut K1 K2 (neF_ix (by decide) L.ix)⟩
theorem c_R_fail (L : lr_ h R t tb s) (d : Nat) : PM (d + 1) 110 [.ref (R + 1), .int (nI s.1.1)] h (fun v h' => v = none ∧ lr_ h' R t tb (lFa s) ∧ frR h h' R) := by
  refine PM_use (c_T_fail L.tt (nI s.1.1) d) ?_
  rintro v h' - ⟨rfl, K1, K2⟩
  exact ⟨rfl, L.ut K1 K2 (faF_ix L.ix)⟩
theorem c_R_step (L : lr_ h R t tb s) (x : Int32) (d : Nat) : PM (d + 1) 60 [.ref (R + 8 + 1), .int x] h (fun v h' => v = none ∧ lr_ h' R t tb (lSt x s) ∧ frR h h' R) := by
  refine PM_use (c_Row_appT L.ss x d) ?_
  rintro v h' - ⟨rfl, K1, K2⟩
  exact ⟨rfl, L.us K1 K2⟩
theorem c_R_readSign (L : lr_ h R t tb s) (d : Nat) : PM (d + 3) 38 [.ref R] h (fun v h' => v = some (.int (rgF t.1 s).1) ∧ lr_ h' R t tb (rgF t.1 s).2 ∧ frR h h' R) := by
  have ro := L.o
  have to := L.to
  refine en_X4_readSign rfl ?_
  simp only [w_X4_readSign_0, w_X4_readSign_1, w_X4_readSign_4, w_X4_readSign_6, w_X4_readSign_9, w_X4_readSign_12, w_X4_readSign_14, w_X4_readSign_15, w_X4_readSign_16, w_X4_readSign_19, w_X4_readSign_21, w_X4_readSign_24, w_X4_readSign_27, w_X4_readSign_29, w_X4_readSign_30, w_X4_readSign_31, w_X4_readSign_34, w_X4_readSign_36, w_X4_readSign_39, w_X4_readSign_41, pm_1i_c, pm_2i_c, pm_1l_c, pm_2l_c, pm_1a_c, pm_ia_c, pm_iia_c, pm_va_c, pm_cp_c, pm_k0_c, pm_k1_c, pm_k2_c, pm_k3_c, pm_s1_c, pm_s2_c, pm_s3_c, pm_s4_c, pm_ri_c, pm_ra_c, pm_rn_c, pm_rk_i, pm_rk_z, pm_rk_a, pm_vk_i, pm_vk_z, pm_vk_a, pm_cti, pm_ctr, pm_ldi_z, pm_ldi_s, pm_lda_z, pm_lda_s, pm_cat_n, pm_cat_i, pm_cat_r, pm_cat_l, pm_obj, pm_arr, pm_opt, pm_ird, pm_aln, List.getElem?_cons_zero, List.getElem?_cons_succ, List.set_cons_zero, List.set_cons_succ, List.length_cons, List.length_nil, List.length_set, true_and, and_true, Nat.add_zero, Nat.zero_add, Nat.le_refl, Nat.reduceAdd, Nat.reduceLT, Nat.reduceLeDiff, Nat.zero_le, not_false_eq_true, not_true_eq_false, false_implies, implies_true, true_implies, Nat.zero_lt_succ, Nat.lt_add_one, ro, to]
  refine PM_use (c_R_takes L 60 (by decide) d) ?_
  rintro v h1 l1 ⟨rfl, L1, f1⟩
  unfold rgF
  rcases Bool.eq_false_or_eq_true (taB t.1 60 s.1) with c | c
  · simp only [c, if_true]
    show W_X4_readSign _ _ _ _ _ _ _ _ _
    simp only [w_X4_readSign_0, w_X4_readSign_1, w_X4_readSign_4, w_X4_readSign_6, w_X4_readSign_9, w_X4_readSign_12, w_X4_readSign_14, w_X4_readSign_15, w_X4_readSign_16, w_X4_readSign_19, w_X4_readSign_21, w_X4_readSign_24, w_X4_readSign_27, w_X4_readSign_29, w_X4_readSign_30, w_X4_readSign_31, w_X4_readSign_34, w_X4_readSign_36, w_X4_readSign_39, w_X4_readSign_41, pm_1i_c, pm_2i_c, pm_1l_c, pm_2l_c, pm_1a_c, pm_ia_c, pm_iia_c, pm_va_c, pm_cp_c, pm_k0_c, pm_k1_c, pm_k2_c, pm_k3_c, pm_s1_c, pm_s2_c, pm_s3_c, pm_s4_c, pm_ri_c, pm_ra_c, pm_rn_c, pm_rk_i, pm_rk_z, pm_rk_a, pm_vk_i, pm_vk_z, pm_vk_a, pm_cti, pm_ctr, pm_ldi_z, pm_ldi_s, pm_lda_z, pm_lda_s, pm_cat_n, pm_cat_i, pm_cat_r, pm_cat_l, pm_obj, pm_arr, pm_opt, pm_ird, pm_aln, List.getElem?_cons_zero, List.getElem?_cons_succ, List.set_cons_zero, List.set_cons_succ, List.length_cons, List.length_nil, List.length_set, true_and, and_true, Nat.add_zero, Nat.zero_add, Nat.le_refl, Nat.reduceAdd, Nat.reduceLT, Nat.reduceLeDiff, Nat.zero_le, not_false_eq_true, not_true_eq_false, false_implies, implies_true, true_implies, Nat.zero_lt_succ, Nat.lt_add_one, pm_tl_n, pm_tl_s, sc_uL, l1, show ¬ (1 : Int32) = 0 by decide]
    exact ⟨L1, f1⟩
  · have e1 : lTk t.1 60 s = s := by unfold lTk taF; rw [if_neg (by rw [c]; decide)]
    rw [e1] at L1
    have ro1 := L1.o
    have to1 := L1.to
    simp only [c, Bool.false_eq_true, if_false]
    show W_X4_readSign _ _ _ _ _ _ _ _ _
    simp only [w_X4_readSign_0, w_X4_readSign_1, w_X4_readSign_4, w_X4_readSign_6, w_X4_readSign_9, w_X4_readSign_12, w_X4_readSign_14, w_X4_readSign_15, w_X4_readSign_16, w_X4_readSign_19, w_X4_readSign_21, w_X4_readSign_24, w_X4_readSign_27, w_X4_readSign_29, w_X4_readSign_30, w_X4_readSign_31, w_X4_readSign_34, w_X4_readSign_36, w_X4_readSign_39, w_X4_readSign_41, pm_1i_c, pm_2i_c, pm_1l_c, pm_2l_c, pm_1a_c, pm_ia_c, pm_iia_c, pm_va_c, pm_cp_c, pm_k0_c, pm_k1_c, pm_k2_c, pm_k3_c, pm_s1_c, pm_s2_c, pm_s3_c, pm_s4_c, pm_ri_c, pm_ra_c, pm_rn_c, pm_rk_i, pm_rk_z, pm_rk_a, pm_vk_i, pm_vk_z, pm_vk_a, pm_cti, pm_ctr, pm_ldi_z, pm_ldi_s, pm_lda_z, pm_lda_s, pm_cat_n, pm_cat_i, pm_cat_r, pm_cat_l, pm_obj, pm_arr, pm_opt, pm_ird, pm_aln, List.getElem?_cons_zero, List.getElem?_cons_succ, List.set_cons_zero, List.set_cons_succ, List.length_cons, List.length_nil, List.length_set, true_and, and_true, Nat.add_zero, Nat.zero_add, Nat.le_refl, Nat.reduceAdd, Nat.reduceLT, Nat.reduceLeDiff, Nat.zero_le, not_false_eq_true, not_true_eq_false, false_implies, implies_true, true_implies, Nat.zero_lt_succ, Nat.lt_add_one, pm_tl_n, pm_tl_s, sc_uL, l1, ro1, to1]
    refine PM_use (c_R_takes L1 62 (by decide) d) ?_
    rintro v h2 l2 ⟨rfl, L2, f2⟩
    rcases Bool.eq_false_or_eq_true (taB t.1 62 s.1) with c2 | c2
    · simp only [c2, if_true]
      show W_X4_readSign _ _ _ _ _ _ _ _ _
      simp only [w_X4_readSign_0, w_X4_readSign_1, w_X4_readSign_4, w_X4_readSign_6, w_X4_readSign_9, w_X4_readSign_12, w_X4_readSign_14, w_X4_readSign_15, w_X4_readSign_16, w_X4_readSign_19, w_X4_readSign_21, w_X4_readSign_24, w_X4_readSign_27, w_X4_readSign_29, w_X4_readSign_30, w_X4_readSign_31, w_X4_readSign_34, w_X4_readSign_36, w_X4_readSign_39, w_X4_readSign_41, pm_1i_c, pm_2i_c, pm_1l_c, pm_2l_c, pm_1a_c, pm_ia_c, pm_iia_c, pm_va_c, pm_cp_c, pm_k0_c, pm_k1_c, pm_k2_c, pm_k3_c, pm_s1_c, pm_s2_c, pm_s3_c, pm_s4_c, pm_ri_c, pm_ra_c, pm_rn_c, pm_rk_i, pm_rk_z, pm_rk_a, pm_vk_i, pm_vk_z, pm_vk_a, pm_cti, pm_ctr, pm_ldi_z, pm_ldi_s, pm_lda_z, pm_lda_s, pm_cat_n, pm_cat_i, pm_cat_r, pm_cat_l, pm_obj, pm_arr, pm_opt, pm_ird, pm_aln, List.getElem?_cons_zero, List.getElem?_cons_succ, List.set_cons_zero, List.set_cons_succ, List.length_cons, List.length_nil, List.length_set, true_and, and_true, Nat.add_zero, Nat.zero_add, Nat.le_refl, Nat.reduceAdd, Nat.reduceLT, Nat.reduceLeDiff, Nat.zero_le, not_false_eq_true, not_true_eq_false, false_implies, implies_true, true_implies, Nat.zero_lt_succ, Nat.lt_add_one, pm_tl_n, pm_tl_s, sc_uL, l2, l1, show ¬ (1 : Int32) = 0 by decide]
      exact ⟨L2, f1.tr f2⟩
    · have e2 : lTk t.1 62 s = s := by unfold lTk taF; rw [if_neg (by rw [c2]; decide)]
      rw [e2] at L2
      have ro2 := L2.o
      have to2 := L2.to
      simp only [c2, Bool.false_eq_true, if_false]
      show W_X4_readSign _ _ _ _ _ _ _ _ _
      simp only [w_X4_readSign_0, w_X4_readSign_1, w_X4_readSign_4, w_X4_readSign_6, w_X4_readSign_9, w_X4_readSign_12, w_X4_readSign_14, w_X4_readSign_15, w_X4_readSign_16, w_X4_readSign_19, w_X4_readSign_21, w_X4_readSign_24, w_X4_readSign_27, w_X4_readSign_29, w_X4_readSign_30, w_X4_readSign_31, w_X4_readSign_34, w_X4_readSign_36, w_X4_readSign_39, w_X4_readSign_41, pm_1i_c, pm_2i_c, pm_1l_c, pm_2l_c, pm_1a_c, pm_ia_c, pm_iia_c, pm_va_c, pm_cp_c, pm_k0_c, pm_k1_c, pm_k2_c, pm_k3_c, pm_s1_c, pm_s2_c, pm_s3_c, pm_s4_c, pm_ri_c, pm_ra_c, pm_rn_c, pm_rk_i, pm_rk_z, pm_rk_a, pm_vk_i, pm_vk_z, pm_vk_a, pm_cti, pm_ctr, pm_ldi_z, pm_ldi_s, pm_lda_z, pm_lda_s, pm_cat_n, pm_cat_i, pm_cat_r, pm_cat_l, pm_obj, pm_arr, pm_opt, pm_ird, pm_aln, List.getElem?_cons_zero, List.getElem?_cons_succ, List.set_cons_zero, List.set_cons_succ, List.length_cons, List.length_nil, List.length_set, true_and, and_true, Nat.add_zero, Nat.zero_add, Nat.le_refl, Nat.reduceAdd, Nat.reduceLT, Nat.reduceLeDiff, Nat.zero_le, not_false_eq_true, not_true_eq_false, false_implies, implies_true, true_implies, Nat.zero_lt_succ, Nat.lt_add_one, pm_tl_n, pm_tl_s, sc_uL, l2, l1, ro2, to2]
      refine PM_use (c_R_need L2 61 (by decide) d) ?_
      rintro v h3 l3 ⟨rfl, L3, f3⟩
      show W_X4_readSign _ _ _ _ _ _ _ _ _
      simp only [w_X4_readSign_0, w_X4_readSign_1, w_X4_readSign_4, w_X4_readSign_6, w_X4_readSign_9, w_X4_readSign_12, w_X4_readSign_14, w_X4_readSign_15, w_X4_readSign_16, w_X4_readSign_19, w_X4_readSign_21, w_X4_readSign_24, w_X4_readSign_27, w_X4_readSign_29, w_X4_readSign_30, w_X4_readSign_31, w_X4_readSign_34, w_X4_readSign_36, w_X4_readSign_39, w_X4_readSign_41, pm_1i_c, pm_2i_c, pm_1l_c, pm_2l_c, pm_1a_c, pm_ia_c, pm_iia_c, pm_va_c, pm_cp_c, pm_k0_c, pm_k1_c, pm_k2_c, pm_k3_c, pm_s1_c, pm_s2_c, pm_s3_c, pm_s4_c, pm_ri_c, pm_ra_c, pm_rn_c, pm_rk_i, pm_rk_z, pm_rk_a, pm_vk_i, pm_vk_z, pm_vk_a, pm_cti, pm_ctr, pm_ldi_z, pm_ldi_s, pm_lda_z, pm_lda_s, pm_cat_n, pm_cat_i, pm_cat_r, pm_cat_l, pm_obj, pm_arr, pm_opt, pm_ird, pm_aln, List.getElem?_cons_zero, List.getElem?_cons_succ, List.set_cons_zero, List.set_cons_succ, List.length_cons, List.length_nil, List.length_set, true_and, and_true, Nat.add_zero, Nat.zero_add, Nat.le_refl, Nat.reduceAdd, Nat.reduceLT, Nat.reduceLeDiff, Nat.zero_le, not_false_eq_true, not_true_eq_false, false_implies, implies_true, true_implies, Nat.zero_lt_succ, Nat.lt_add_one, pm_tl_n, pm_tl_s, sc_uL, l3, l2, l1]
      exact ⟨L3, (f1.tr f2).tr f3⟩
theorem lTk_no {K : List Int32} {k : Int32} {s : LZ} (c : taB K k s.1 = false) : lTk K k s = s := by
  unfold lTk taF
  rw [if_neg (by rw [c]; decide)]
theorem isVf_ne {k : Int32} (c : isVf k = true) : k ≠ -1 := by
  rintro rfl
  revert c
  decide
set_option maxHeartbeats 2000000 in
theorem c_R_readSum (L : lr_ h R t tb s) (d : Nat) : PM (d + 3) 39 [.ref R] h (fun v h' => v = none ∧ lr_ h' R t tb (rsF t.1 t.2.2 400 (-1) s) ∧ frR h h' R) := by
  refine en_X4_readSum rfl ?_
  obtain ⟨Z, hZ⟩ : ∃ Z, Z = rsF t.1 t.2.2 400 (-1) s := ⟨_, rfl⟩
  rw [← hZ]
  have loop : ∀ f n, 400 - n = f → n ≤ 400 → ∀ (hh : pmH) (st : Int32) (q : LZ) (x3 x4 : Option Value), lr_ hh R t tb q → rsF t.1 t.2.2 f st q = Z → hh.length = h.length → frR h hh R → W_X4_readSum (d + 2) (h.length + 0) 0 (fun v h' => v = none ∧ lr_ h' R t tb Z ∧ frR h h' R) 4 [some (.ref R), some (.int st), some (.int (nI n)), x3, x4] [] hh 0 := by
    intro f
    induction f with
    | zero =>
      intro n hn hn2 hh st q x3 x4 L1 e q1 q2
      have e1 : ¬ nI n < 400 := nI_nlt (b := 400) (by omega) (by omega)
      rw [w_X4_readSum_4]
      simp only [w_X4_readSum_5, w_X4_readSum_8, w_X4_readSum_207, pm_1i_c, pm_2i_c, pm_1l_c, pm_2l_c, pm_1a_c, pm_ia_c, pm_iia_c, pm_va_c, pm_cp_c, pm_k0_c, pm_k1_c, pm_k2_c, pm_k3_c, pm_s1_c, pm_s2_c, pm_s3_c, pm_s4_c, pm_ri_c, pm_ra_c, pm_rn_c, pm_rk_i, pm_rk_z, pm_rk_a, pm_vk_i, pm_vk_z, pm_vk_a, pm_cti, pm_ctr, pm_ldi_z, pm_ldi_s, pm_lda_z, pm_lda_s, pm_cat_n, pm_cat_i, pm_cat_r, pm_cat_l, pm_obj, pm_arr, pm_opt, pm_ird, pm_aln, List.getElem?_cons_zero, List.getElem?_cons_succ, List.set_cons_zero, List.set_cons_succ, List.length_cons, List.length_nil, List.length_set, true_and, and_true, Nat.add_zero, Nat.zero_add, Nat.le_refl, Nat.reduceAdd, Nat.reduceLT, Nat.reduceLeDiff, Nat.zero_le, not_false_eq_true, not_true_eq_false, false_implies, implies_true, true_implies, Nat.zero_lt_succ, Nat.lt_add_one, e1, q1]
      rw [← e]
      exact ⟨L1, q2⟩
    | succ f ih =>
      intro n hn hn2 hh st q x3 x4 L1 e q1 q2
      have e1 : nI n < 400 := nI_lt (b := 400) (by omega) (by omega)
      have ro := L1.o
      have to := L1.to
      have lo := L1.l
      have pl := L1.pa
      rw [rsF_s] at e
      rw [w_X4_readSum_4]
      simp only [w_X4_readSum_5, w_X4_readSum_8, w_X4_readSum_11, w_X4_readSum_12, w_X4_readSum_15, pm_1i_c, pm_2i_c, pm_1l_c, pm_2l_c, pm_1a_c, pm_ia_c, pm_iia_c, pm_va_c, pm_cp_c, pm_k0_c, pm_k1_c, pm_k2_c, pm_k3_c, pm_s1_c, pm_s2_c, pm_s3_c, pm_s4_c, pm_ri_c, pm_ra_c, pm_rn_c, pm_rk_i, pm_rk_z, pm_rk_a, pm_vk_i, pm_vk_z, pm_vk_a, pm_cti, pm_ctr, pm_ldi_z, pm_ldi_s, pm_lda_z, pm_lda_s, pm_cat_n, pm_cat_i, pm_cat_r, pm_cat_l, pm_obj, pm_arr, pm_opt, pm_ird, pm_aln, List.getElem?_cons_zero, List.getElem?_cons_succ, List.set_cons_zero, List.set_cons_succ, List.length_cons, List.length_nil, List.length_set, true_and, and_true, Nat.add_zero, Nat.zero_add, Nat.le_refl, Nat.reduceAdd, Nat.reduceLT, Nat.reduceLeDiff, Nat.zero_le, not_false_eq_true, not_true_eq_false, false_implies, implies_true, true_implies, Nat.zero_lt_succ, Nat.lt_add_one, e1, ro, to, q1]
      refine PM_use (c_T_kind L1.tt L1.i4 d) ?_
      rintro v h1 l1 ⟨rfl, rfl⟩
      -- it fails here
      have bad : ((isVf (kiF t.1 q.1) = false ∧ ¬ kiF t.1 q.1 = 267) ∨ ¬ q.2.1 < 60) → ∀ x3 x4, W_X4_readSum (d + 2) (h.length + 0) 0 (fun v h' => v = none ∧ lr_ h' R t tb Z ∧ frR h h' R) 64 [some (.ref R), some (.int st), some (.int (nI n)), x3, x4] [] h1 0 := by
        intro c x3 x4
        rw [if_pos c] at e
        simp only [w_X4_readSum_64, w_X4_readSum_65, w_X4_readSum_68, w_X4_readSum_69, w_X4_readSum_72, w_X4_readSum_75, pm_1i_c, pm_2i_c, pm_1l_c, pm_2l_c, pm_1a_c, pm_ia_c, pm_iia_c, pm_va_c, pm_cp_c, pm_k0_c, pm_k1_c, pm_k2_c, pm_k3_c, pm_s1_c, pm_s2_c, pm_s3_c, pm_s4_c, pm_ri_c, pm_ra_c, pm_rn_c, pm_rk_i, pm_rk_z, pm_rk_a, pm_vk_i, pm_vk_z, pm_vk_a, pm_cti, pm_ctr, pm_ldi_z, pm_ldi_s, pm_lda_z, pm_lda_s, pm_cat_n, pm_cat_i, pm_cat_r, pm_cat_l, pm_obj, pm_arr, pm_opt, pm_ird, pm_aln, List.getElem?_cons_zero, List.getElem?_cons_succ, List.set_cons_zero, List.set_cons_succ, List.length_cons, List.length_nil, List.length_set, true_and, and_true, Nat.add_zero, Nat.zero_add, Nat.le_refl, Nat.reduceAdd, Nat.reduceLT, Nat.reduceLeDiff, Nat.zero_le, not_false_eq_true, not_true_eq_false, false_implies, implies_true, true_implies, Nat.zero_lt_succ, Nat.lt_add_one, ro, to, q1]
        refine PM_use (c_R_fail L1 (d + 1)) ?_
        rintro v h2 l2 ⟨rfl, L2, f2⟩
        show W_X4_readSum _ _ _ _ _ _ _ _ _
        simp only [w_X4_readSum_78, pm_1i_c, pm_2i_c, pm_1l_c, pm_2l_c, pm_1a_c, pm_ia_c, pm_iia_c, pm_va_c, pm_cp_c, pm_k0_c, pm_k1_c, pm_k2_c, pm_k3_c, pm_s1_c, pm_s2_c, pm_s3_c, pm_s4_c, pm_ri_c, pm_ra_c, pm_rn_c, pm_rk_i, pm_rk_z, pm_rk_a, pm_vk_i, pm_vk_z, pm_vk_a, pm_cti, pm_ctr, pm_ldi_z, pm_ldi_s, pm_lda_z, pm_lda_s, pm_cat_n, pm_cat_i, pm_cat_r, pm_cat_l, pm_obj, pm_arr, pm_opt, pm_ird, pm_aln, List.getElem?_cons_zero, List.getElem?_cons_succ, List.set_cons_zero, List.set_cons_succ, List.length_cons, List.length_nil, List.length_set, true_and, and_true, Nat.add_zero, Nat.zero_add, Nat.le_refl, Nat.reduceAdd, Nat.reduceLT, Nat.reduceLeDiff, Nat.zero_le, not_false_eq_true, not_true_eq_false, false_implies, implies_true, true_implies, Nat.zero_lt_succ, Nat.lt_add_one, pm_tl_n, pm_tl_s, sc_uL, l2, q1]
        rw [← e]
        exact ⟨L2, q2.tr f2⟩
      -- from the sign on
      have sign : ∀ (h4 : pmH) (x3 x4 : Option Value), lr_ h4 R t tb (rsA t.1 t.2.2 st q) → h4.length = h.length → frR h h4 R → (if taB t.1 43 (rsA t.1 t.2.2 st q).1 = true then rsF t.1 t.2.2 f 8 (lTk t.1 43 (rsA t.1 t.2.2 st q)) else if taB t.1 45 (rsA t.1 t.2.2 st q).1 = true then rsF t.1 t.2.2 f 9 (lTk t.1 45 (rsA t.1 t.2.2 st q)) else rsA t.1 t.2.2 st q) = Z → W_X4_readSum (d + 2) (h.length + 0) 0 (fun v h' => v = none ∧ lr_ h' R t tb Z ∧ frR h h' R) 159 [some (.ref R), some (.int st), some (.int (nI n)), x3, x4] [] h4 0 := by
        intro h4 x3 x4 L4 l4 f4 e
        obtain ⟨q3, hq3⟩ : ∃ q3, q3 = rsA t.1 t.2.2 st q := ⟨_, rfl⟩
        rw [← hq3] at L4 e
        have ro4 := L4.o
        have to4 := L4.to
        simp only [w_X4_readSum_159, w_X4_readSum_160, w_X4_readSum_163, w_X4_readSum_165, pm_1i_c, pm_2i_c, pm_1l_c, pm_2l_c, pm_1a_c, pm_ia_c, pm_iia_c, pm_va_c, pm_cp_c, pm_k0_c, pm_k1_c, pm_k2_c, pm_k3_c, pm_s1_c, pm_s2_c, pm_s3_c, pm_s4_c, pm_ri_c, pm_ra_c, pm_rn_c, pm_rk_i, pm_rk_z, pm_rk_a, pm_vk_i, pm_vk_z, pm_vk_a, pm_cti, pm_ctr, pm_ldi_z, pm_ldi_s, pm_lda_z, pm_lda_s, pm_cat_n, pm_cat_i, pm_cat_r, pm_cat_l, pm_obj, pm_arr, pm_opt, pm_ird, pm_aln, List.getElem?_cons_zero, List.getElem?_cons_succ, List.set_cons_zero, List.set_cons_succ, List.length_cons, List.length_nil, List.length_set, true_and, and_true, Nat.add_zero, Nat.zero_add, Nat.le_refl, Nat.reduceAdd, Nat.reduceLT, Nat.reduceLeDiff, Nat.zero_le, not_false_eq_true, not_true_eq_false, false_implies, implies_true, true_implies, Nat.zero_lt_succ, Nat.lt_add_one, ro4, to4, l4]
        refine PM_use (c_R_takes L4 43 (by decide) d) ?_
        rintro v h5 l5 ⟨rfl, L5, f5⟩
        rcases Bool.eq_false_or_eq_true (taB t.1 43 q3.1) with c | c
        · rw [if_pos c] at e
          simp only [c, if_true]
          show W_X4_readSum _ _ _ _ _ _ _ _ _
          simp only [w_X4_readSum_168, w_X4_readSum_171, w_X4_readSum_173, w_X4_readSum_194, w_X4_readSum_195, w_X4_readSum_196, w_X4_readSum_197, w_X4_readSum_200, w_X4_readSum_201, w_X4_readSum_204, pm_1i_c, pm_2i_c, pm_1l_c, pm_2l_c, pm_1a_c, pm_ia_c, pm_iia_c, pm_va_c, pm_cp_c, pm_k0_c, pm_k1_c, pm_k2_c, pm_k3_c, pm_s1_c, pm_s2_c, pm_s3_c, pm_s4_c, pm_ri_c, pm_ra_c, pm_rn_c, pm_rk_i, pm_rk_z, pm_rk_a, pm_vk_i, pm_vk_z, pm_vk_a, pm_cti, pm_ctr, pm_ldi_z, pm_ldi_s, pm_lda_z, pm_lda_s, pm_cat_n, pm_cat_i, pm_cat_r, pm_cat_l, pm_obj, pm_arr, pm_opt, pm_ird, pm_aln, List.getElem?_cons_zero, List.getElem?_cons_succ, List.set_cons_zero, List.set_cons_succ, List.length_cons, List.length_nil, List.length_set, true_and, and_true, Nat.add_zero, Nat.zero_add, Nat.le_refl, Nat.reduceAdd, Nat.reduceLT, Nat.reduceLeDiff, Nat.zero_le, not_false_eq_true, not_true_eq_false, false_implies, implies_true, true_implies, Nat.zero_lt_succ, Nat.lt_add_one, pm_tl_n, pm_tl_s, sc_uL, l5, l4, show ¬ (1 : Int32) = 0 by decide, show ¬ (8 : Int32) = -1 by decide, nI_1]
          exact ih (n + 1) (by omega) (by omega) h5 _ _ _ _ L5 e (by rw [l5, l4]; rfl) (f4.tr f5)
        · rw [lTk_no c] at L5
          rw [if_neg (by rw [c]; decide)] at e
          simp only [c, Bool.false_eq_true, if_false]
          have ro5 := L5.o
          have to5 := L5.to
          show W_X4_readSum _ _ _ _ _ _ _ _ _
          simp only [w_X4_readSum_168, w_X4_readSum_176, w_X4_readSum_177, w_X4_readSum_180, w_X4_readSum_182, pm_1i_c, pm_2i_c, pm_1l_c, pm_2l_c, pm_1a_c, pm_ia_c, pm_iia_c, pm_va_c, pm_cp_c, pm_k0_c, pm_k1_c, pm_k2_c, pm_k3_c, pm_s1_c, pm_s2_c, pm_s3_c, pm_s4_c, pm_ri_c, pm_ra_c, pm_rn_c, pm_rk_i, pm_rk_z, pm_rk_a, pm_vk_i, pm_vk_z, pm_vk_a, pm_cti, pm_ctr, pm_ldi_z, pm_ldi_s, pm_lda_z, pm_lda_s, pm_cat_n, pm_cat_i, pm_cat_r, pm_cat_l, pm_obj, pm_arr, pm_opt, pm_ird, pm_aln, List.getElem?_cons_zero, List.getElem?_cons_succ, List.set_cons_zero, List.set_cons_succ, List.length_cons, List.length_nil, List.length_set, true_and, and_true, Nat.add_zero, Nat.zero_add, Nat.le_refl, Nat.reduceAdd, Nat.reduceLT, Nat.reduceLeDiff, Nat.zero_le, not_false_eq_true, not_true_eq_false, false_implies, implies_true, true_implies, Nat.zero_lt_succ, Nat.lt_add_one, pm_tl_n, pm_tl_s, sc_uL, l5, l4, ro5, to5]
          refine PM_use (c_R_takes L5 45 (by decide) d) ?_
          rintro v h6 l6 ⟨rfl, L6, f6⟩
          rcases Bool.eq_false_or_eq_true (taB t.1 45 q3.1) with c2 | c2
          · rw [if_pos c2] at e
            simp only [c2, if_true]
            show W_X4_readSum _ _ _ _ _ _ _ _ _
            simp only [w_X4_readSum_185, w_X4_readSum_188, w_X4_readSum_190, w_X4_readSum_194, w_X4_readSum_195, w_X4_readSum_196, w_X4_readSum_197, w_X4_readSum_200, w_X4_readSum_201, w_X4_readSum_204, pm_1i_c, pm_2i_c, pm_1l_c, pm_2l_c, pm_1a_c, pm_ia_c, pm_iia_c, pm_va_c, pm_cp_c, pm_k0_c, pm_k1_c, pm_k2_c, pm_k3_c, pm_s1_c, pm_s2_c, pm_s3_c, pm_s4_c, pm_ri_c, pm_ra_c, pm_rn_c, pm_rk_i, pm_rk_z, pm_rk_a, pm_vk_i, pm_vk_z, pm_vk_a, pm_cti, pm_ctr, pm_ldi_z, pm_ldi_s, pm_lda_z, pm_lda_s, pm_cat_n, pm_cat_i, pm_cat_r, pm_cat_l, pm_obj, pm_arr, pm_opt, pm_ird, pm_aln, List.getElem?_cons_zero, List.getElem?_cons_succ, List.set_cons_zero, List.set_cons_succ, List.length_cons, List.length_nil, List.length_set, true_and, and_true, Nat.add_zero, Nat.zero_add, Nat.le_refl, Nat.reduceAdd, Nat.reduceLT, Nat.reduceLeDiff, Nat.zero_le, not_false_eq_true, not_true_eq_false, false_implies, implies_true, true_implies, Nat.zero_lt_succ, Nat.lt_add_one, pm_tl_n, pm_tl_s, sc_uL, l6, l5, l4, show ¬ (1 : Int32) = 0 by decide, show ¬ (9 : Int32) = -1 by decide, nI_1]
            exact ih (n + 1) (by omega) (by omega) h6 _ _ _ _ L6 e (by rw [l6, l5, l4]; rfl) ((f4.tr f5).tr f6)
          · rw [lTk_no c2] at L6
            rw [if_neg (by rw [c2]; decide)] at e
            simp only [c2, Bool.false_eq_true, if_false]
            show W_X4_readSum _ _ _ _ _ _ _ _ _
            simp only [w_X4_readSum_185, w_X4_readSum_193, w_X4_readSum_194, w_X4_readSum_195, w_X4_readSum_196, w_X4_readSum_197, w_X4_readSum_200, pm_1i_c, pm_2i_c, pm_1l_c, pm_2l_c, pm_1a_c, pm_ia_c, pm_iia_c, pm_va_c, pm_cp_c, pm_k0_c, pm_k1_c, pm_k2_c, pm_k3_c, pm_s1_c, pm_s2_c, pm_s3_c, pm_s4_c, pm_ri_c, pm_ra_c, pm_rn_c, pm_rk_i, pm_rk_z, pm_rk_a, pm_vk_i, pm_vk_z, pm_vk_a, pm_cti, pm_ctr, pm_ldi_z, pm_ldi_s, pm_lda_z, pm_lda_s, pm_cat_n, pm_cat_i, pm_cat_r, pm_cat_l, pm_obj, pm_arr, pm_opt, pm_ird, pm_aln, List.getElem?_cons_zero, List.getElem?_cons_succ, List.set_cons_zero, List.set_cons_succ, List.length_cons, List.length_nil, List.length_set, true_and, and_true, Nat.add_zero, Nat.zero_add, Nat.le_refl, Nat.reduceAdd, Nat.reduceLT, Nat.reduceLeDiff, Nat.zero_le, not_false_eq_true, not_true_eq_false, false_implies, implies_true, true_implies, Nat.zero_lt_succ, Nat.lt_add_one, pm_tl_n, pm_tl_s, sc_uL, l6, l5, l4]
            rw [← e]
            exact ⟨L6, (f4.tr f5).tr f6⟩
      -- from the joining on
      have join : ∀ (h4 : pmH) (x3 x4 : Option Value) (q2' : LZ), lr_ h4 R t tb q2' → h4.length = h.length → frR h h4 R → (if st = -1 then q2' else lSt st q2') = rsA t.1 t.2.2 st q → (if taB t.1 43 (rsA t.1 t.2.2 st q).1 = true then rsF t.1 t.2.2 f 8 (lTk t.1 43 (rsA t.1 t.2.2 st q)) else if taB t.1 45 (rsA t.1 t.2.2 st q).1 = true then rsF t.1 t.2.2 f 9 (lTk t.1 45 (rsA t.1 t.2.2 st q)) else rsA t.1 t.2.2 st q) = Z → W_X4_readSum (d + 2) (h.length + 0) 0 (fun v h' => v = none ∧ lr_ h' R t tb Z ∧ frR h h' R) 143 [some (.ref R), some (.int st), some (.int (nI n)), x3, x4] [] h4 0 := by
        intro h4 x3 x4 q2' L4 l4 f4 es e
        have ro4 := L4.o
        have lo4 := L4.l
        have so4 := L4.so
        simp only [w_X4_readSum_143, w_X4_readSum_144, w_X4_readSum_145, w_X4_readSum_148, w_X4_readSum_149, w_X4_readSum_152, w_X4_readSum_155, w_X4_readSum_156, pm_1i_c, pm_2i_c, pm_1l_c, pm_2l_c, pm_1a_c, pm_ia_c, pm_iia_c, pm_va_c, pm_cp_c, pm_k0_c, pm_k1_c, pm_k2_c, pm_k3_c, pm_s1_c, pm_s2_c, pm_s3_c, pm_s4_c, pm_ri_c, pm_ra_c, pm_rn_c, pm_rk_i, pm_rk_z, pm_rk_a, pm_vk_i, pm_vk_z, pm_vk_a, pm_cti, pm_ctr, pm_ldi_z, pm_ldi_s, pm_lda_z, pm_lda_s, pm_cat_n, pm_cat_i, pm_cat_r, pm_cat_l, pm_obj, pm_arr, pm_opt, pm_ird, pm_aln, List.getElem?_cons_zero, List.getElem?_cons_succ, List.set_cons_zero, List.set_cons_succ, List.length_cons, List.length_nil, List.length_set, true_and, and_true, Nat.add_zero, Nat.zero_add, Nat.le_refl, Nat.reduceAdd, Nat.reduceLT, Nat.reduceLeDiff, Nat.zero_le, not_false_eq_true, not_true_eq_false, false_implies, implies_true, true_implies, Nat.zero_lt_succ, Nat.lt_add_one, ro4, lo4, so4, l4]
        refine ⟨fun c => ?_, fun c => ?_⟩
        · rw [if_pos c] at es
          rw [es] at L4
          exact sign h4 x3 x4 L4 l4 f4 e
        · rw [if_neg c] at es
          refine PM_use (c_R_step L4 st (d + 1)) ?_
          rintro v h5 l5 ⟨rfl, L5, f5⟩
          rw [es] at L5
          show W_X4_readSum _ _ _ _ _ _ _ _ _
          exact sign h5 x3 x4 L5 (by rw [l5, l4]; rfl) (f4.tr f5) e
      -- a value or a number
      by_cases cv : isVf (kiF t.1 q.1) = true
      · have hv : ¬ kiF t.1 q.1 < 256 ∧ kiF t.1 q.1 < 264 := by
          unfold isVf at cv
          rwa [decide_eq_true_eq] at cv
        by_cases cp : q.2.1 < 60
        · have e6 : nI q.2.1 < 60 := nI_lt (b := 60) cp (by omega)
          rw [if_neg (fun z => z.elim (fun y => by rw [cv] at y; cases y.1) (fun y => y cp))] at e
          obtain ⟨h2, E2, l2, f2, L2⟩ := L1.up cp
          show W_X4_readSum _ _ _ _ _ _ _ _ _
          simp only [w_X4_readSum_18, w_X4_readSum_19, w_X4_readSum_20, w_X4_readSum_23, w_X4_readSum_26, w_X4_readSum_27, w_X4_readSum_30, w_X4_readSum_33, w_X4_readSum_34, w_X4_readSum_37, w_X4_readSum_38, w_X4_readSum_40, w_X4_readSum_42, w_X4_readSum_45, w_X4_readSum_46, w_X4_readSum_49, w_X4_readSum_52, w_X4_readSum_53, w_X4_readSum_56, w_X4_readSum_59, w_X4_readSum_61, w_X4_readSum_79, w_X4_readSum_80, w_X4_readSum_83, w_X4_readSum_84, w_X4_readSum_87, w_X4_readSum_88, w_X4_readSum_89, pm_1i_c, pm_2i_c, pm_1l_c, pm_2l_c, pm_1a_c, pm_ia_c, pm_iia_c, pm_va_c, pm_cp_c, pm_k0_c, pm_k1_c, pm_k2_c, pm_k3_c, pm_s1_c, pm_s2_c, pm_s3_c, pm_s4_c, pm_ri_c, pm_ra_c, pm_rn_c, pm_rk_i, pm_rk_z, pm_rk_a, pm_vk_i, pm_vk_z, pm_vk_a, pm_cti, pm_ctr, pm_ldi_z, pm_ldi_s, pm_lda_z, pm_lda_s, pm_cat_n, pm_cat_i, pm_cat_r, pm_cat_l, pm_obj, pm_arr, pm_opt, pm_ird, pm_aln, List.getElem?_cons_zero, List.getElem?_cons_succ, List.set_cons_zero, List.set_cons_succ, List.length_cons, List.length_nil, List.length_set, true_and, and_true, Nat.add_zero, Nat.zero_add, Nat.le_refl, Nat.reduceAdd, Nat.reduceLT, Nat.reduceLeDiff, Nat.zero_le, not_false_eq_true, not_true_eq_false, false_implies, implies_true, true_implies, Nat.zero_lt_succ, Nat.lt_add_one, pm_tl_n, pm_tl_s, sc_uL, ro, lo, q1, hv.1, hv.2, e6, nI_1, show ¬ (1 : Int32) = 0 by decide]
          rw [E2]
          have ro2 := L2.o
          have to2 := L2.to
          simp only [w_X4_readSum_92, w_X4_readSum_94, w_X4_readSum_97, w_X4_readSum_98, w_X4_readSum_101, w_X4_readSum_102, pm_1i_c, pm_2i_c, pm_1l_c, pm_2l_c, pm_1a_c, pm_ia_c, pm_iia_c, pm_va_c, pm_cp_c, pm_k0_c, pm_k1_c, pm_k2_c, pm_k3_c, pm_s1_c, pm_s2_c, pm_s3_c, pm_s4_c, pm_ri_c, pm_ra_c, pm_rn_c, pm_rk_i, pm_rk_z, pm_rk_a, pm_vk_i, pm_vk_z, pm_vk_a, pm_cti, pm_ctr, pm_ldi_z, pm_ldi_s, pm_lda_z, pm_lda_s, pm_cat_n, pm_cat_i, pm_cat_r, pm_cat_l, pm_obj, pm_arr, pm_opt, pm_ird, pm_aln, List.getElem?_cons_zero, List.getElem?_cons_succ, List.set_cons_zero, List.set_cons_succ, List.length_cons, List.length_nil, List.length_set, true_and, and_true, Nat.add_zero, Nat.zero_add, Nat.le_refl, Nat.reduceAdd, Nat.reduceLT, Nat.reduceLeDiff, Nat.zero_le, not_false_eq_true, not_true_eq_false, false_implies, implies_true, true_implies, Nat.zero_lt_succ, Nat.lt_add_one, ro2, to2, l2, q1, show ¬ (1 : Int32) = 0 by decide]
          refine PM_use (c_R_need L2 (kiF t.1 q.1) (isVf_ne cv) d) ?_
          rintro v h3 l3 ⟨rfl, L3, f3⟩
          have ro3 := L3.o
          have lo3 := L3.l
          have so3 := L3.so
          show W_X4_readSum _ _ _ _ _ _ _ _ _
          simp only [w_X4_readSum_105, w_X4_readSum_106, w_X4_readSum_109, w_X4_readSum_112, w_X4_readSum_113, w_X4_readSum_116, w_X4_readSum_117, pm_1i_c, pm_2i_c, pm_1l_c, pm_2l_c, pm_1a_c, pm_ia_c, pm_iia_c, pm_va_c, pm_cp_c, pm_k0_c, pm_k1_c, pm_k2_c, pm_k3_c, pm_s1_c, pm_s2_c, pm_s3_c, pm_s4_c, pm_ri_c, pm_ra_c, pm_rn_c, pm_rk_i, pm_rk_z, pm_rk_a, pm_vk_i, pm_vk_z, pm_vk_a, pm_cti, pm_ctr, pm_ldi_z, pm_ldi_s, pm_lda_z, pm_lda_s, pm_cat_n, pm_cat_i, pm_cat_r, pm_cat_l, pm_obj, pm_arr, pm_opt, pm_ird, pm_aln, List.getElem?_cons_zero, List.getElem?_cons_succ, List.set_cons_zero, List.set_cons_succ, List.length_cons, List.length_nil, List.length_set, true_and, and_true, Nat.add_zero, Nat.zero_add, Nat.le_refl, Nat.reduceAdd, Nat.reduceLT, Nat.reduceLeDiff, Nat.zero_le, not_false_eq_true, not_true_eq_false, false_implies, implies_true, true_implies, Nat.zero_lt_succ, Nat.lt_add_one, pm_tl_n, pm_tl_s, sc_uL, ro3, lo3, so3, l3, l2, q1]
          refine PM_use (c_R_step L3 (kiF t.1 q.1 - 256) (d + 1)) ?_
          rintro v h4 l4 ⟨rfl, L4, f4⟩
          show W_X4_readSum _ _ _ _ _ _ _ _ _
          simp only [w_X4_readSum_120, pm_1i_c, pm_2i_c, pm_1l_c, pm_2l_c, pm_1a_c, pm_ia_c, pm_iia_c, pm_va_c, pm_cp_c, pm_k0_c, pm_k1_c, pm_k2_c, pm_k3_c, pm_s1_c, pm_s2_c, pm_s3_c, pm_s4_c, pm_ri_c, pm_ra_c, pm_rn_c, pm_rk_i, pm_rk_z, pm_rk_a, pm_vk_i, pm_vk_z, pm_vk_a, pm_cti, pm_ctr, pm_ldi_z, pm_ldi_s, pm_lda_z, pm_lda_s, pm_cat_n, pm_cat_i, pm_cat_r, pm_cat_l, pm_obj, pm_arr, pm_opt, pm_ird, pm_aln, List.getElem?_cons_zero, List.getElem?_cons_succ, List.set_cons_zero, List.set_cons_succ, List.length_cons, List.length_nil, List.length_set, true_and, and_true, Nat.add_zero, Nat.zero_add, Nat.le_refl, Nat.reduceAdd, Nat.reduceLT, Nat.reduceLeDiff, Nat.zero_le, not_false_eq_true, not_true_eq_false, false_implies, implies_true, true_implies, Nat.zero_lt_succ, Nat.lt_add_one, pm_tl_n, pm_tl_s, sc_uL]
          exact join h4 _ _ _ L4 (by rw [l4, l3, l2, q1]; rfl) (((q2.tr f2).tr f3).tr f4) (by unfold rsA; rw [if_pos cv]) e
        · have e6 : ¬ nI q.2.1 < 60 := nI_nlt (b := 60) (by omega) (by omega)
          show W_X4_readSum _ _ _ _ _ _ _ _ _
          simp only [w_X4_readSum_18, w_X4_readSum_19, w_X4_readSum_20, w_X4_readSum_23, w_X4_readSum_26, w_X4_readSum_27, w_X4_readSum_30, w_X4_readSum_33, w_X4_readSum_34, w_X4_readSum_37, w_X4_readSum_38, w_X4_readSum_40, w_X4_readSum_42, w_X4_readSum_45, w_X4_readSum_46, w_X4_readSum_49, w_X4_readSum_52, w_X4_readSum_53, w_X4_readSum_56, w_X4_readSum_59, w_X4_readSum_61, pm_1i_c, pm_2i_c, pm_1l_c, pm_2l_c, pm_1a_c, pm_ia_c, pm_iia_c, pm_va_c, pm_cp_c, pm_k0_c, pm_k1_c, pm_k2_c, pm_k3_c, pm_s1_c, pm_s2_c, pm_s3_c, pm_s4_c, pm_ri_c, pm_ra_c, pm_rn_c, pm_rk_i, pm_rk_z, pm_rk_a, pm_vk_i, pm_vk_z, pm_vk_a, pm_cti, pm_ctr, pm_ldi_z, pm_ldi_s, pm_lda_z, pm_lda_s, pm_cat_n, pm_cat_i, pm_cat_r, pm_cat_l, pm_obj, pm_arr, pm_opt, pm_ird, pm_aln, List.getElem?_cons_zero, List.getElem?_cons_succ, List.set_cons_zero, List.set_cons_succ, List.length_cons, List.length_nil, List.length_set, true_and, and_true, Nat.add_zero, Nat.zero_add, Nat.le_refl, Nat.reduceAdd, Nat.reduceLT, Nat.reduceLeDiff, Nat.zero_le, not_false_eq_true, not_true_eq_false, false_implies, implies_true, true_implies, Nat.zero_lt_succ, Nat.lt_add_one, pm_tl_n, pm_tl_s, sc_uL, ro, lo, q1, hv.1, hv.2, e6, show ¬ (1 : Int32) = 0 by decide]
          exact bad (Or.inr cp) _ _
      · have cv' : isVf (kiF t.1 q.1) = false := by
          cases z : isVf (kiF t.1 q.1) with
          | true => exact absurd z cv
          | false => rfl
        have hv : kiF t.1 q.1 < 256 ∨ ¬ kiF t.1 q.1 < 264 := by
          by_cases y : kiF t.1 q.1 < 256
          · exact Or.inl y
          · refine Or.inr (fun z => cv ?_)
            unfold isVf
            exact decide_eq_true ⟨y, z⟩
        -- both ways to 38 with 0
        have mid : W_X4_readSum (d + 2) (h.length + 0) 0 (fun v h' => v = none ∧ lr_ h' R t tb Z ∧ frR h h' R) 37 [some (.ref R), some (.int st), some (.int (nI n)), some (.int (kiF t.1 q.1)), x4] [] h1 0 := by
          by_cases cn : kiF t.1 q.1 = 267
          · by_cases cp : q.2.1 < 60
            · have e6 : nI q.2.1 < 60 := nI_lt (b := 60) cp (by omega)
              rw [if_neg (fun z => z.elim (fun y => y.2 cn) (fun y => y cp))] at e
              obtain ⟨h2, E2, l2, f2, L2⟩ := L1.up cp
              simp only [w_X4_readSum_37, w_X4_readSum_38, w_X4_readSum_40, w_X4_readSum_42, w_X4_readSum_45, w_X4_readSum_46, w_X4_readSum_49, w_X4_readSum_52, w_X4_readSum_53, w_X4_readSum_56, w_X4_readSum_59, w_X4_readSum_61, w_X4_readSum_79, w_X4_readSum_80, w_X4_readSum_83, w_X4_readSum_84, w_X4_readSum_87, w_X4_readSum_88, w_X4_readSum_89, pm_1i_c, pm_2i_c, pm_1l_c, pm_2l_c, pm_1a_c, pm_ia_c, pm_iia_c, pm_va_c, pm_cp_c, pm_k0_c, pm_k1_c, pm_k2_c, pm_k3_c, pm_s1_c, pm_s2_c, pm_s3_c, pm_s4_c, pm_ri_c, pm_ra_c, pm_rn_c, pm_rk_i, pm_rk_z, pm_rk_a, pm_vk_i, pm_vk_z, pm_vk_a, pm_cti, pm_ctr, pm_ldi_z, pm_ldi_s, pm_lda_z, pm_lda_s, pm_cat_n, pm_cat_i, pm_cat_r, pm_cat_l, pm_obj, pm_arr, pm_opt, pm_ird, pm_aln, List.getElem?_cons_zero, List.getElem?_cons_succ, List.set_cons_zero, List.set_cons_succ, List.length_cons, List.length_nil, List.length_set, true_and, and_true, Nat.add_zero, Nat.zero_add, Nat.le_refl, Nat.reduceAdd, Nat.reduceLT, Nat.reduceLeDiff, Nat.zero_le, not_false_eq_true, not_true_eq_false, false_implies, implies_true, true_implies, Nat.zero_lt_succ, Nat.lt_add_one, ro, lo, q1, cn, e6, nI_1]
              rw [E2]
              have ro2 := L2.o
              have to2 := L2.to
              have lo2 := L2.l
              simp only [w_X4_readSum_92, w_X4_readSum_94, w_X4_readSum_123, w_X4_readSum_124, w_X4_readSum_127, w_X4_readSum_130, w_X4_readSum_132, w_X4_readSum_133, w_X4_readSum_136, pm_1i_c, pm_2i_c, pm_1l_c, pm_2l_c, pm_1a_c, pm_ia_c, pm_iia_c, pm_va_c, pm_cp_c, pm_k0_c, pm_k1_c, pm_k2_c, pm_k3_c, pm_s1_c, pm_s2_c, pm_s3_c, pm_s4_c, pm_ri_c, pm_ra_c, pm_rn_c, pm_rk_i, pm_rk_z, pm_rk_a, pm_vk_i, pm_vk_z, pm_vk_a, pm_cti, pm_ctr, pm_ldi_z, pm_ldi_s, pm_lda_z, pm_lda_s, pm_cat_n, pm_cat_i, pm_cat_r, pm_cat_l, pm_obj, pm_arr, pm_opt, pm_ird, pm_aln, List.getElem?_cons_zero, List.getElem?_cons_succ, List.set_cons_zero, List.set_cons_succ, List.length_cons, List.length_nil, List.length_set, true_and, and_true, Nat.add_zero, Nat.zero_add, Nat.le_refl, Nat.reduceAdd, Nat.reduceLT, Nat.reduceLeDiff, Nat.zero_le, not_false_eq_true, not_true_eq_false, false_implies, implies_true, true_implies, Nat.zero_lt_succ, Nat.lt_add_one, ro2, to2, lo2, l2, q1]
              refine PM_use (c_R_needNumber L2 d) ?_
              rintro v h3 l3 ⟨rfl, L3, f3⟩
              have ro3 := L3.o
              have lo3 := L3.l
              have so3 := L3.so
              show W_X4_readSum _ _ _ _ _ _ _ _ _
              simp only [w_X4_readSum_139, w_X4_readSum_140, pm_1i_c, pm_2i_c, pm_1l_c, pm_2l_c, pm_1a_c, pm_ia_c, pm_iia_c, pm_va_c, pm_cp_c, pm_k0_c, pm_k1_c, pm_k2_c, pm_k3_c, pm_s1_c, pm_s2_c, pm_s3_c, pm_s4_c, pm_ri_c, pm_ra_c, pm_rn_c, pm_rk_i, pm_rk_z, pm_rk_a, pm_vk_i, pm_vk_z, pm_vk_a, pm_cti, pm_ctr, pm_ldi_z, pm_ldi_s, pm_lda_z, pm_lda_s, pm_cat_n, pm_cat_i, pm_cat_r, pm_cat_l, pm_obj, pm_arr, pm_opt, pm_ird, pm_aln, List.getElem?_cons_zero, List.getElem?_cons_succ, List.set_cons_zero, List.set_cons_succ, List.length_cons, List.length_nil, List.length_set, true_and, and_true, Nat.add_zero, Nat.zero_add, Nat.le_refl, Nat.reduceAdd, Nat.reduceLT, Nat.reduceLeDiff, Nat.zero_le, not_false_eq_true, not_true_eq_false, false_implies, implies_true, true_implies, Nat.zero_lt_succ, Nat.lt_add_one, pm_tl_n, pm_tl_s, sc_uL, ro3, lo3, so3, l3, l2, q1]
              refine PM_use (c_R_step L3 (16 + nnV t.1 t.2.2 (lPa q).1) (d + 1)) ?_
              rintro v h4 l4 ⟨rfl, L4, f4⟩
              show W_X4_readSum _ _ _ _ _ _ _ _ _
              exact join h4 _ _ _ L4 (by rw [l4, l3, l2, q1]; rfl) (((q2.tr f2).tr f3).tr f4) (by unfold rsA; rw [if_neg cv]; rfl) e
            · have e6 : ¬ nI q.2.1 < 60 := nI_nlt (b := 60) (by omega) (by omega)
              have B := bad (Or.inr cp) (some (.int (kiF t.1 q.1))) (some (.int 0))
              simp only [w_X4_readSum_37, w_X4_readSum_38, w_X4_readSum_40, w_X4_readSum_42, w_X4_readSum_45, w_X4_readSum_46, w_X4_readSum_49, w_X4_readSum_52, w_X4_readSum_53, w_X4_readSum_56, w_X4_readSum_59, w_X4_readSum_61, pm_1i_c, pm_2i_c, pm_1l_c, pm_2l_c, pm_1a_c, pm_ia_c, pm_iia_c, pm_va_c, pm_cp_c, pm_k0_c, pm_k1_c, pm_k2_c, pm_k3_c, pm_s1_c, pm_s2_c, pm_s3_c, pm_s4_c, pm_ri_c, pm_ra_c, pm_rn_c, pm_rk_i, pm_rk_z, pm_rk_a, pm_vk_i, pm_vk_z, pm_vk_a, pm_cti, pm_ctr, pm_ldi_z, pm_ldi_s, pm_lda_z, pm_lda_s, pm_cat_n, pm_cat_i, pm_cat_r, pm_cat_l, pm_obj, pm_arr, pm_opt, pm_ird, pm_aln, List.getElem?_cons_zero, List.getElem?_cons_succ, List.set_cons_zero, List.set_cons_succ, List.length_cons, List.length_nil, List.length_set, true_and, and_true, Nat.add_zero, Nat.zero_add, Nat.le_refl, Nat.reduceAdd, Nat.reduceLT, Nat.reduceLeDiff, Nat.zero_le, not_false_eq_true, not_true_eq_false, false_implies, implies_true, true_implies, Nat.zero_lt_succ, Nat.lt_add_one, ro, lo, q1, cn, e6]
              rw [cn] at B
              exact B
          · simp only [w_X4_readSum_37, w_X4_readSum_38, w_X4_readSum_40, w_X4_readSum_42, w_X4_readSum_45, w_X4_readSum_46, w_X4_readSum_49, w_X4_readSum_52, w_X4_readSum_53, w_X4_readSum_56, w_X4_readSum_59, w_X4_readSum_61, pm_1i_c, pm_2i_c, pm_1l_c, pm_2l_c, pm_1a_c, pm_ia_c, pm_iia_c, pm_va_c, pm_cp_c, pm_k0_c, pm_k1_c, pm_k2_c, pm_k3_c, pm_s1_c, pm_s2_c, pm_s3_c, pm_s4_c, pm_ri_c, pm_ra_c, pm_rn_c, pm_rk_i, pm_rk_z, pm_rk_a, pm_vk_i, pm_vk_z, pm_vk_a, pm_cti, pm_ctr, pm_ldi_z, pm_ldi_s, pm_lda_z, pm_lda_s, pm_cat_n, pm_cat_i, pm_cat_r, pm_cat_l, pm_obj, pm_arr, pm_opt, pm_ird, pm_aln, List.getElem?_cons_zero, List.getElem?_cons_succ, List.set_cons_zero, List.set_cons_succ, List.length_cons, List.length_nil, List.length_set, true_and, and_true, Nat.add_zero, Nat.zero_add, Nat.le_refl, Nat.reduceAdd, Nat.reduceLT, Nat.reduceLeDiff, Nat.zero_le, not_false_eq_true, not_true_eq_false, false_implies, implies_true, true_implies, Nat.zero_lt_succ, Nat.lt_add_one, ro, lo, q1, cn]
            exact bad (Or.inl ⟨cv', cn⟩) _ _
        by_cases y : kiF t.1 q.1 < 256
        · show W_X4_readSum _ _ _ _ _ _ _ _ _
          simp only [w_X4_readSum_18, w_X4_readSum_19, w_X4_readSum_20, w_X4_readSum_23, w_X4_readSum_26, w_X4_readSum_27, w_X4_readSum_30, w_X4_readSum_33, w_X4_readSum_34, pm_1i_c, pm_2i_c, pm_1l_c, pm_2l_c, pm_1a_c, pm_ia_c, pm_iia_c, pm_va_c, pm_cp_c, pm_k0_c, pm_k1_c, pm_k2_c, pm_k3_c, pm_s1_c, pm_s2_c, pm_s3_c, pm_s4_c, pm_ri_c, pm_ra_c, pm_rn_c, pm_rk_i, pm_rk_z, pm_rk_a, pm_vk_i, pm_vk_z, pm_vk_a, pm_cti, pm_ctr, pm_ldi_z, pm_ldi_s, pm_lda_z, pm_lda_s, pm_cat_n, pm_cat_i, pm_cat_r, pm_cat_l, pm_obj, pm_arr, pm_opt, pm_ird, pm_aln, List.getElem?_cons_zero, List.getElem?_cons_succ, List.set_cons_zero, List.set_cons_succ, List.length_cons, List.length_nil, List.length_set, true_and, and_true, Nat.add_zero, Nat.zero_add, Nat.le_refl, Nat.reduceAdd, Nat.reduceLT, Nat.reduceLeDiff, Nat.zero_le, not_false_eq_true, not_true_eq_false, false_implies, implies_true, true_implies, Nat.zero_lt_succ, Nat.lt_add_one, pm_tl_n, pm_tl_s, sc_uL, y]
          exact mid
        · have y2 := hv.resolve_left y
          show W_X4_readSum _ _ _ _ _ _ _ _ _
          simp only [w_X4_readSum_18, w_X4_readSum_19, w_X4_readSum_20, w_X4_readSum_23, w_X4_readSum_26, w_X4_readSum_27, w_X4_readSum_30, w_X4_readSum_33, w_X4_readSum_34, pm_1i_c, pm_2i_c, pm_1l_c, pm_2l_c, pm_1a_c, pm_ia_c, pm_iia_c, pm_va_c, pm_cp_c, pm_k0_c, pm_k1_c, pm_k2_c, pm_k3_c, pm_s1_c, pm_s2_c, pm_s3_c, pm_s4_c, pm_ri_c, pm_ra_c, pm_rn_c, pm_rk_i, pm_rk_z, pm_rk_a, pm_vk_i, pm_vk_z, pm_vk_a, pm_cti, pm_ctr, pm_ldi_z, pm_ldi_s, pm_lda_z, pm_lda_s, pm_cat_n, pm_cat_i, pm_cat_r, pm_cat_l, pm_obj, pm_arr, pm_opt, pm_ird, pm_aln, List.getElem?_cons_zero, List.getElem?_cons_succ, List.set_cons_zero, List.set_cons_succ, List.length_cons, List.length_nil, List.length_set, true_and, and_true, Nat.add_zero, Nat.zero_add, Nat.le_refl, Nat.reduceAdd, Nat.reduceLT, Nat.reduceLeDiff, Nat.zero_le, not_false_eq_true, not_true_eq_false, false_implies, implies_true, true_implies, Nat.zero_lt_succ, Nat.lt_add_one, pm_tl_n, pm_tl_s, sc_uL, y, y2]
          exact mid
  simp only [w_X4_readSum_0, w_X4_readSum_1, w_X4_readSum_2, w_X4_readSum_3, pm_1i_c, pm_2i_c, pm_1l_c, pm_2l_c, pm_1a_c, pm_ia_c, pm_iia_c, pm_va_c, pm_cp_c, pm_k0_c, pm_k1_c, pm_k2_c, pm_k3_c, pm_s1_c, pm_s2_c, pm_s3_c, pm_s4_c, pm_ri_c, pm_ra_c, pm_rn_c, pm_rk_i, pm_rk_z, pm_rk_a, pm_vk_i, pm_vk_z, pm_vk_a, pm_cti, pm_ctr, pm_ldi_z, pm_ldi_s, pm_lda_z, pm_lda_s, pm_cat_n, pm_cat_i, pm_cat_r, pm_cat_l, pm_obj, pm_arr, pm_opt, pm_ird, pm_aln, List.getElem?_cons_zero, List.getElem?_cons_succ, List.set_cons_zero, List.set_cons_succ, List.length_cons, List.length_nil, List.length_set, true_and, and_true, Nat.add_zero, Nat.zero_add, Nat.le_refl, Nat.reduceAdd, Nat.reduceLT, Nat.reduceLeDiff, Nat.zero_le, not_false_eq_true, not_true_eq_false, false_implies, implies_true, true_implies, Nat.zero_lt_succ, Nat.lt_add_one]
  exact loop 400 0 rfl (by omega) h (-1) s _ _ L hZ.symm rfl frR.rf
end LR
