/-! TraceReader: its state, ranges, times. -/
abbrev XZ : Type := PS × List Int32
def xTk (K : List Int32) (k : Int32) (s : XZ) : XZ := (taF K k s.1, s.2)
def xNd (K : List Int32) (k : Int32) (s : XZ) : XZ := (neF K k s.1, s.2)
def xFa (x : Int32) (s : XZ) : XZ := (faF x s.1, s.2)
def xAp (l : List Int32) (s : XZ) : XZ := (s.1, s.2 ++ l)
def fuF (b : Bool) (s : XZ) : XZ := if b = true then s else xFa (nI s.1.1 - 1) s
def tmB (v : Int32) : Bool := decide (¬ v < 1 ∧ ¬ 100 < v)
def rtF (K N : List Int32) (s : XZ) : Int32 × XZ := if taB K 42 s.1 = true then (nnV K N (xTk K 42 s).1, fuF (tmB (nnV K N (xTk K 42 s).1)) (xNd K 267 (xTk K 42 s))) else (1, s)
def ftF (more start : Int32) (s : XZ) : XZ := if 500 < nI s.2.length + more then xFa start s else s
def rgL (a n : Nat) : List Int32 := (List.range n).map (fun j => nI (a + j))
def rpL (t : Nat) (l : List Int32) : List Int32 := (List.replicate t l).flatten
/-- the last of a range, and what is behind it -/
def rlF (K N : List Int32) (first : Int32) (s : XZ) : Int32 × XZ := if taB K 45 s.1 = true then (nnV K N (xTk K 45 s).1, fuF (decide (¬ nnV K N (xTk K 45 s).1 < first)) (xNd K 267 (xTk K 45 s))) else (first, s)
def rrC (first last times : Int32) (s : XZ) : XZ := if s.1.2 = -1 then xAp (rpL times.toNatClampNeg (rgL first.toNatClampNeg (last - first + 1).toNatClampNeg)) s else s
def rrB (first : Int32) (start : Int32) (l : Int32) (r : Int32 × XZ) : XZ := rrC first l r.1 (ftF ((l - first + 1) * r.1) start r.2)
def rrF (K N : List Int32) (start : Int32) (s : XZ) : XZ := rrB (nnV K N s.1) start (rlF K N (nnV K N s.1) (xNd K 267 s)).1 (rtF K N (rlF K N (nnV K N s.1) (xNd K 267 s)).2)
def rpC (b : Nat) (times : Int32) (s : XZ) : XZ := if s.1.2 = -1 then xAp (rpL (times.toNatClampNeg - 1) (s.2.drop b)) s else s
def rpF (K N : List Int32) (b : Nat) (start : Int32) (s : XZ) : XZ := rpC b (rtF K N s).1 (ftF ((nI s.2.length - nI b) * ((rtF K N s).1 - 1)) start (rtF K N s).2)
def NV (K N : List Int32) : Prop := ∀ i, K.getD i (-1) = 267 → ∃ m, m < 100000 ∧ N.getD i (-1) = nI m
def frX (h h' : pmH) (R : Nat) : Prop := ∀ i, i < R ∨ R + 10 ≤ i → h'[i]? = h[i]?
theorem frX.rf {h : pmH} {R : Nat} : frX h h R := fun _ _ => rfl
theorem frX.tr {h h1 h2 : pmH} {R : Nat} (x : frX h h1 R) (y : frX h1 h2 R) : frX h h2 R := fun i p => (y i p).trans (x i p)
def tr_ (h : pmH) (R : Nat) (t : TS) (tb : Int32) (s : XZ) : Prop := h[R]? = some (.inr (10, [.ref (R + 1), .ref (R + 8)])) ∧ tk_ h (R + 1) t tb s.1.1 s.1.2 ∧ rw_ h (R + 8) 500 s.2 ∧ s.1.1 ≤ t.1.length
theorem rpL_s (t : Nat) (l : List Int32) : rpL (t + 1) l = rpL t l ++ l := by
  unfold rpL
  rw [List.replicate_succ', List.flatten_append, List.flatten_singleton]
theorem rpL_len (l : List Int32) : ∀ t, (rpL t l).length = t * l.length
  | 0 => by simp [rpL]
  | t + 1 => by rw [rpL_s, List.length_append, rpL_len l t, Nat.succ_mul]
theorem rgL_len (a n : Nat) : (rgL a n).length = n := by simp [rgL]
theorem rgL_take (a n j : Nat) (hj : j < n) : (rgL a n).take (j + 1) = (rgL a n).take j ++ [nI (a + j)] := by
  rw [List.take_add_one]
  simp [rgL, hj]
section XR
variable {h h' : pmH} {R : Nat} {t : TS} {tb : Int32} {s : XZ}
theorem tr_.o (L : tr_ h R t tb s) : h[R]? = some (.inr (10, [.ref (R + 1), .ref (R + 8)])) := L.1
theorem tr_.to (L : tr_ h R t tb s) : h[R + 1]? = some (.inr (9, [.ref (R + 1 + 1), .ref (R + 1 + 3), .ref (R + 1 + 5), .int tb, .int (nI s.1.1), .int s.1.2])) := L.2.1.1
theorem tr_.ko (L : tr_ h R t tb s) : h[R + 8]? = some (.inr (6, [.ref (R + 8 + 1), .int (nI s.2.length)])) := L.2.2.1.o
theorem tr_.i4 (L : tr_ h R t tb s) : s.1.1 ≤ 1000 := by
  have := L.2.2.2
  have := L.2.1.2.1.le
  omega
theorem tr_.l5 (L : tr_ h R t tb s) : s.2.length ≤ 500 := L.2.2.1.le.1
theorem tr_.ut (L : tr_ h R t tb s) {p : PS} (T : tk_ h' (R + 1) t tb p.1 p.2) (f : frT h h' (R + 1)) (hp : p.1 ≤ t.1.length) : tr_ h' R t tb (p, s.2) ∧ frX h h' R :=
  ⟨⟨(f _ (by omega)).trans L.1, T, L.2.2.1.kept (f _ (by omega)) (f _ (by omega)), hp⟩, fun i hi => f i (by omega)⟩
theorem tk_.kept2 {ix : Nat} {ft : Int32} (T : tk_ h R t tb ix ft) (f : ∀ i, R ≤ i → i < R + 7 → h'[i]? = h[i]?) : tk_ h' R t tb ix ft := ⟨(f _ (by omega) (by omega)).trans T.1, T.2.1.kept (f _ (by omega) (by omega)) (f _ (by omega) (by omega)), T.2.2.1.kept (f _ (by omega) (by omega)) (f _ (by omega) (by omega)), T.2.2.2.kept (f _ (by omega) (by omega)) (f _ (by omega) (by omega))⟩
theorem tr_.uk (L : tr_ h R t tb s) {X : List Int32} (K : rw_ h' (R + 8) 500 X) (f : fr2 h h' (R + 8)) : tr_ h' R t tb (s.1, X) ∧ frX h h' R :=
  ⟨⟨(f _ (by omega) (by omega)).trans L.1, L.2.1.kept2 (fun i a b => f i (by omega) (by omega)), K, L.2.2.2⟩, fun i hi => f i (by omega) (by omega)⟩
theorem c_X_takes (L : tr_ h R t tb s) (k : Int32) (hk : k ≠ -1) (d : Nat) : PM (d + 2) 106 [.ref (R + 1), .int k] h (fun v h' => v = some (.int (if taB t.1 k s.1 then 1 else 0)) ∧ tr_ h' R t tb (xTk t.1 k s) ∧ frX h h' R) := by
  refine PM_use (c_T_takes L.2.1 L.i4 k d) ?_
  rintro v h' - ⟨rfl, K1, K2⟩
  exact ⟨rfl, L.ut K1 K2 (taF_ix hk L.2.2.2)⟩
theorem c_X_need (L : tr_ h R t tb s) (k : Int32) (hk : k ≠ -1) (d : Nat) : PM (d + 2) 107 [.ref (R + 1), .int k] h (fun v h' => v = none ∧ tr_ h' R t tb (xNd t.1 k s) ∧ frX h h' R) := by
  refine PM_use (c_T_need L.2.1 L.i4 k d) ?_
  rintro v h' - ⟨rfl, K1, K2⟩
  exact ⟨rfl, L.ut K1 K2 (neF_ix hk L.2.2.2)⟩
theorem c_X_needNumber (L : tr_ h R t tb s) (d : Nat) : PM (d + 2) 108 [.ref (R + 1)] h (fun v h' => v = some (.int (nnV t.1 t.2.2 s.1)) ∧ tr_ h' R t tb (xNd t.1 267 s) ∧ frX h h' R) := by
  refine PM_use (c_T_needNumber L.2.1 L.i4 d) ?_
  rintro v h' - ⟨rfl, K1, K2⟩
  exact ⟨rfl, L.ut K1 K2 (neF_ix (by decide) L.2.2.2)⟩
theorem c_X_fail (L : tr_ h R t tb s) (x : Int32) (d : Nat) : PM (d + 1) 110 [.ref (R + 1), .int x] h (fun v h' => v = none ∧ tr_ h' R t tb (xFa x s) ∧ frX h h' R) := by
  refine PM_use (c_T_fail L.2.1 x d) ?_
  rintro v h' - ⟨rfl, K1, K2⟩
  exact ⟨rfl, L.ut K1 K2 (faF_ix L.2.2.2)⟩
theorem xTk_no {K : List Int32} {k : Int32} {s : XZ} (c : taB K k s.1 = false) : xTk K k s = s := by
  unfold xTk taF
  rw [if_neg (by rw [c]; decide)]
theorem c_X_failUnless (L : tr_ h R t tb s) (b : Bool) (d : Nat) : PM (d + 2) 118 [.ref R, .int (if b = true then 1 else 0)] h (fun v h' => v = none ∧ tr_ h' R t tb (fuF b s) ∧ frX h h' R) := by
  have ro := L.o
  have to := L.to
  refine en_X10_failUnless rfl rfl ?_
  cases b with
  | true =>
    simp only [w_X10_failUnless_0, w_X10_failUnless_1, w_X10_failUnless_4, w_X10_failUnless_5, w_X10_failUnless_8, w_X10_failUnless_9, w_X10_failUnless_12, w_X10_failUnless_15, w_X10_failUnless_16, w_X10_failUnless_17, w_X10_failUnless_20, pm_1i_c, pm_2i_c, pm_1l_c, pm_2l_c, pm_1a_c, pm_ia_c, pm_iia_c, pm_va_c, pm_cp_c, pm_k0_c, pm_k1_c, pm_k2_c, pm_k3_c, pm_s1_c, pm_s2_c, pm_s3_c, pm_s4_c, pm_ri_c, pm_ra_c, pm_rn_c, pm_rk_i, pm_rk_z, pm_rk_a, pm_vk_i, pm_vk_z, pm_vk_a, pm_cti, pm_ctr, pm_ldi_z, pm_ldi_s, pm_lda_z, pm_lda_s, pm_cat_n, pm_cat_i, pm_cat_r, pm_cat_l, pm_obj, pm_arr, pm_opt, pm_ird, pm_aln, List.getElem?_cons_zero, List.getElem?_cons_succ, List.set_cons_zero, List.set_cons_succ, List.length_cons, List.length_nil, List.length_set, true_and, and_true, Nat.add_zero, Nat.zero_add, Nat.le_refl, Nat.reduceAdd, Nat.reduceLT, Nat.reduceLeDiff, Nat.zero_le, not_false_eq_true, not_true_eq_false, false_implies, implies_true, true_implies, Nat.zero_lt_succ, Nat.lt_add_one, if_true, show ¬ (1 : Int32) = 0 by decide]
    exact ⟨L, frX.rf⟩
  | false =>
    simp only [w_X10_failUnless_0, w_X10_failUnless_1, w_X10_failUnless_4, w_X10_failUnless_5, w_X10_failUnless_8, w_X10_failUnless_9, w_X10_failUnless_12, w_X10_failUnless_15, w_X10_failUnless_16, w_X10_failUnless_17, w_X10_failUnless_20, pm_1i_c, pm_2i_c, pm_1l_c, pm_2l_c, pm_1a_c, pm_ia_c, pm_iia_c, pm_va_c, pm_cp_c, pm_k0_c, pm_k1_c, pm_k2_c, pm_k3_c, pm_s1_c, pm_s2_c, pm_s3_c, pm_s4_c, pm_ri_c, pm_ra_c, pm_rn_c, pm_rk_i, pm_rk_z, pm_rk_a, pm_vk_i, pm_vk_z, pm_vk_a, pm_cti, pm_ctr, pm_ldi_z, pm_ldi_s, pm_lda_z, pm_lda_s, pm_cat_n, pm_cat_i, pm_cat_r, pm_cat_l, pm_obj, pm_arr, pm_opt, pm_ird, pm_aln, List.getElem?_cons_zero, List.getElem?_cons_succ, List.set_cons_zero, List.set_cons_succ, List.length_cons, List.length_nil, List.length_set, true_and, and_true, Nat.add_zero, Nat.zero_add, Nat.le_refl, Nat.reduceAdd, Nat.reduceLT, Nat.reduceLeDiff, Nat.zero_le, not_false_eq_true, not_true_eq_false, false_implies, implies_true, true_implies, Nat.zero_lt_succ, Nat.lt_add_one, Bool.false_eq_true, if_false, ro, to]
    refine PM_use (c_X_fail L (nI s.1.1 - 1) d) ?_
    rintro v h2 l2 ⟨rfl, L2, f2⟩
    show W_X10_failUnless _ _ _ _ _ _ _ _ _
    simp only [w_X10_failUnless_0, w_X10_failUnless_1, w_X10_failUnless_4, w_X10_failUnless_5, w_X10_failUnless_8, w_X10_failUnless_9, w_X10_failUnless_12, w_X10_failUnless_15, w_X10_failUnless_16, w_X10_failUnless_17, w_X10_failUnless_20, pm_1i_c, pm_2i_c, pm_1l_c, pm_2l_c, pm_1a_c, pm_ia_c, pm_iia_c, pm_va_c, pm_cp_c, pm_k0_c, pm_k1_c, pm_k2_c, pm_k3_c, pm_s1_c, pm_s2_c, pm_s3_c, pm_s4_c, pm_ri_c, pm_ra_c, pm_rn_c, pm_rk_i, pm_rk_z, pm_rk_a, pm_vk_i, pm_vk_z, pm_vk_a, pm_cti, pm_ctr, pm_ldi_z, pm_ldi_s, pm_lda_z, pm_lda_s, pm_cat_n, pm_cat_i, pm_cat_r, pm_cat_l, pm_obj, pm_arr, pm_opt, pm_ird, pm_aln, List.getElem?_cons_zero, List.getElem?_cons_succ, List.set_cons_zero, List.set_cons_succ, List.length_cons, List.length_nil, List.length_set, true_and, and_true, Nat.add_zero, Nat.zero_add, Nat.le_refl, Nat.reduceAdd, Nat.reduceLT, Nat.reduceLeDiff, Nat.zero_le, not_false_eq_true, not_true_eq_false, false_implies, implies_true, true_implies, Nat.zero_lt_succ, Nat.lt_add_one, pm_tl_n, pm_tl_s, sc_uL, l2]
    exact ⟨L2, f2⟩
theorem c_X_readTimes (L : tr_ h R t tb s) (d : Nat) : PM (d + 3) 117 [.ref R] h (fun v h' => v = some (.int (rtF t.1 t.2.2 s).1) ∧ tr_ h' R t tb (rtF t.1 t.2.2 s).2 ∧ frX h h' R) := by
  have ro := L.o
  have to := L.to
  refine en_X10_readTimes rfl ?_
  simp only [w_X10_readTimes_0, w_X10_readTimes_1, w_X10_readTimes_4, w_X10_readTimes_6, pm_1i_c, pm_2i_c, pm_1l_c, pm_2l_c, pm_1a_c, pm_ia_c, pm_iia_c, pm_va_c, pm_cp_c, pm_k0_c, pm_k1_c, pm_k2_c, pm_k3_c, pm_s1_c, pm_s2_c, pm_s3_c, pm_s4_c, pm_ri_c, pm_ra_c, pm_rn_c, pm_rk_i, pm_rk_z, pm_rk_a, pm_vk_i, pm_vk_z, pm_vk_a, pm_cti, pm_ctr, pm_ldi_z, pm_ldi_s, pm_lda_z, pm_lda_s, pm_cat_n, pm_cat_i, pm_cat_r, pm_cat_l, pm_obj, pm_arr, pm_opt, pm_ird, pm_aln, List.getElem?_cons_zero, List.getElem?_cons_succ, List.set_cons_zero, List.set_cons_succ, List.length_cons, List.length_nil, List.length_set, true_and, and_true, Nat.add_zero, Nat.zero_add, Nat.le_refl, Nat.reduceAdd, Nat.reduceLT, Nat.reduceLeDiff, Nat.zero_le, not_false_eq_true, not_true_eq_false, false_implies, implies_true, true_implies, Nat.zero_lt_succ, Nat.lt_add_one, ro, to]
  refine PM_use (c_X_takes L 42 (by decide) d) ?_
  rintro v h1 l1 ⟨rfl, L1, f1⟩
  unfold rtF
  rcases Bool.eq_false_or_eq_true (taB t.1 42 s.1) with c | c
  · simp only [c, if_true]
    have ro1 := L1.o
    have to1 := L1.to
    show W_X10_readTimes _ _ _ _ _ _ _ _ _
    simp only [w_X10_readTimes_9, w_X10_readTimes_14, w_X10_readTimes_15, w_X10_readTimes_18, pm_1i_c, pm_2i_c, pm_1l_c, pm_2l_c, pm_1a_c, pm_ia_c, pm_iia_c, pm_va_c, pm_cp_c, pm_k0_c, pm_k1_c, pm_k2_c, pm_k3_c, pm_s1_c, pm_s2_c, pm_s3_c, pm_s4_c, pm_ri_c, pm_ra_c, pm_rn_c, pm_rk_i, pm_rk_z, pm_rk_a, pm_vk_i, pm_vk_z, pm_vk_a, pm_cti, pm_ctr, pm_ldi_z, pm_ldi_s, pm_lda_z, pm_lda_s, pm_cat_n, pm_cat_i, pm_cat_r, pm_cat_l, pm_obj, pm_arr, pm_opt, pm_ird, pm_aln, List.getElem?_cons_zero, List.getElem?_cons_succ, List.set_cons_zero, List.set_cons_succ, List.length_cons, List.length_nil, List.length_set, true_and, and_true, Nat.add_zero, Nat.zero_add, Nat.le_refl, Nat.reduceAdd, Nat.reduceLT, Nat.reduceLeDiff, Nat.zero_le, not_false_eq_true, not_true_eq_false, false_implies, implies_true, true_implies, Nat.zero_lt_succ, Nat.lt_add_one, pm_tl_n, pm_tl_s, sc_uL, ro1, to1, l1, show ¬ (1 : Int32) = 0 by decide]
    refine PM_use (c_X_needNumber L1 d) ?_
    rintro v h2 l2 ⟨rfl, L2, f2⟩
    have ro2 := L2.o
    obtain ⟨x, hx⟩ : ∃ x, x = nnV t.1 t.2.2 (xTk t.1 42 s).1 := ⟨_, rfl⟩
    rw [← hx]
    have go : ∀ b, b = tmB x → PM (d + 2) 118 [.ref R, .int (if b = true then 1 else 0)] h2 (fun v h2 => V_X10_readTimes (d + 2) (h.length + 0) 0 (fun v h' => v = some (.int x) ∧ tr_ h' R t tb (fuF (tmB x) (xNd t.1 267 (xTk t.1 42 s))) ∧ frX h h' R) 42 [some (.ref R), some (.int x)] (v.toList ++ []) h2 (0 + 0)) := by
      intro b hb
      refine PM_use (c_X_failUnless L2 b d) ?_
      rintro v h3 l3 ⟨rfl, L3, f3⟩
      show W_X10_readTimes _ _ _ _ _ _ _ _ _
      simp only [w_X10_readTimes_42, w_X10_readTimes_43, pm_1i_c, pm_2i_c, pm_1l_c, pm_2l_c, pm_1a_c, pm_ia_c, pm_iia_c, pm_va_c, pm_cp_c, pm_k0_c, pm_k1_c, pm_k2_c, pm_k3_c, pm_s1_c, pm_s2_c, pm_s3_c, pm_s4_c, pm_ri_c, pm_ra_c, pm_rn_c, pm_rk_i, pm_rk_z, pm_rk_a, pm_vk_i, pm_vk_z, pm_vk_a, pm_cti, pm_ctr, pm_ldi_z, pm_ldi_s, pm_lda_z, pm_lda_s, pm_cat_n, pm_cat_i, pm_cat_r, pm_cat_l, pm_obj, pm_arr, pm_opt, pm_ird, pm_aln, List.getElem?_cons_zero, List.getElem?_cons_succ, List.set_cons_zero, List.set_cons_succ, List.length_cons, List.length_nil, List.length_set, true_and, and_true, Nat.add_zero, Nat.zero_add, Nat.le_refl, Nat.reduceAdd, Nat.reduceLT, Nat.reduceLeDiff, Nat.zero_le, not_false_eq_true, not_true_eq_false, false_implies, implies_true, true_implies, Nat.zero_lt_succ, Nat.lt_add_one, pm_tl_n, pm_tl_s, sc_uL, l3, l2, l1]
      rw [← hb]
      exact ⟨L3, (f1.tr f2).tr f3⟩
    show W_X10_readTimes _ _ _ _ _ _ _ _ _
    simp only [w_X10_readTimes_21, w_X10_readTimes_22, w_X10_readTimes_23, w_X10_readTimes_24, w_X10_readTimes_25, w_X10_readTimes_28, w_X10_readTimes_29, w_X10_readTimes_31, w_X10_readTimes_34, w_X10_readTimes_35, w_X10_readTimes_38, w_X10_readTimes_39, pm_1i_c, pm_2i_c, pm_1l_c, pm_2l_c, pm_1a_c, pm_ia_c, pm_iia_c, pm_va_c, pm_cp_c, pm_k0_c, pm_k1_c, pm_k2_c, pm_k3_c, pm_s1_c, pm_s2_c, pm_s3_c, pm_s4_c, pm_ri_c, pm_ra_c, pm_rn_c, pm_rk_i, pm_rk_z, pm_rk_a, pm_vk_i, pm_vk_z, pm_vk_a, pm_cti, pm_ctr, pm_ldi_z, pm_ldi_s, pm_lda_z, pm_lda_s, pm_cat_n, pm_cat_i, pm_cat_r, pm_cat_l, pm_obj, pm_arr, pm_opt, pm_ird, pm_aln, List.getElem?_cons_zero, List.getElem?_cons_succ, List.set_cons_zero, List.set_cons_succ, List.length_cons, List.length_nil, List.length_set, true_and, and_true, Nat.add_zero, Nat.zero_add, Nat.le_refl, Nat.reduceAdd, Nat.reduceLT, Nat.reduceLeDiff, Nat.zero_le, not_false_eq_true, not_true_eq_false, false_implies, implies_true, true_implies, Nat.zero_lt_succ, Nat.lt_add_one, pm_tl_n, pm_tl_s, sc_uL, ro2, l2, l1]
    refine ⟨fun c1 => ?_, fun c1 => ⟨fun c2 => ?_, fun c2 => ?_⟩⟩
    · exact go false (by unfold tmB; rw [eq_comm, decide_eq_false_iff_not]; exact fun z => z.1 c1)
    · exact go false (by unfold tmB; rw [eq_comm, decide_eq_false_iff_not]; exact fun z => z.2 c2)
    · exact go true (by unfold tmB; exact (decide_eq_true ⟨c1, c2⟩).symm)
  · rw [xTk_no c] at L1
    simp only [c, Bool.false_eq_true, if_false]
    show W_X10_readTimes _ _ _ _ _ _ _ _ _
    simp only [w_X10_readTimes_9, w_X10_readTimes_12, w_X10_readTimes_13, pm_1i_c, pm_2i_c, pm_1l_c, pm_2l_c, pm_1a_c, pm_ia_c, pm_iia_c, pm_va_c, pm_cp_c, pm_k0_c, pm_k1_c, pm_k2_c, pm_k3_c, pm_s1_c, pm_s2_c, pm_s3_c, pm_s4_c, pm_ri_c, pm_ra_c, pm_rn_c, pm_rk_i, pm_rk_z, pm_rk_a, pm_vk_i, pm_vk_z, pm_vk_a, pm_cti, pm_ctr, pm_ldi_z, pm_ldi_s, pm_lda_z, pm_lda_s, pm_cat_n, pm_cat_i, pm_cat_r, pm_cat_l, pm_obj, pm_arr, pm_opt, pm_ird, pm_aln, List.getElem?_cons_zero, List.getElem?_cons_succ, List.set_cons_zero, List.set_cons_succ, List.length_cons, List.length_nil, List.length_set, true_and, and_true, Nat.add_zero, Nat.zero_add, Nat.le_refl, Nat.reduceAdd, Nat.reduceLT, Nat.reduceLeDiff, Nat.zero_le, not_false_eq_true, not_true_eq_false, false_implies, implies_true, true_implies, Nat.zero_lt_succ, Nat.lt_add_one, pm_tl_n, pm_tl_s, sc_uL, l1]
    exact ⟨L1, f1⟩
theorem c_X_fits (L : tr_ h R t tb s) (more start : Int32) (d : Nat) : PM (d + 2) 120 [.ref R, .int more, .int start] h (fun v h' => v = some (.int (if (ftF more start s).1.2 = -1 then 1 else 0)) ∧ tr_ h' R t tb (ftF more start s) ∧ frX h h' R) := by
  have ro := L.o
  have to := L.to
  have ko := L.ko
  refine en_X10_fits rfl rfl rfl ?_
  have fin : ∀ (hh : pmH) (q : XZ), tr_ hh R t tb q → q = ftF more start s → hh.length = h.length → frX h hh R → W_X10_fits (d + 1) (h.length + 0) 0 (fun v h' => v = some (.int (if (ftF more start s).1.2 = -1 then 1 else 0)) ∧ tr_ h' R t tb (ftF more start s) ∧ frX h h' R) 23 [some (.ref R), some (.int more), some (.int start)] [] hh 0 := by
    intro hh q L1 e q1 q2
    have ro := L1.o
    have to := L1.to
    simp only [w_X10_fits_23, w_X10_fits_24, w_X10_fits_27, pm_1i_c, pm_2i_c, pm_1l_c, pm_2l_c, pm_1a_c, pm_ia_c, pm_iia_c, pm_va_c, pm_cp_c, pm_k0_c, pm_k1_c, pm_k2_c, pm_k3_c, pm_s1_c, pm_s2_c, pm_s3_c, pm_s4_c, pm_ri_c, pm_ra_c, pm_rn_c, pm_rk_i, pm_rk_z, pm_rk_a, pm_vk_i, pm_vk_z, pm_vk_a, pm_cti, pm_ctr, pm_ldi_z, pm_ldi_s, pm_lda_z, pm_lda_s, pm_cat_n, pm_cat_i, pm_cat_r, pm_cat_l, pm_obj, pm_arr, pm_opt, pm_ird, pm_aln, List.getElem?_cons_zero, List.getElem?_cons_succ, List.set_cons_zero, List.set_cons_succ, List.length_cons, List.length_nil, List.length_set, true_and, and_true, Nat.add_zero, Nat.zero_add, Nat.le_refl, Nat.reduceAdd, Nat.reduceLT, Nat.reduceLeDiff, Nat.zero_le, not_false_eq_true, not_true_eq_false, false_implies, implies_true, true_implies, Nat.zero_lt_succ, Nat.lt_add_one, ro, to, q1]
    refine PM_use (c_T_failed L1.2.1 d) ?_
    rintro v h2 l2 ⟨rfl, rfl⟩
    rw [← e]
    by_cases c : q.1.2 = -1
    · simp only [c, if_true]
      show W_X10_fits _ _ _ _ _ _ _ _ _
      simp only [w_X10_fits_30, w_X10_fits_33, w_X10_fits_34, w_X10_fits_37, w_X10_fits_38, pm_1i_c, pm_2i_c, pm_1l_c, pm_2l_c, pm_1a_c, pm_ia_c, pm_iia_c, pm_va_c, pm_cp_c, pm_k0_c, pm_k1_c, pm_k2_c, pm_k3_c, pm_s1_c, pm_s2_c, pm_s3_c, pm_s4_c, pm_ri_c, pm_ra_c, pm_rn_c, pm_rk_i, pm_rk_z, pm_rk_a, pm_vk_i, pm_vk_z, pm_vk_a, pm_cti, pm_ctr, pm_ldi_z, pm_ldi_s, pm_lda_z, pm_lda_s, pm_cat_n, pm_cat_i, pm_cat_r, pm_cat_l, pm_obj, pm_arr, pm_opt, pm_ird, pm_aln, List.getElem?_cons_zero, List.getElem?_cons_succ, List.set_cons_zero, List.set_cons_succ, List.length_cons, List.length_nil, List.length_set, true_and, and_true, Nat.add_zero, Nat.zero_add, Nat.le_refl, Nat.reduceAdd, Nat.reduceLT, Nat.reduceLeDiff, Nat.zero_le, not_false_eq_true, not_true_eq_false, false_implies, implies_true, true_implies, Nat.zero_lt_succ, Nat.lt_add_one, pm_tl_n, pm_tl_s, sc_uL, q1]
      exact ⟨Or.inr trivial, L1, q2⟩
    · simp only [c, if_false]
      show W_X10_fits _ _ _ _ _ _ _ _ _
      simp only [w_X10_fits_30, w_X10_fits_33, w_X10_fits_34, w_X10_fits_37, w_X10_fits_38, pm_1i_c, pm_2i_c, pm_1l_c, pm_2l_c, pm_1a_c, pm_ia_c, pm_iia_c, pm_va_c, pm_cp_c, pm_k0_c, pm_k1_c, pm_k2_c, pm_k3_c, pm_s1_c, pm_s2_c, pm_s3_c, pm_s4_c, pm_ri_c, pm_ra_c, pm_rn_c, pm_rk_i, pm_rk_z, pm_rk_a, pm_vk_i, pm_vk_z, pm_vk_a, pm_cti, pm_ctr, pm_ldi_z, pm_ldi_s, pm_lda_z, pm_lda_s, pm_cat_n, pm_cat_i, pm_cat_r, pm_cat_l, pm_obj, pm_arr, pm_opt, pm_ird, pm_aln, List.getElem?_cons_zero, List.getElem?_cons_succ, List.set_cons_zero, List.set_cons_succ, List.length_cons, List.length_nil, List.length_set, true_and, and_true, Nat.add_zero, Nat.zero_add, Nat.le_refl, Nat.reduceAdd, Nat.reduceLT, Nat.reduceLeDiff, Nat.zero_le, not_false_eq_true, not_true_eq_false, false_implies, implies_true, true_implies, Nat.zero_lt_succ, Nat.lt_add_one, pm_tl_n, pm_tl_s, sc_uL, q1, show ¬ (1 : Int32) = 0 by decide]
      exact ⟨Or.inl trivial, L1, q2⟩
  simp only [w_X10_fits_0, w_X10_fits_1, w_X10_fits_4, pm_1i_c, pm_2i_c, pm_1l_c, pm_2l_c, pm_1a_c, pm_ia_c, pm_iia_c, pm_va_c, pm_cp_c, pm_k0_c, pm_k1_c, pm_k2_c, pm_k3_c, pm_s1_c, pm_s2_c, pm_s3_c, pm_s4_c, pm_ri_c, pm_ra_c, pm_rn_c, pm_rk_i, pm_rk_z, pm_rk_a, pm_vk_i, pm_vk_z, pm_vk_a, pm_cti, pm_ctr, pm_ldi_z, pm_ldi_s, pm_lda_z, pm_lda_s, pm_cat_n, pm_cat_i, pm_cat_r, pm_cat_l, pm_obj, pm_arr, pm_opt, pm_ird, pm_aln, List.getElem?_cons_zero, List.getElem?_cons_succ, List.set_cons_zero, List.set_cons_succ, List.length_cons, List.length_nil, List.length_set, true_and, and_true, Nat.add_zero, Nat.zero_add, Nat.le_refl, Nat.reduceAdd, Nat.reduceLT, Nat.reduceLeDiff, Nat.zero_le, not_false_eq_true, not_true_eq_false, false_implies, implies_true, true_implies, Nat.zero_lt_succ, Nat.lt_add_one, ro, ko]
  refine PM_use (c_Row_size L.2.2.1 d) ?_
  rintro v h1 l1 ⟨rfl, rfl⟩
  show W_X10_fits _ _ _ _ _ _ _ _ _
  simp only [w_X10_fits_7, w_X10_fits_8, w_X10_fits_9, w_X10_fits_12, w_X10_fits_15, w_X10_fits_16, w_X10_fits_19, w_X10_fits_20, pm_1i_c, pm_2i_c, pm_1l_c, pm_2l_c, pm_1a_c, pm_ia_c, pm_iia_c, pm_va_c, pm_cp_c, pm_k0_c, pm_k1_c, pm_k2_c, pm_k3_c, pm_s1_c, pm_s2_c, pm_s3_c, pm_s4_c, pm_ri_c, pm_ra_c, pm_rn_c, pm_rk_i, pm_rk_z, pm_rk_a, pm_vk_i, pm_vk_z, pm_vk_a, pm_cti, pm_ctr, pm_ldi_z, pm_ldi_s, pm_lda_z, pm_lda_s, pm_cat_n, pm_cat_i, pm_cat_r, pm_cat_l, pm_obj, pm_arr, pm_opt, pm_ird, pm_aln, List.getElem?_cons_zero, List.getElem?_cons_succ, List.set_cons_zero, List.set_cons_succ, List.length_cons, List.length_nil, List.length_set, true_and, and_true, Nat.add_zero, Nat.zero_add, Nat.le_refl, Nat.reduceAdd, Nat.reduceLT, Nat.reduceLeDiff, Nat.zero_le, not_false_eq_true, not_true_eq_false, false_implies, implies_true, true_implies, Nat.zero_lt_succ, Nat.lt_add_one, pm_tl_n, pm_tl_s, sc_uL, ro, to]
  refine ⟨fun c => ?_, fun c => ?_⟩
  · exact fin h1 s L (by unfold ftF; rw [if_neg c]) rfl frX.rf
  · refine PM_use (c_X_fail L start d) ?_
    rintro v h2 l2 ⟨rfl, L2, f2⟩
    show W_X10_fits _ _ _ _ _ _ _ _ _
    exact fin h2 _ L2 (by unfold ftF; rw [if_pos c]) (by rw [l2]; rfl) f2
/-! what holds where nothing failed -/
theorem faF_ne {x : Int32} {p : PS} (hx : x ≠ -1) : (faF x p).2 ≠ -1 := by
  unfold faF
  split
  · exact hx
  · rename_i c
    exact c
theorem nI_ne1 {n : Nat} (hn : n < 2 ^ 31) : nI n ≠ -1 := fun e => nI_pos hn (e ▸ (by decide : (-1 : Int32) < 0))
theorem neF_ok {K : List Int32} {k : Int32} {p : PS} (hp : p.1 ≤ 1000) (e : (neF K k p).2 = -1) : taB K k p = true := by
  unfold neF at e
  by_cases c : taB K k p = true
  · exact c
  · rw [if_neg c] at e
    exact absurd e (faF_ne (nI_ne1 (by omega)))
theorem neF_1 {K : List Int32} {k : Int32} {p : PS} (c : taB K k p = true) : neF K k p = (p.1 + 1, p.2) := if_pos c
theorem taB_2 {K : List Int32} {k : Int32} {p : PS} (c : taB K k p = true) : p.2 = -1 ∧ K.getD p.1 (-1) = k := by
  unfold taB at c
  rwa [decide_eq_true_eq] at c
theorem nnV_ok {K N : List Int32} {p : PS} (V : NV K N) (c : taB K 267 p = true) : ∃ m, m < 100000 ∧ nnV K N p = nI m := by
  unfold nnV
  rw [if_pos c]
  exact V _ (taB_2 c).2
/-- 'failUnless' behind a number that was needed -/
theorem fuF_ok {K N : List Int32} {b : Bool} {s : XZ} (V : NV K N) (hs : s.1.1 ≤ 999) (e : (fuF b (xNd K 267 s)).1.2 = -1) : b = true ∧ s.1.2 = -1 ∧ ∃ m, m < 100000 ∧ nnV K N s.1 = nI m := by
  unfold fuF at e
  by_cases c : b = true
  · rw [if_pos c] at e
    have t := neF_ok (K := K) (k := 267) (p := s.1) (by omega) e
    exact ⟨c, (taB_2 t).1, nnV_ok V t⟩
  · rw [if_neg c] at e
    by_cases t : taB K 267 s.1 = true
    · refine absurd e ?_
      refine faF_ne ?_
      show nI (neF K 267 s.1).1 - 1 ≠ -1
      rw [neF_1 t, nI_pred]
      exact nI_ne1 (by omega)
    · exfalso
      have z : (xNd K 267 s).1.2 ≠ -1 := fun y => t (neF_ok (by omega) y)
      have w : (xFa (nI (xNd K 267 s).1.1 - 1) (xNd K 267 s)).1.2 = (xNd K 267 s).1.2 := by
        unfold xFa faF
        rw [if_neg z]
      exact z (w.symm.trans e)
theorem taF_2 {K : List Int32} {k : Int32} {p : PS} : (taF K k p).2 = p.2 := by
  unfold taF
  split <;> rfl
theorem taF_1 {K : List Int32} {k : Int32} {p : PS} : (taF K k p).1 ≤ p.1 + 1 := by
  unfold taF
  split
  · exact Nat.le_refl _
  · exact Nat.le_succ _
theorem rtF_ok {K N : List Int32} {s : XZ} (V : NV K N) (hs : s.1.1 ≤ 900) (e : (rtF K N s).2.1.2 = -1) : s.1.2 = -1 ∧ ∃ m, 1 ≤ m ∧ m ≤ 100 ∧ (rtF K N s).1 = nI m := by
  unfold rtF at e ⊢
  by_cases c : taB K 42 s.1 = true
  · rw [if_pos c] at e ⊢
    have h9 : (xTk K 42 s).1.1 ≤ 999 := by
      have := taF_1 (K := K) (k := 42) (p := s.1)
      show (taF K 42 s.1).1 ≤ 999
      omega
    obtain ⟨e1, e2, m, e3, e4⟩ := fuF_ok V h9 e
    have e2' : (taF K 42 s.1).2 = -1 := e2
    rw [taF_2] at e2'
    dsimp only
    rw [e4] at e1 ⊢
    unfold tmB at e1
    rw [decide_eq_true_eq] at e1
    have a1 : ¬ m < 1 := fun z => e1.1 (nI_lt (a := m) (b := 1) z (by omega))
    have a2 : ¬ 100 < m := fun z => e1.2 (nI_lt (a := 100) (b := m) z (by omega))
    exact ⟨e2', m, by omega, by omega, rfl⟩
  · rw [if_neg c] at e ⊢
    exact ⟨e, 1, by omega, by omega, rfl⟩
theorem ftF_ok {more start : Int32} {s : XZ} (hs : start ≠ -1) (e : (ftF more start s).1.2 = -1) : ¬ 500 < nI s.2.length + more ∧ ftF more start s = s := by
  unfold ftF at e ⊢
  by_cases c : 500 < nI s.2.length + more
  · rw [if_pos c] at e
    exact absurd e (faF_ne hs)
  · exact ⟨c, if_neg c⟩
theorem rlF_ok {K N : List Int32} {s : XZ} {a : Nat} (V : NV K N) (hs : s.1.1 ≤ 900) (ha : a < 100000) (e : (rlF K N (nI a) s).2.1.2 = -1) : s.1.2 = -1 ∧ ∃ m, a ≤ m ∧ m < 100000 ∧ (rlF K N (nI a) s).1 = nI m := by
  unfold rlF at e ⊢
  by_cases c : taB K 45 s.1 = true
  · rw [if_pos c] at e ⊢
    have h9 : (xTk K 45 s).1.1 ≤ 999 := by
      have := taF_1 (K := K) (k := 45) (p := s.1)
      show (taF K 45 s.1).1 ≤ 999
      omega
    obtain ⟨e1, e2, m, e3, e4⟩ := fuF_ok V h9 e
    have e2' : (taF K 45 s.1).2 = -1 := e2
    rw [taF_2] at e2'
    dsimp only
    rw [e4] at e1 ⊢
    rw [decide_eq_true_eq] at e1
    have a1 : ¬ m < a := fun z => e1 (nI_lt z (by omega))
    exact ⟨e2', m, by omega, by omega, rfl⟩
  · rw [if_neg c] at e ⊢
    exact ⟨e, a, by omega, by omega, rfl⟩
end XR
