/-! Lookback: what it finds in the latest asks. -/
def agM (xs : List Int32) (x : Int32) : Nat → Nat
  | 0 => 0
  | k + 1 => if xs.getD k (-1) = x then k + 1 else agM xs x k
def agA (xs : List Int32) (i : Nat) : Nat := agM xs (xs.getD i (-1)) i
def nxN (xs : List Int32) (x : Int32) : Nat → Nat → Nat
  | 0, _ => 100
  | n + 1, k => if xs.getD k (-1) = x then k else nxN xs x n (k + 1)
def nxA (xs : List Int32) (i : Nat) : Nat := nxN xs (xs.getD i (-1)) (xs.length - (i + 1)) (i + 1)
def unS (xs : List Int32) : Nat → Nat
  | 0 => 0
  | k + 1 => if agA xs k = 0 then unS xs k + 1 else unS xs k
def lgS (xs : List Int32) : Nat → Nat × Nat
  | 0 => (0, 0)
  | k + 1 =>
    let s := max (lgS xs k).2 (agA xs k)
    (max (lgS xs k).1 (k - s + 1), s)
def wgS (xs : List Int32) : Nat → Int32
  | 0 => -1
  | k + 1 => if agA xs k = 0 then wgS xs k else if wgS xs k < nI (k - agA xs k) then nI (k - agA xs k) else wgS xs k
def cmS (xs : List Int32) : Nat → Int32 × Nat
  | 0 => (-1, 0)
  | k + 1 =>
    let y := xs.getD k (-1)
    if (cmS xs k).2 < xs.count y ∨ xs.count y = (cmS xs k).2 ∧ y < (cmS xs k).1 then (y, xs.count y) else cmS xs k
theorem unS_s (xs : List Int32) (k : Nat) : unS xs (k + 1) = if agA xs k = 0 then unS xs k + 1 else unS xs k := rfl
theorem wgS_s (xs : List Int32) (k : Nat) : wgS xs (k + 1) = if agA xs k = 0 then wgS xs k else if wgS xs k < nI (k - agA xs k) then nI (k - agA xs k) else wgS xs k := rfl
theorem cmS_s (xs : List Int32) (k : Nat) : cmS xs (k + 1) = if (cmS xs k).2 < xs.count (xs.getD k (-1)) ∨ xs.count (xs.getD k (-1)) = (cmS xs k).2 ∧ xs.getD k (-1) < (cmS xs k).1 then (xs.getD k (-1), xs.count (xs.getD k (-1))) else cmS xs k := rfl
theorem agM_le (xs : List Int32) (x : Int32) : ∀ k, agM xs x k ≤ k
  | 0 => Nat.le_refl 0
  | k + 1 => by
    unfold agM
    split
    · omega
    · have := agM_le xs x k
      omega
theorem nIm1 {m : Nat} (hm : m < 2 ^ 31) : nI m - 1 = -1 ↔ m = 0 := by
  cases m with
  | zero => exact ⟨fun _ => rfl, fun _ => rfl⟩
  | succ k =>
    rw [nI_pred]
    exact ⟨fun e => absurd (e ▸ (by decide : (-1 : Int32) < 0)) (nI_pos (by omega)), fun e => by omega⟩
theorem nIinc (x : Int32) : x + -1 = x - 1 := by rw [Int32.sub_eq_add_neg]
theorem nI_inj {a b : Nat} (ha : a < 2 ^ 31) (hb : b < 2 ^ 31) : nI a = nI b ↔ a = b := by
  refine ⟨fun e => ?_, fun e => by rw [e]⟩
  have := congrArg Int32.toNatClampNeg e
  rwa [nI_clamp ha, nI_clamp hb] at this
theorem ct_take {xs : List Int32} {k : Nat} (hk : k < xs.length) (y : Int32) : (xs.take (k + 1)).count y = (xs.take k).count y + if xs.getD k (-1) = y then 1 else 0 := by
  have tk : xs.take (k + 1) = xs.take k ++ [xs.getD k (-1)] := by
    rw [List.take_add_one, List.getElem?_eq_getElem hk, List.getD_eq_getElem?_getD, List.getElem?_eq_getElem hk]
    rfl
  rw [tk, List.count_append, List.count_singleton]
  congr 1
  simp only [beq_iff_eq]
section LB
variable {h : pmH} {Lb P : Nat} {xs : List Int32}
theorem c_Lb_askAhead (R : rw_ h P 100 xs) {i : Nat} (hi : i < xs.length) (d : Nat) : PM (d + 2) 51 [.ref P, .int (nI i)] h (fun v h' => v = some (.int (nI (agA xs i) - 1)) ∧ h' = h) := by
  have ro := R.o
  have len := R.le
  refine en_X5_askAhead rfl rfl ?_
  have loop : ∀ k, k ≤ i → agM xs (xs.getD i (-1)) k = agA xs i → W_X5_askAhead (d + 1) (h.length + 0) 0 (fun v h' => v = some (.int (nI (agA xs i) - 1)) ∧ h' = h) 4 [some (.ref P), some (.int (nI i)), some (.int (nI k - 1))] [] h 0 := by
    intro k
    induction k with
    | zero =>
      intro hk e
      have e1 : nI 0 - 1 < 0 := by decide
      rw [w_X5_askAhead_4]
      simp only [w_X5_askAhead_5, w_X5_askAhead_8, w_X5_askAhead_9, w_X5_askAhead_10, w_X5_askAhead_13, w_X5_askAhead_14, w_X5_askAhead_15, w_X5_askAhead_18, w_X5_askAhead_21, w_X5_askAhead_22, w_X5_askAhead_23, w_X5_askAhead_26, w_X5_askAhead_29, w_X5_askAhead_30, pm_1i_c, pm_2i_c, pm_1l_c, pm_2l_c, pm_1a_c, pm_ia_c, pm_iia_c, pm_va_c, pm_cp_c, pm_k0_c, pm_k1_c, pm_k2_c, pm_k3_c, pm_s1_c, pm_s2_c, pm_s3_c, pm_s4_c, pm_ri_c, pm_ra_c, pm_rn_c, pm_rk_i, pm_rk_z, pm_rk_a, pm_vk_i, pm_vk_z, pm_vk_a, pm_cti, pm_ctr, pm_ldi_z, pm_ldi_s, pm_lda_z, pm_lda_s, pm_cat_n, pm_cat_i, pm_cat_r, pm_cat_l, pm_obj, pm_arr, pm_opt, pm_ird, pm_aln, List.getElem?_cons_zero, List.getElem?_cons_succ, List.set_cons_zero, List.set_cons_succ, List.length_cons, List.length_nil, List.length_set, true_and, and_true, Nat.add_zero, Nat.zero_add, Nat.le_refl, Nat.reduceAdd, Nat.reduceLT, Nat.reduceLeDiff, Nat.zero_le, not_false_eq_true, not_true_eq_false, false_implies, implies_true, true_implies, Nat.zero_lt_succ, Nat.lt_add_one, e1]
      rw [← e]
      rfl
    | succ k ih =>
      intro hk e
      have e1 : ¬ nI k < 0 := nI_pos (by omega)
      rw [nI_pred, w_X5_askAhead_4]
      simp only [w_X5_askAhead_5, w_X5_askAhead_8, w_X5_askAhead_9, w_X5_askAhead_10, w_X5_askAhead_13, w_X5_askAhead_14, w_X5_askAhead_15, w_X5_askAhead_18, w_X5_askAhead_21, w_X5_askAhead_22, w_X5_askAhead_23, w_X5_askAhead_26, w_X5_askAhead_29, w_X5_askAhead_30, pm_1i_c, pm_2i_c, pm_1l_c, pm_2l_c, pm_1a_c, pm_ia_c, pm_iia_c, pm_va_c, pm_cp_c, pm_k0_c, pm_k1_c, pm_k2_c, pm_k3_c, pm_s1_c, pm_s2_c, pm_s3_c, pm_s4_c, pm_ri_c, pm_ra_c, pm_rn_c, pm_rk_i, pm_rk_z, pm_rk_a, pm_vk_i, pm_vk_z, pm_vk_a, pm_cti, pm_ctr, pm_ldi_z, pm_ldi_s, pm_lda_z, pm_lda_s, pm_cat_n, pm_cat_i, pm_cat_r, pm_cat_l, pm_obj, pm_arr, pm_opt, pm_ird, pm_aln, List.getElem?_cons_zero, List.getElem?_cons_succ, List.set_cons_zero, List.set_cons_succ, List.length_cons, List.length_nil, List.length_set, true_and, and_true, Nat.add_zero, Nat.zero_add, Nat.le_refl, Nat.reduceAdd, Nat.reduceLT, Nat.reduceLeDiff, Nat.zero_le, not_false_eq_true, not_true_eq_false, false_implies, implies_true, true_implies, Nat.zero_lt_succ, Nat.lt_add_one, e1, ro]
      refine PM_use (c_Row_get R (nI k) d) ?_
      rintro v h1 l1 ⟨rfl, rfl⟩
      rw [rw_getN (by omega)]
      show W_X5_askAhead _ _ _ _ _ _ _ _ _
      simp only [w_X5_askAhead_13, w_X5_askAhead_14, w_X5_askAhead_15, w_X5_askAhead_18, w_X5_askAhead_21, w_X5_askAhead_22, w_X5_askAhead_23, w_X5_askAhead_26, w_X5_askAhead_29, w_X5_askAhead_30, pm_1i_c, pm_2i_c, pm_1l_c, pm_2l_c, pm_1a_c, pm_ia_c, pm_iia_c, pm_va_c, pm_cp_c, pm_k0_c, pm_k1_c, pm_k2_c, pm_k3_c, pm_s1_c, pm_s2_c, pm_s3_c, pm_s4_c, pm_ri_c, pm_ra_c, pm_rn_c, pm_rk_i, pm_rk_z, pm_rk_a, pm_vk_i, pm_vk_z, pm_vk_a, pm_cti, pm_ctr, pm_ldi_z, pm_ldi_s, pm_lda_z, pm_lda_s, pm_cat_n, pm_cat_i, pm_cat_r, pm_cat_l, pm_obj, pm_arr, pm_opt, pm_ird, pm_aln, List.getElem?_cons_zero, List.getElem?_cons_succ, List.set_cons_zero, List.set_cons_succ, List.length_cons, List.length_nil, List.length_set, true_and, and_true, Nat.add_zero, Nat.zero_add, Nat.le_refl, Nat.reduceAdd, Nat.reduceLT, Nat.reduceLeDiff, Nat.zero_le, not_false_eq_true, not_true_eq_false, false_implies, implies_true, true_implies, Nat.zero_lt_succ, Nat.lt_add_one, pm_tl_n, pm_tl_s, sc_uL, ro]
      refine PM_use (c_Row_get R (nI i) d) ?_
      rintro v h1 l1 ⟨rfl, rfl⟩
      rw [rw_getN (by omega)]
      show W_X5_askAhead _ _ _ _ _ _ _ _ _
      simp only [w_X5_askAhead_18, w_X5_askAhead_21, w_X5_askAhead_22, w_X5_askAhead_23, w_X5_askAhead_26, w_X5_askAhead_29, w_X5_askAhead_30, pm_1i_c, pm_2i_c, pm_1l_c, pm_2l_c, pm_1a_c, pm_ia_c, pm_iia_c, pm_va_c, pm_cp_c, pm_k0_c, pm_k1_c, pm_k2_c, pm_k3_c, pm_s1_c, pm_s2_c, pm_s3_c, pm_s4_c, pm_ri_c, pm_ra_c, pm_rn_c, pm_rk_i, pm_rk_z, pm_rk_a, pm_vk_i, pm_vk_z, pm_vk_a, pm_cti, pm_ctr, pm_ldi_z, pm_ldi_s, pm_lda_z, pm_lda_s, pm_cat_n, pm_cat_i, pm_cat_r, pm_cat_l, pm_obj, pm_arr, pm_opt, pm_ird, pm_aln, List.getElem?_cons_zero, List.getElem?_cons_succ, List.set_cons_zero, List.set_cons_succ, List.length_cons, List.length_nil, List.length_set, true_and, and_true, Nat.add_zero, Nat.zero_add, Nat.le_refl, Nat.reduceAdd, Nat.reduceLT, Nat.reduceLeDiff, Nat.zero_le, not_false_eq_true, not_true_eq_false, false_implies, implies_true, true_implies, Nat.zero_lt_succ, Nat.lt_add_one, pm_tl_n, pm_tl_s, sc_uL, ro, nIinc]
      unfold agM at e
      refine ⟨fun c => ?_, fun c => ?_⟩
      · rw [if_neg c] at e
        exact ih (by omega) e
      · rw [if_pos c] at e
        rw [← e, nI_pred]
  simp only [w_X5_askAhead_0, w_X5_askAhead_1, w_X5_askAhead_2, w_X5_askAhead_3, pm_1i_c, pm_2i_c, pm_1l_c, pm_2l_c, pm_1a_c, pm_ia_c, pm_iia_c, pm_va_c, pm_cp_c, pm_k0_c, pm_k1_c, pm_k2_c, pm_k3_c, pm_s1_c, pm_s2_c, pm_s3_c, pm_s4_c, pm_ri_c, pm_ra_c, pm_rn_c, pm_rk_i, pm_rk_z, pm_rk_a, pm_vk_i, pm_vk_z, pm_vk_a, pm_cti, pm_ctr, pm_ldi_z, pm_ldi_s, pm_lda_z, pm_lda_s, pm_cat_n, pm_cat_i, pm_cat_r, pm_cat_l, pm_obj, pm_arr, pm_opt, pm_ird, pm_aln, List.getElem?_cons_zero, List.getElem?_cons_succ, List.set_cons_zero, List.set_cons_succ, List.length_cons, List.length_nil, List.length_set, true_and, and_true, Nat.add_zero, Nat.zero_add, Nat.le_refl, Nat.reduceAdd, Nat.reduceLT, Nat.reduceLeDiff, Nat.zero_le, not_false_eq_true, not_true_eq_false, false_implies, implies_true, true_implies, Nat.zero_lt_succ, Nat.lt_add_one]
  exact loop i (Nat.le_refl _) rfl
theorem c_Lb_nextAsk (R : rw_ h P 100 xs) {i : Nat} (hi : i < xs.length) (d : Nat) : PM (d + 2) 44 [.ref P, .int (nI i)] h (fun v h' => v = some (.int (nI (nxA xs i))) ∧ h' = h) := by
  have ro := R.o
  have len := R.le
  refine en_X5_nextAsk rfl rfl ?_
  have loop : ∀ n k, xs.length - k = n → k ≤ xs.length → nxN xs (xs.getD i (-1)) n k = nxA xs i → W_X5_nextAsk (d + 1) (h.length + 0) 0 (fun v h' => v = some (.int (nI (nxA xs i))) ∧ h' = h) 4 [some (.ref P), some (.int (nI i)), some (.int (nI k))] [] h 0 := by
    intro n
    induction n with
    | zero =>
      intro k hn hk e
      have e1 : ¬ nI k < nI xs.length := nI_nlt (by omega) (by omega)
      rw [w_X5_nextAsk_4]
      simp only [w_X5_nextAsk_5, w_X5_nextAsk_6, w_X5_nextAsk_9, w_X5_nextAsk_12, w_X5_nextAsk_13, w_X5_nextAsk_14, w_X5_nextAsk_17, w_X5_nextAsk_18, w_X5_nextAsk_19, w_X5_nextAsk_22, w_X5_nextAsk_25, w_X5_nextAsk_26, w_X5_nextAsk_27, w_X5_nextAsk_30, w_X5_nextAsk_33, w_X5_nextAsk_35, pm_1i_c, pm_2i_c, pm_1l_c, pm_2l_c, pm_1a_c, pm_ia_c, pm_iia_c, pm_va_c, pm_cp_c, pm_k0_c, pm_k1_c, pm_k2_c, pm_k3_c, pm_s1_c, pm_s2_c, pm_s3_c, pm_s4_c, pm_ri_c, pm_ra_c, pm_rn_c, pm_rk_i, pm_rk_z, pm_rk_a, pm_vk_i, pm_vk_z, pm_vk_a, pm_cti, pm_ctr, pm_ldi_z, pm_ldi_s, pm_lda_z, pm_lda_s, pm_cat_n, pm_cat_i, pm_cat_r, pm_cat_l, pm_obj, pm_arr, pm_opt, pm_ird, pm_aln, List.getElem?_cons_zero, List.getElem?_cons_succ, List.set_cons_zero, List.set_cons_succ, List.length_cons, List.length_nil, List.length_set, true_and, and_true, Nat.add_zero, Nat.zero_add, Nat.le_refl, Nat.reduceAdd, Nat.reduceLT, Nat.reduceLeDiff, Nat.zero_le, not_false_eq_true, not_true_eq_false, false_implies, implies_true, true_implies, Nat.zero_lt_succ, Nat.lt_add_one, ro]
      refine PM_use (c_Row_size R d) ?_
      rintro v h1 l1 ⟨rfl, rfl⟩
      show W_X5_nextAsk _ _ _ _ _ _ _ _ _
      simp only [w_X5_nextAsk_9, w_X5_nextAsk_12, w_X5_nextAsk_13, w_X5_nextAsk_14, w_X5_nextAsk_17, w_X5_nextAsk_18, w_X5_nextAsk_19, w_X5_nextAsk_22, w_X5_nextAsk_25, w_X5_nextAsk_26, w_X5_nextAsk_27, w_X5_nextAsk_30, w_X5_nextAsk_33, w_X5_nextAsk_35, pm_1i_c, pm_2i_c, pm_1l_c, pm_2l_c, pm_1a_c, pm_ia_c, pm_iia_c, pm_va_c, pm_cp_c, pm_k0_c, pm_k1_c, pm_k2_c, pm_k3_c, pm_s1_c, pm_s2_c, pm_s3_c, pm_s4_c, pm_ri_c, pm_ra_c, pm_rn_c, pm_rk_i, pm_rk_z, pm_rk_a, pm_vk_i, pm_vk_z, pm_vk_a, pm_cti, pm_ctr, pm_ldi_z, pm_ldi_s, pm_lda_z, pm_lda_s, pm_cat_n, pm_cat_i, pm_cat_r, pm_cat_l, pm_obj, pm_arr, pm_opt, pm_ird, pm_aln, List.getElem?_cons_zero, List.getElem?_cons_succ, List.set_cons_zero, List.set_cons_succ, List.length_cons, List.length_nil, List.length_set, true_and, and_true, Nat.add_zero, Nat.zero_add, Nat.le_refl, Nat.reduceAdd, Nat.reduceLT, Nat.reduceLeDiff, Nat.zero_le, not_false_eq_true, not_true_eq_false, false_implies, implies_true, true_implies, Nat.zero_lt_succ, Nat.lt_add_one, pm_tl_n, pm_tl_s, sc_uL, e1]
      rw [← e]
      rfl
    | succ n ih =>
      intro k hn hk e
      have e1 : nI k < nI xs.length := nI_lt (by omega) (by omega)
      rw [w_X5_nextAsk_4]
      simp only [w_X5_nextAsk_5, w_X5_nextAsk_6, w_X5_nextAsk_9, w_X5_nextAsk_12, w_X5_nextAsk_13, w_X5_nextAsk_14, w_X5_nextAsk_17, w_X5_nextAsk_18, w_X5_nextAsk_19, w_X5_nextAsk_22, w_X5_nextAsk_25, w_X5_nextAsk_26, w_X5_nextAsk_27, w_X5_nextAsk_30, w_X5_nextAsk_33, w_X5_nextAsk_35, pm_1i_c, pm_2i_c, pm_1l_c, pm_2l_c, pm_1a_c, pm_ia_c, pm_iia_c, pm_va_c, pm_cp_c, pm_k0_c, pm_k1_c, pm_k2_c, pm_k3_c, pm_s1_c, pm_s2_c, pm_s3_c, pm_s4_c, pm_ri_c, pm_ra_c, pm_rn_c, pm_rk_i, pm_rk_z, pm_rk_a, pm_vk_i, pm_vk_z, pm_vk_a, pm_cti, pm_ctr, pm_ldi_z, pm_ldi_s, pm_lda_z, pm_lda_s, pm_cat_n, pm_cat_i, pm_cat_r, pm_cat_l, pm_obj, pm_arr, pm_opt, pm_ird, pm_aln, List.getElem?_cons_zero, List.getElem?_cons_succ, List.set_cons_zero, List.set_cons_succ, List.length_cons, List.length_nil, List.length_set, true_and, and_true, Nat.add_zero, Nat.zero_add, Nat.le_refl, Nat.reduceAdd, Nat.reduceLT, Nat.reduceLeDiff, Nat.zero_le, not_false_eq_true, not_true_eq_false, false_implies, implies_true, true_implies, Nat.zero_lt_succ, Nat.lt_add_one, ro]
      refine PM_use (c_Row_size R d) ?_
      rintro v h1 l1 ⟨rfl, rfl⟩
      show W_X5_nextAsk _ _ _ _ _ _ _ _ _
      simp only [w_X5_nextAsk_9, w_X5_nextAsk_12, w_X5_nextAsk_13, w_X5_nextAsk_14, w_X5_nextAsk_17, w_X5_nextAsk_18, w_X5_nextAsk_19, w_X5_nextAsk_22, w_X5_nextAsk_25, w_X5_nextAsk_26, w_X5_nextAsk_27, w_X5_nextAsk_30, w_X5_nextAsk_33, w_X5_nextAsk_35, pm_1i_c, pm_2i_c, pm_1l_c, pm_2l_c, pm_1a_c, pm_ia_c, pm_iia_c, pm_va_c, pm_cp_c, pm_k0_c, pm_k1_c, pm_k2_c, pm_k3_c, pm_s1_c, pm_s2_c, pm_s3_c, pm_s4_c, pm_ri_c, pm_ra_c, pm_rn_c, pm_rk_i, pm_rk_z, pm_rk_a, pm_vk_i, pm_vk_z, pm_vk_a, pm_cti, pm_ctr, pm_ldi_z, pm_ldi_s, pm_lda_z, pm_lda_s, pm_cat_n, pm_cat_i, pm_cat_r, pm_cat_l, pm_obj, pm_arr, pm_opt, pm_ird, pm_aln, List.getElem?_cons_zero, List.getElem?_cons_succ, List.set_cons_zero, List.set_cons_succ, List.length_cons, List.length_nil, List.length_set, true_and, and_true, Nat.add_zero, Nat.zero_add, Nat.le_refl, Nat.reduceAdd, Nat.reduceLT, Nat.reduceLeDiff, Nat.zero_le, not_false_eq_true, not_true_eq_false, false_implies, implies_true, true_implies, Nat.zero_lt_succ, Nat.lt_add_one, pm_tl_n, pm_tl_s, sc_uL, e1, ro]
      refine PM_use (c_Row_get R (nI k) d) ?_
      rintro v h1 l1 ⟨rfl, rfl⟩
      rw [rw_getN (by omega)]
      show W_X5_nextAsk _ _ _ _ _ _ _ _ _
      simp only [w_X5_nextAsk_17, w_X5_nextAsk_18, w_X5_nextAsk_19, w_X5_nextAsk_22, w_X5_nextAsk_25, w_X5_nextAsk_26, w_X5_nextAsk_27, w_X5_nextAsk_30, w_X5_nextAsk_33, w_X5_nextAsk_35, pm_1i_c, pm_2i_c, pm_1l_c, pm_2l_c, pm_1a_c, pm_ia_c, pm_iia_c, pm_va_c, pm_cp_c, pm_k0_c, pm_k1_c, pm_k2_c, pm_k3_c, pm_s1_c, pm_s2_c, pm_s3_c, pm_s4_c, pm_ri_c, pm_ra_c, pm_rn_c, pm_rk_i, pm_rk_z, pm_rk_a, pm_vk_i, pm_vk_z, pm_vk_a, pm_cti, pm_ctr, pm_ldi_z, pm_ldi_s, pm_lda_z, pm_lda_s, pm_cat_n, pm_cat_i, pm_cat_r, pm_cat_l, pm_obj, pm_arr, pm_opt, pm_ird, pm_aln, List.getElem?_cons_zero, List.getElem?_cons_succ, List.set_cons_zero, List.set_cons_succ, List.length_cons, List.length_nil, List.length_set, true_and, and_true, Nat.add_zero, Nat.zero_add, Nat.le_refl, Nat.reduceAdd, Nat.reduceLT, Nat.reduceLeDiff, Nat.zero_le, not_false_eq_true, not_true_eq_false, false_implies, implies_true, true_implies, Nat.zero_lt_succ, Nat.lt_add_one, pm_tl_n, pm_tl_s, sc_uL, ro]
      refine PM_use (c_Row_get R (nI i) d) ?_
      rintro v h1 l1 ⟨rfl, rfl⟩
      rw [rw_getN (by omega)]
      show W_X5_nextAsk _ _ _ _ _ _ _ _ _
      simp only [w_X5_nextAsk_22, w_X5_nextAsk_25, w_X5_nextAsk_26, w_X5_nextAsk_27, w_X5_nextAsk_30, w_X5_nextAsk_33, w_X5_nextAsk_35, pm_1i_c, pm_2i_c, pm_1l_c, pm_2l_c, pm_1a_c, pm_ia_c, pm_iia_c, pm_va_c, pm_cp_c, pm_k0_c, pm_k1_c, pm_k2_c, pm_k3_c, pm_s1_c, pm_s2_c, pm_s3_c, pm_s4_c, pm_ri_c, pm_ra_c, pm_rn_c, pm_rk_i, pm_rk_z, pm_rk_a, pm_vk_i, pm_vk_z, pm_vk_a, pm_cti, pm_ctr, pm_ldi_z, pm_ldi_s, pm_lda_z, pm_lda_s, pm_cat_n, pm_cat_i, pm_cat_r, pm_cat_l, pm_obj, pm_arr, pm_opt, pm_ird, pm_aln, List.getElem?_cons_zero, List.getElem?_cons_succ, List.set_cons_zero, List.set_cons_succ, List.length_cons, List.length_nil, List.length_set, true_and, and_true, Nat.add_zero, Nat.zero_add, Nat.le_refl, Nat.reduceAdd, Nat.reduceLT, Nat.reduceLeDiff, Nat.zero_le, not_false_eq_true, not_true_eq_false, false_implies, implies_true, true_implies, Nat.zero_lt_succ, Nat.lt_add_one, pm_tl_n, pm_tl_s, sc_uL, ro, nI_1]
      unfold nxN at e
      refine ⟨fun c => ?_, fun c => ?_⟩
      · rw [if_neg c] at e
        exact ih (k + 1) (by omega) (by omega) e
      · rw [if_pos c] at e
        rw [← e]
  simp only [w_X5_nextAsk_0, w_X5_nextAsk_1, w_X5_nextAsk_2, w_X5_nextAsk_3, pm_1i_c, pm_2i_c, pm_1l_c, pm_2l_c, pm_1a_c, pm_ia_c, pm_iia_c, pm_va_c, pm_cp_c, pm_k0_c, pm_k1_c, pm_k2_c, pm_k3_c, pm_s1_c, pm_s2_c, pm_s3_c, pm_s4_c, pm_ri_c, pm_ra_c, pm_rn_c, pm_rk_i, pm_rk_z, pm_rk_a, pm_vk_i, pm_vk_z, pm_vk_a, pm_cti, pm_ctr, pm_ldi_z, pm_ldi_s, pm_lda_z, pm_lda_s, pm_cat_n, pm_cat_i, pm_cat_r, pm_cat_l, pm_obj, pm_arr, pm_opt, pm_ird, pm_aln, List.getElem?_cons_zero, List.getElem?_cons_succ, List.set_cons_zero, List.set_cons_succ, List.length_cons, List.length_nil, List.length_set, true_and, and_true, Nat.add_zero, Nat.zero_add, Nat.le_refl, Nat.reduceAdd, Nat.reduceLT, Nat.reduceLeDiff, Nat.zero_le, not_false_eq_true, not_true_eq_false, false_implies, implies_true, true_implies, Nat.zero_lt_succ, Nat.lt_add_one, nI_1]
  exact loop (xs.length - (i + 1)) (i + 1) rfl (by omega) rfl
theorem c_Lb_timesOf (R : rw_ h P 100 xs) {a : Nat} (y : Int32) (d : Nat) : PM (d + 2) 46 [.ref a, .ref P, .int y] h (fun v h' => v = some (.int (nI (xs.count y))) ∧ h' = h) := by
  have ro := R.o
  have len := R.le
  refine en_X5_timesOf rfl rfl rfl ?_
  have loop : ∀ n k, xs.length - k = n → k ≤ xs.length → W_X5_timesOf (d + 1) (h.length + 0) 0 (fun v h' => v = some (.int (nI (xs.count y))) ∧ h' = h) 5 [some (.ref a), some (.ref P), some (.int y), some (.int (nI ((xs.take k).count y))), some (.int (nI k))] [] h 0 := by
    intro n
    induction n with
    | zero =>
      intro k hn hk
      have e1 : ¬ nI k < nI xs.length := nI_nlt (by omega) (by omega)
      rw [w_X5_timesOf_5]
      simp only [w_X5_timesOf_7, w_X5_timesOf_8, w_X5_timesOf_11, w_X5_timesOf_14, w_X5_timesOf_15, w_X5_timesOf_16, w_X5_timesOf_18, w_X5_timesOf_21, w_X5_timesOf_22, w_X5_timesOf_25, w_X5_timesOf_26, w_X5_timesOf_29, w_X5_timesOf_30, w_X5_timesOf_31, w_X5_timesOf_32, w_X5_timesOf_35, w_X5_timesOf_38, w_X5_timesOf_39, pm_1i_c, pm_2i_c, pm_1l_c, pm_2l_c, pm_1a_c, pm_ia_c, pm_iia_c, pm_va_c, pm_cp_c, pm_k0_c, pm_k1_c, pm_k2_c, pm_k3_c, pm_s1_c, pm_s2_c, pm_s3_c, pm_s4_c, pm_ri_c, pm_ra_c, pm_rn_c, pm_rk_i, pm_rk_z, pm_rk_a, pm_vk_i, pm_vk_z, pm_vk_a, pm_cti, pm_ctr, pm_ldi_z, pm_ldi_s, pm_lda_z, pm_lda_s, pm_cat_n, pm_cat_i, pm_cat_r, pm_cat_l, pm_obj, pm_arr, pm_opt, pm_ird, pm_aln, List.getElem?_cons_zero, List.getElem?_cons_succ, List.set_cons_zero, List.set_cons_succ, List.length_cons, List.length_nil, List.length_set, true_and, and_true, Nat.add_zero, Nat.zero_add, Nat.le_refl, Nat.reduceAdd, Nat.reduceLT, Nat.reduceLeDiff, Nat.zero_le, not_false_eq_true, not_true_eq_false, false_implies, implies_true, true_implies, Nat.zero_lt_succ, Nat.lt_add_one, ro]
      refine PM_use (c_Row_size R d) ?_
      rintro v h1 l1 ⟨rfl, rfl⟩
      show W_X5_timesOf _ _ _ _ _ _ _ _ _
      simp only [w_X5_timesOf_11, w_X5_timesOf_14, w_X5_timesOf_15, w_X5_timesOf_16, w_X5_timesOf_18, w_X5_timesOf_21, w_X5_timesOf_22, w_X5_timesOf_25, w_X5_timesOf_26, w_X5_timesOf_29, w_X5_timesOf_30, w_X5_timesOf_31, w_X5_timesOf_32, w_X5_timesOf_35, w_X5_timesOf_38, w_X5_timesOf_39, pm_1i_c, pm_2i_c, pm_1l_c, pm_2l_c, pm_1a_c, pm_ia_c, pm_iia_c, pm_va_c, pm_cp_c, pm_k0_c, pm_k1_c, pm_k2_c, pm_k3_c, pm_s1_c, pm_s2_c, pm_s3_c, pm_s4_c, pm_ri_c, pm_ra_c, pm_rn_c, pm_rk_i, pm_rk_z, pm_rk_a, pm_vk_i, pm_vk_z, pm_vk_a, pm_cti, pm_ctr, pm_ldi_z, pm_ldi_s, pm_lda_z, pm_lda_s, pm_cat_n, pm_cat_i, pm_cat_r, pm_cat_l, pm_obj, pm_arr, pm_opt, pm_ird, pm_aln, List.getElem?_cons_zero, List.getElem?_cons_succ, List.set_cons_zero, List.set_cons_succ, List.length_cons, List.length_nil, List.length_set, true_and, and_true, Nat.add_zero, Nat.zero_add, Nat.le_refl, Nat.reduceAdd, Nat.reduceLT, Nat.reduceLeDiff, Nat.zero_le, not_false_eq_true, not_true_eq_false, false_implies, implies_true, true_implies, Nat.zero_lt_succ, Nat.lt_add_one, pm_tl_n, pm_tl_s, sc_uL, e1]
      rw [List.take_of_length_le (by omega)]
    | succ n ih =>
      intro k hn hk
      have e1 : nI k < nI xs.length := nI_lt (by omega) (by omega)
      have K := ih (k + 1) (by omega) (by omega)
      rw [ct_take (by omega)] at K
      rw [w_X5_timesOf_5]
      simp only [w_X5_timesOf_7, w_X5_timesOf_8, w_X5_timesOf_11, w_X5_timesOf_14, w_X5_timesOf_15, w_X5_timesOf_16, w_X5_timesOf_18, w_X5_timesOf_21, w_X5_timesOf_22, w_X5_timesOf_25, w_X5_timesOf_26, w_X5_timesOf_29, w_X5_timesOf_30, w_X5_timesOf_31, w_X5_timesOf_32, w_X5_timesOf_35, w_X5_timesOf_38, w_X5_timesOf_39, pm_1i_c, pm_2i_c, pm_1l_c, pm_2l_c, pm_1a_c, pm_ia_c, pm_iia_c, pm_va_c, pm_cp_c, pm_k0_c, pm_k1_c, pm_k2_c, pm_k3_c, pm_s1_c, pm_s2_c, pm_s3_c, pm_s4_c, pm_ri_c, pm_ra_c, pm_rn_c, pm_rk_i, pm_rk_z, pm_rk_a, pm_vk_i, pm_vk_z, pm_vk_a, pm_cti, pm_ctr, pm_ldi_z, pm_ldi_s, pm_lda_z, pm_lda_s, pm_cat_n, pm_cat_i, pm_cat_r, pm_cat_l, pm_obj, pm_arr, pm_opt, pm_ird, pm_aln, List.getElem?_cons_zero, List.getElem?_cons_succ, List.set_cons_zero, List.set_cons_succ, List.length_cons, List.length_nil, List.length_set, true_and, and_true, Nat.add_zero, Nat.zero_add, Nat.le_refl, Nat.reduceAdd, Nat.reduceLT, Nat.reduceLeDiff, Nat.zero_le, not_false_eq_true, not_true_eq_false, false_implies, implies_true, true_implies, Nat.zero_lt_succ, Nat.lt_add_one, ro]
      refine PM_use (c_Row_size R d) ?_
      rintro v h1 l1 ⟨rfl, rfl⟩
      show W_X5_timesOf _ _ _ _ _ _ _ _ _
      simp only [w_X5_timesOf_11, w_X5_timesOf_14, w_X5_timesOf_15, w_X5_timesOf_16, w_X5_timesOf_18, w_X5_timesOf_21, w_X5_timesOf_22, w_X5_timesOf_25, w_X5_timesOf_26, w_X5_timesOf_29, w_X5_timesOf_30, w_X5_timesOf_31, w_X5_timesOf_32, w_X5_timesOf_35, w_X5_timesOf_38, w_X5_timesOf_39, pm_1i_c, pm_2i_c, pm_1l_c, pm_2l_c, pm_1a_c, pm_ia_c, pm_iia_c, pm_va_c, pm_cp_c, pm_k0_c, pm_k1_c, pm_k2_c, pm_k3_c, pm_s1_c, pm_s2_c, pm_s3_c, pm_s4_c, pm_ri_c, pm_ra_c, pm_rn_c, pm_rk_i, pm_rk_z, pm_rk_a, pm_vk_i, pm_vk_z, pm_vk_a, pm_cti, pm_ctr, pm_ldi_z, pm_ldi_s, pm_lda_z, pm_lda_s, pm_cat_n, pm_cat_i, pm_cat_r, pm_cat_l, pm_obj, pm_arr, pm_opt, pm_ird, pm_aln, List.getElem?_cons_zero, List.getElem?_cons_succ, List.set_cons_zero, List.set_cons_succ, List.length_cons, List.length_nil, List.length_set, true_and, and_true, Nat.add_zero, Nat.zero_add, Nat.le_refl, Nat.reduceAdd, Nat.reduceLT, Nat.reduceLeDiff, Nat.zero_le, not_false_eq_true, not_true_eq_false, false_implies, implies_true, true_implies, Nat.zero_lt_succ, Nat.lt_add_one, pm_tl_n, pm_tl_s, sc_uL, e1, ro]
      refine PM_use (c_Row_get R (nI k) d) ?_
      rintro v h1 l1 ⟨rfl, rfl⟩
      rw [rw_getN (by omega)]
      show W_X5_timesOf _ _ _ _ _ _ _ _ _
      simp only [w_X5_timesOf_21, w_X5_timesOf_22, w_X5_timesOf_25, w_X5_timesOf_26, w_X5_timesOf_29, w_X5_timesOf_30, w_X5_timesOf_31, w_X5_timesOf_32, w_X5_timesOf_35, w_X5_timesOf_38, w_X5_timesOf_39, pm_1i_c, pm_2i_c, pm_1l_c, pm_2l_c, pm_1a_c, pm_ia_c, pm_iia_c, pm_va_c, pm_cp_c, pm_k0_c, pm_k1_c, pm_k2_c, pm_k3_c, pm_s1_c, pm_s2_c, pm_s3_c, pm_s4_c, pm_ri_c, pm_ra_c, pm_rn_c, pm_rk_i, pm_rk_z, pm_rk_a, pm_vk_i, pm_vk_z, pm_vk_a, pm_cti, pm_ctr, pm_ldi_z, pm_ldi_s, pm_lda_z, pm_lda_s, pm_cat_n, pm_cat_i, pm_cat_r, pm_cat_l, pm_obj, pm_arr, pm_opt, pm_ird, pm_aln, List.getElem?_cons_zero, List.getElem?_cons_succ, List.set_cons_zero, List.set_cons_succ, List.length_cons, List.length_nil, List.length_set, true_and, and_true, Nat.add_zero, Nat.zero_add, Nat.le_refl, Nat.reduceAdd, Nat.reduceLT, Nat.reduceLeDiff, Nat.zero_le, not_false_eq_true, not_true_eq_false, false_implies, implies_true, true_implies, Nat.zero_lt_succ, Nat.lt_add_one, pm_tl_n, pm_tl_s, sc_uL, ro, nI_1]
      refine ⟨fun c => ?_, fun c => ?_⟩
      · rw [if_neg c] at K
        rw [Int32.add_zero]
        exact K
      · rw [if_pos c] at K
        exact K
  simp only [w_X5_timesOf_0, w_X5_timesOf_1, w_X5_timesOf_2, w_X5_timesOf_3, pm_1i_c, pm_2i_c, pm_1l_c, pm_2l_c, pm_1a_c, pm_ia_c, pm_iia_c, pm_va_c, pm_cp_c, pm_k0_c, pm_k1_c, pm_k2_c, pm_k3_c, pm_s1_c, pm_s2_c, pm_s3_c, pm_s4_c, pm_ri_c, pm_ra_c, pm_rn_c, pm_rk_i, pm_rk_z, pm_rk_a, pm_vk_i, pm_vk_z, pm_vk_a, pm_cti, pm_ctr, pm_ldi_z, pm_ldi_s, pm_lda_z, pm_lda_s, pm_cat_n, pm_cat_i, pm_cat_r, pm_cat_l, pm_obj, pm_arr, pm_opt, pm_ird, pm_aln, List.getElem?_cons_zero, List.getElem?_cons_succ, List.set_cons_zero, List.set_cons_succ, List.length_cons, List.length_nil, List.length_set, true_and, and_true, Nat.add_zero, Nat.zero_add, Nat.le_refl, Nat.reduceAdd, Nat.reduceLT, Nat.reduceLeDiff, Nat.zero_le, not_false_eq_true, not_true_eq_false, false_implies, implies_true, true_implies, Nat.zero_lt_succ, Nat.lt_add_one]
  exact loop xs.length 0 rfl (by omega)
theorem c_Lb_unlikeKeys (R : rw_ h P 100 xs) {a : Nat} (d : Nat) : PM (d + 3) 48 [.ref a, .ref P] h (fun v h' => v = some (.int (nI (unS xs xs.length))) ∧ h' = h) := by
  have ro := R.o
  have len := R.le
  refine en_X5_unlikeKeys rfl rfl ?_
  have loop : ∀ n k, xs.length - k = n → k ≤ xs.length → W_X5_unlikeKeys (d + 2) (h.length + 0) 0 (fun v h' => v = some (.int (nI (unS xs xs.length))) ∧ h' = h) 4 [some (.ref a), some (.ref P), some (.int (nI (unS xs k))), some (.int (nI k))] [] h 0 := by
    intro n
    induction n with
    | zero =>
      intro k hn hk
      have e1 : ¬ nI k < nI xs.length := nI_nlt (by omega) (by omega)
      rw [w_X5_unlikeKeys_4]
      simp only [w_X5_unlikeKeys_5, w_X5_unlikeKeys_6, w_X5_unlikeKeys_9, w_X5_unlikeKeys_12, w_X5_unlikeKeys_13, w_X5_unlikeKeys_14, w_X5_unlikeKeys_15, w_X5_unlikeKeys_18, w_X5_unlikeKeys_19, w_X5_unlikeKeys_22, w_X5_unlikeKeys_23, w_X5_unlikeKeys_26, w_X5_unlikeKeys_27, w_X5_unlikeKeys_28, w_X5_unlikeKeys_29, w_X5_unlikeKeys_32, w_X5_unlikeKeys_35, w_X5_unlikeKeys_36, pm_1i_c, pm_2i_c, pm_1l_c, pm_2l_c, pm_1a_c, pm_ia_c, pm_iia_c, pm_va_c, pm_cp_c, pm_k0_c, pm_k1_c, pm_k2_c, pm_k3_c, pm_s1_c, pm_s2_c, pm_s3_c, pm_s4_c, pm_ri_c, pm_ra_c, pm_rn_c, pm_rk_i, pm_rk_z, pm_rk_a, pm_vk_i, pm_vk_z, pm_vk_a, pm_cti, pm_ctr, pm_ldi_z, pm_ldi_s, pm_lda_z, pm_lda_s, pm_cat_n, pm_cat_i, pm_cat_r, pm_cat_l, pm_obj, pm_arr, pm_opt, pm_ird, pm_aln, List.getElem?_cons_zero, List.getElem?_cons_succ, List.set_cons_zero, List.set_cons_succ, List.length_cons, List.length_nil, List.length_set, true_and, and_true, Nat.add_zero, Nat.zero_add, Nat.le_refl, Nat.reduceAdd, Nat.reduceLT, Nat.reduceLeDiff, Nat.zero_le, not_false_eq_true, not_true_eq_false, false_implies, implies_true, true_implies, Nat.zero_lt_succ, Nat.lt_add_one, ro]
      refine PM_use (c_Row_size R (d + 1)) ?_
      rintro v h1 l1 ⟨rfl, rfl⟩
      show W_X5_unlikeKeys _ _ _ _ _ _ _ _ _
      simp only [w_X5_unlikeKeys_9, w_X5_unlikeKeys_12, w_X5_unlikeKeys_13, w_X5_unlikeKeys_14, w_X5_unlikeKeys_15, w_X5_unlikeKeys_18, w_X5_unlikeKeys_19, w_X5_unlikeKeys_22, w_X5_unlikeKeys_23, w_X5_unlikeKeys_26, w_X5_unlikeKeys_27, w_X5_unlikeKeys_28, w_X5_unlikeKeys_29, w_X5_unlikeKeys_32, w_X5_unlikeKeys_35, w_X5_unlikeKeys_36, pm_1i_c, pm_2i_c, pm_1l_c, pm_2l_c, pm_1a_c, pm_ia_c, pm_iia_c, pm_va_c, pm_cp_c, pm_k0_c, pm_k1_c, pm_k2_c, pm_k3_c, pm_s1_c, pm_s2_c, pm_s3_c, pm_s4_c, pm_ri_c, pm_ra_c, pm_rn_c, pm_rk_i, pm_rk_z, pm_rk_a, pm_vk_i, pm_vk_z, pm_vk_a, pm_cti, pm_ctr, pm_ldi_z, pm_ldi_s, pm_lda_z, pm_lda_s, pm_cat_n, pm_cat_i, pm_cat_r, pm_cat_l, pm_obj, pm_arr, pm_opt, pm_ird, pm_aln, List.getElem?_cons_zero, List.getElem?_cons_succ, List.set_cons_zero, List.set_cons_succ, List.length_cons, List.length_nil, List.length_set, true_and, and_true, Nat.add_zero, Nat.zero_add, Nat.le_refl, Nat.reduceAdd, Nat.reduceLT, Nat.reduceLeDiff, Nat.zero_le, not_false_eq_true, not_true_eq_false, false_implies, implies_true, true_implies, Nat.zero_lt_succ, Nat.lt_add_one, pm_tl_n, pm_tl_s, sc_uL, e1]
      rw [show k = xs.length by omega]
    | succ n ih =>
      intro k hn hk
      have e1 : nI k < nI xs.length := nI_lt (by omega) (by omega)
      have K := ih (k + 1) (by omega) (by omega)
      have ag := agM_le xs (xs.getD k (-1)) k
      rw [w_X5_unlikeKeys_4]
      simp only [w_X5_unlikeKeys_5, w_X5_unlikeKeys_6, w_X5_unlikeKeys_9, w_X5_unlikeKeys_12, w_X5_unlikeKeys_13, w_X5_unlikeKeys_14, w_X5_unlikeKeys_15, w_X5_unlikeKeys_18, w_X5_unlikeKeys_19, w_X5_unlikeKeys_22, w_X5_unlikeKeys_23, w_X5_unlikeKeys_26, w_X5_unlikeKeys_27, w_X5_unlikeKeys_28, w_X5_unlikeKeys_29, w_X5_unlikeKeys_32, w_X5_unlikeKeys_35, w_X5_unlikeKeys_36, pm_1i_c, pm_2i_c, pm_1l_c, pm_2l_c, pm_1a_c, pm_ia_c, pm_iia_c, pm_va_c, pm_cp_c, pm_k0_c, pm_k1_c, pm_k2_c, pm_k3_c, pm_s1_c, pm_s2_c, pm_s3_c, pm_s4_c, pm_ri_c, pm_ra_c, pm_rn_c, pm_rk_i, pm_rk_z, pm_rk_a, pm_vk_i, pm_vk_z, pm_vk_a, pm_cti, pm_ctr, pm_ldi_z, pm_ldi_s, pm_lda_z, pm_lda_s, pm_cat_n, pm_cat_i, pm_cat_r, pm_cat_l, pm_obj, pm_arr, pm_opt, pm_ird, pm_aln, List.getElem?_cons_zero, List.getElem?_cons_succ, List.set_cons_zero, List.set_cons_succ, List.length_cons, List.length_nil, List.length_set, true_and, and_true, Nat.add_zero, Nat.zero_add, Nat.le_refl, Nat.reduceAdd, Nat.reduceLT, Nat.reduceLeDiff, Nat.zero_le, not_false_eq_true, not_true_eq_false, false_implies, implies_true, true_implies, Nat.zero_lt_succ, Nat.lt_add_one, ro]
      refine PM_use (c_Row_size R (d + 1)) ?_
      rintro v h1 l1 ⟨rfl, rfl⟩
      show W_X5_unlikeKeys _ _ _ _ _ _ _ _ _
      simp only [w_X5_unlikeKeys_9, w_X5_unlikeKeys_12, w_X5_unlikeKeys_13, w_X5_unlikeKeys_14, w_X5_unlikeKeys_15, w_X5_unlikeKeys_18, w_X5_unlikeKeys_19, w_X5_unlikeKeys_22, w_X5_unlikeKeys_23, w_X5_unlikeKeys_26, w_X5_unlikeKeys_27, w_X5_unlikeKeys_28, w_X5_unlikeKeys_29, w_X5_unlikeKeys_32, w_X5_unlikeKeys_35, w_X5_unlikeKeys_36, pm_1i_c, pm_2i_c, pm_1l_c, pm_2l_c, pm_1a_c, pm_ia_c, pm_iia_c, pm_va_c, pm_cp_c, pm_k0_c, pm_k1_c, pm_k2_c, pm_k3_c, pm_s1_c, pm_s2_c, pm_s3_c, pm_s4_c, pm_ri_c, pm_ra_c, pm_rn_c, pm_rk_i, pm_rk_z, pm_rk_a, pm_vk_i, pm_vk_z, pm_vk_a, pm_cti, pm_ctr, pm_ldi_z, pm_ldi_s, pm_lda_z, pm_lda_s, pm_cat_n, pm_cat_i, pm_cat_r, pm_cat_l, pm_obj, pm_arr, pm_opt, pm_ird, pm_aln, List.getElem?_cons_zero, List.getElem?_cons_succ, List.set_cons_zero, List.set_cons_succ, List.length_cons, List.length_nil, List.length_set, true_and, and_true, Nat.add_zero, Nat.zero_add, Nat.le_refl, Nat.reduceAdd, Nat.reduceLT, Nat.reduceLeDiff, Nat.zero_le, not_false_eq_true, not_true_eq_false, false_implies, implies_true, true_implies, Nat.zero_lt_succ, Nat.lt_add_one, pm_tl_n, pm_tl_s, sc_uL, e1, ro]
      refine PM_use (c_Lb_askAhead R (by omega) d) ?_
      rintro v h1 l1 ⟨rfl, rfl⟩
      show W_X5_unlikeKeys _ _ _ _ _ _ _ _ _
      simp only [w_X5_unlikeKeys_18, w_X5_unlikeKeys_19, w_X5_unlikeKeys_22, w_X5_unlikeKeys_23, w_X5_unlikeKeys_26, w_X5_unlikeKeys_27, w_X5_unlikeKeys_28, w_X5_unlikeKeys_29, w_X5_unlikeKeys_32, w_X5_unlikeKeys_35, w_X5_unlikeKeys_36, pm_1i_c, pm_2i_c, pm_1l_c, pm_2l_c, pm_1a_c, pm_ia_c, pm_iia_c, pm_va_c, pm_cp_c, pm_k0_c, pm_k1_c, pm_k2_c, pm_k3_c, pm_s1_c, pm_s2_c, pm_s3_c, pm_s4_c, pm_ri_c, pm_ra_c, pm_rn_c, pm_rk_i, pm_rk_z, pm_rk_a, pm_vk_i, pm_vk_z, pm_vk_a, pm_cti, pm_ctr, pm_ldi_z, pm_ldi_s, pm_lda_z, pm_lda_s, pm_cat_n, pm_cat_i, pm_cat_r, pm_cat_l, pm_obj, pm_arr, pm_opt, pm_ird, pm_aln, List.getElem?_cons_zero, List.getElem?_cons_succ, List.set_cons_zero, List.set_cons_succ, List.length_cons, List.length_nil, List.length_set, true_and, and_true, Nat.add_zero, Nat.zero_add, Nat.le_refl, Nat.reduceAdd, Nat.reduceLT, Nat.reduceLeDiff, Nat.zero_le, not_false_eq_true, not_true_eq_false, false_implies, implies_true, true_implies, Nat.zero_lt_succ, Nat.lt_add_one, pm_tl_n, pm_tl_s, sc_uL, nI_1, nIm1 (show agA xs k < 2 ^ 31 by unfold agA; omega)]
      rw [unS_s] at K
      refine ⟨fun c => ?_, fun c => ?_⟩
      · rw [if_neg c] at K
        rw [Int32.add_zero]
        exact K
      · rw [if_pos c] at K
        exact K
  simp only [w_X5_unlikeKeys_0, w_X5_unlikeKeys_1, w_X5_unlikeKeys_2, w_X5_unlikeKeys_3, pm_1i_c, pm_2i_c, pm_1l_c, pm_2l_c, pm_1a_c, pm_ia_c, pm_iia_c, pm_va_c, pm_cp_c, pm_k0_c, pm_k1_c, pm_k2_c, pm_k3_c, pm_s1_c, pm_s2_c, pm_s3_c, pm_s4_c, pm_ri_c, pm_ra_c, pm_rn_c, pm_rk_i, pm_rk_z, pm_rk_a, pm_vk_i, pm_vk_z, pm_vk_a, pm_cti, pm_ctr, pm_ldi_z, pm_ldi_s, pm_lda_z, pm_lda_s, pm_cat_n, pm_cat_i, pm_cat_r, pm_cat_l, pm_obj, pm_arr, pm_opt, pm_ird, pm_aln, List.getElem?_cons_zero, List.getElem?_cons_succ, List.set_cons_zero, List.set_cons_succ, List.length_cons, List.length_nil, List.length_set, true_and, and_true, Nat.add_zero, Nat.zero_add, Nat.le_refl, Nat.reduceAdd, Nat.reduceLT, Nat.reduceLeDiff, Nat.zero_le, not_false_eq_true, not_true_eq_false, false_implies, implies_true, true_implies, Nat.zero_lt_succ, Nat.lt_add_one]
  exact loop xs.length 0 rfl (by omega)
theorem lgS_le (xs : List Int32) : ∀ k, (lgS xs k).2 ≤ k ∧ (lgS xs k).1 ≤ k
  | 0 => ⟨Nat.le_refl 0, Nat.le_refl 0⟩
  | k + 1 => by
    have := lgS_le xs k
    have := agM_le xs (xs.getD k (-1)) k
    unfold lgS agA
    dsimp only
    omega
theorem nI_max {a b : Nat} (ha : a < 2 ^ 31) (hb : b < 2 ^ 31) : (if nI a < nI b then nI b else nI a) = nI (max a b) := by
  by_cases c : a < b
  · rw [if_pos (nI_lt c hb), Nat.max_eq_right (by omega)]
  · rw [if_neg (nI_nlt (by omega) ha), Nat.max_eq_left (by omega)]
theorem c_Lb_longestUnlike (R : rw_ h P 100 xs) {a : Nat} (d : Nat) : PM (d + 3) 49 [.ref a, .ref P] h (fun v h' => v = some (.int (nI (lgS xs xs.length).1)) ∧ h' = h) := by
  have ro := R.o
  have len := R.le
  refine en_X5_longestUnlike rfl rfl ?_
  have loop : ∀ n k, xs.length - k = n → k ≤ xs.length → W_X5_longestUnlike (d + 2) (h.length + 0) 0 (fun v h' => v = some (.int (nI (lgS xs xs.length).1)) ∧ h' = h) 7 [some (.ref a), some (.ref P), some (.int (nI (lgS xs k).1)), some (.int (nI (lgS xs k).2)), some (.int (nI k))] [] h 0 := by
    intro n
    induction n with
    | zero =>
      intro k hn hk
      have e1 : ¬ nI k < nI xs.length := nI_nlt (by omega) (by omega)
      rw [w_X5_longestUnlike_7]
      simp only [w_X5_longestUnlike_9, w_X5_longestUnlike_10, w_X5_longestUnlike_13, w_X5_longestUnlike_16, w_X5_longestUnlike_17, w_X5_longestUnlike_18, w_X5_longestUnlike_20, w_X5_longestUnlike_23, w_X5_longestUnlike_24, w_X5_longestUnlike_25, w_X5_longestUnlike_28, w_X5_longestUnlike_29, w_X5_longestUnlike_30, w_X5_longestUnlike_32, w_X5_longestUnlike_33, w_X5_longestUnlike_34, w_X5_longestUnlike_35, w_X5_longestUnlike_36, w_X5_longestUnlike_39, w_X5_longestUnlike_40, w_X5_longestUnlike_43, w_X5_longestUnlike_46, w_X5_longestUnlike_47, pm_1i_c, pm_2i_c, pm_1l_c, pm_2l_c, pm_1a_c, pm_ia_c, pm_iia_c, pm_va_c, pm_cp_c, pm_k0_c, pm_k1_c, pm_k2_c, pm_k3_c, pm_s1_c, pm_s2_c, pm_s3_c, pm_s4_c, pm_ri_c, pm_ra_c, pm_rn_c, pm_rk_i, pm_rk_z, pm_rk_a, pm_vk_i, pm_vk_z, pm_vk_a, pm_cti, pm_ctr, pm_ldi_z, pm_ldi_s, pm_lda_z, pm_lda_s, pm_cat_n, pm_cat_i, pm_cat_r, pm_cat_l, pm_obj, pm_arr, pm_opt, pm_ird, pm_aln, List.getElem?_cons_zero, List.getElem?_cons_succ, List.set_cons_zero, List.set_cons_succ, List.length_cons, List.length_nil, List.length_set, true_and, and_true, Nat.add_zero, Nat.zero_add, Nat.le_refl, Nat.reduceAdd, Nat.reduceLT, Nat.reduceLeDiff, Nat.zero_le, not_false_eq_true, not_true_eq_false, false_implies, implies_true, true_implies, Nat.zero_lt_succ, Nat.lt_add_one, ro]
      refine PM_use (c_Row_size R (d + 1)) ?_
      rintro v h1 l1 ⟨rfl, rfl⟩
      show W_X5_longestUnlike _ _ _ _ _ _ _ _ _
      simp only [w_X5_longestUnlike_13, w_X5_longestUnlike_16, w_X5_longestUnlike_17, w_X5_longestUnlike_18, w_X5_longestUnlike_20, w_X5_longestUnlike_23, w_X5_longestUnlike_24, w_X5_longestUnlike_25, w_X5_longestUnlike_28, w_X5_longestUnlike_29, w_X5_longestUnlike_30, w_X5_longestUnlike_32, w_X5_longestUnlike_33, w_X5_longestUnlike_34, w_X5_longestUnlike_35, w_X5_longestUnlike_36, w_X5_longestUnlike_39, w_X5_longestUnlike_40, w_X5_longestUnlike_43, w_X5_longestUnlike_46, w_X5_longestUnlike_47, pm_1i_c, pm_2i_c, pm_1l_c, pm_2l_c, pm_1a_c, pm_ia_c, pm_iia_c, pm_va_c, pm_cp_c, pm_k0_c, pm_k1_c, pm_k2_c, pm_k3_c, pm_s1_c, pm_s2_c, pm_s3_c, pm_s4_c, pm_ri_c, pm_ra_c, pm_rn_c, pm_rk_i, pm_rk_z, pm_rk_a, pm_vk_i, pm_vk_z, pm_vk_a, pm_cti, pm_ctr, pm_ldi_z, pm_ldi_s, pm_lda_z, pm_lda_s, pm_cat_n, pm_cat_i, pm_cat_r, pm_cat_l, pm_obj, pm_arr, pm_opt, pm_ird, pm_aln, List.getElem?_cons_zero, List.getElem?_cons_succ, List.set_cons_zero, List.set_cons_succ, List.length_cons, List.length_nil, List.length_set, true_and, and_true, Nat.add_zero, Nat.zero_add, Nat.le_refl, Nat.reduceAdd, Nat.reduceLT, Nat.reduceLeDiff, Nat.zero_le, not_false_eq_true, not_true_eq_false, false_implies, implies_true, true_implies, Nat.zero_lt_succ, Nat.lt_add_one, pm_tl_n, pm_tl_s, sc_uL, e1]
      rw [show k = xs.length by omega]
    | succ n ih =>
      intro k hn hk
      have e1 : nI k < nI xs.length := nI_lt (by omega) (by omega)
      have K := ih (k + 1) (by omega) (by omega)
      have ag : agA xs k ≤ k := agM_le xs (xs.getD k (-1)) k
      have lg := lgS_le xs k
      have z1 : nI (agA xs k) - 1 + 1 = nI (agA xs k) := Int32.sub_add_cancel _ _
      have z2 := nI_max (a := (lgS xs k).2) (b := agA xs k) (by omega) (by omega)
      have z3 : nI k - nI (max (lgS xs k).2 (agA xs k)) = nI (k - max (lgS xs k).2 (agA xs k)) := pk_sub (by omega)
      have z4 := nI_max (a := (lgS xs k).1) (b := k - max (lgS xs k).2 (agA xs k) + 1) (by omega) (by omega)
      rw [w_X5_longestUnlike_7]
      simp only [w_X5_longestUnlike_9, w_X5_longestUnlike_10, w_X5_longestUnlike_13, w_X5_longestUnlike_16, w_X5_longestUnlike_17, w_X5_longestUnlike_18, w_X5_longestUnlike_20, w_X5_longestUnlike_23, w_X5_longestUnlike_24, w_X5_longestUnlike_25, w_X5_longestUnlike_28, w_X5_longestUnlike_29, w_X5_longestUnlike_30, w_X5_longestUnlike_32, w_X5_longestUnlike_33, w_X5_longestUnlike_34, w_X5_longestUnlike_35, w_X5_longestUnlike_36, w_X5_longestUnlike_39, w_X5_longestUnlike_40, w_X5_longestUnlike_43, w_X5_longestUnlike_46, w_X5_longestUnlike_47, pm_1i_c, pm_2i_c, pm_1l_c, pm_2l_c, pm_1a_c, pm_ia_c, pm_iia_c, pm_va_c, pm_cp_c, pm_k0_c, pm_k1_c, pm_k2_c, pm_k3_c, pm_s1_c, pm_s2_c, pm_s3_c, pm_s4_c, pm_ri_c, pm_ra_c, pm_rn_c, pm_rk_i, pm_rk_z, pm_rk_a, pm_vk_i, pm_vk_z, pm_vk_a, pm_cti, pm_ctr, pm_ldi_z, pm_ldi_s, pm_lda_z, pm_lda_s, pm_cat_n, pm_cat_i, pm_cat_r, pm_cat_l, pm_obj, pm_arr, pm_opt, pm_ird, pm_aln, List.getElem?_cons_zero, List.getElem?_cons_succ, List.set_cons_zero, List.set_cons_succ, List.length_cons, List.length_nil, List.length_set, true_and, and_true, Nat.add_zero, Nat.zero_add, Nat.le_refl, Nat.reduceAdd, Nat.reduceLT, Nat.reduceLeDiff, Nat.zero_le, not_false_eq_true, not_true_eq_false, false_implies, implies_true, true_implies, Nat.zero_lt_succ, Nat.lt_add_one, ro]
      refine PM_use (c_Row_size R (d + 1)) ?_
      rintro v h1 l1 ⟨rfl, rfl⟩
      show W_X5_longestUnlike _ _ _ _ _ _ _ _ _
      simp only [w_X5_longestUnlike_13, w_X5_longestUnlike_16, w_X5_longestUnlike_17, w_X5_longestUnlike_18, w_X5_longestUnlike_20, w_X5_longestUnlike_23, w_X5_longestUnlike_24, w_X5_longestUnlike_25, w_X5_longestUnlike_28, w_X5_longestUnlike_29, w_X5_longestUnlike_30, w_X5_longestUnlike_32, w_X5_longestUnlike_33, w_X5_longestUnlike_34, w_X5_longestUnlike_35, w_X5_longestUnlike_36, w_X5_longestUnlike_39, w_X5_longestUnlike_40, w_X5_longestUnlike_43, w_X5_longestUnlike_46, w_X5_longestUnlike_47, pm_1i_c, pm_2i_c, pm_1l_c, pm_2l_c, pm_1a_c, pm_ia_c, pm_iia_c, pm_va_c, pm_cp_c, pm_k0_c, pm_k1_c, pm_k2_c, pm_k3_c, pm_s1_c, pm_s2_c, pm_s3_c, pm_s4_c, pm_ri_c, pm_ra_c, pm_rn_c, pm_rk_i, pm_rk_z, pm_rk_a, pm_vk_i, pm_vk_z, pm_vk_a, pm_cti, pm_ctr, pm_ldi_z, pm_ldi_s, pm_lda_z, pm_lda_s, pm_cat_n, pm_cat_i, pm_cat_r, pm_cat_l, pm_obj, pm_arr, pm_opt, pm_ird, pm_aln, List.getElem?_cons_zero, List.getElem?_cons_succ, List.set_cons_zero, List.set_cons_succ, List.length_cons, List.length_nil, List.length_set, true_and, and_true, Nat.add_zero, Nat.zero_add, Nat.le_refl, Nat.reduceAdd, Nat.reduceLT, Nat.reduceLeDiff, Nat.zero_le, not_false_eq_true, not_true_eq_false, false_implies, implies_true, true_implies, Nat.zero_lt_succ, Nat.lt_add_one, pm_tl_n, pm_tl_s, sc_uL, e1, ro]
      refine PM_use (c_Lb_askAhead R (by omega) d) ?_
      rintro v h1 l1 ⟨rfl, rfl⟩
      show W_X5_longestUnlike _ _ _ _ _ _ _ _ _
      simp only [w_X5_longestUnlike_23, w_X5_longestUnlike_24, w_X5_longestUnlike_25, w_X5_longestUnlike_28, w_X5_longestUnlike_29, w_X5_longestUnlike_30, w_X5_longestUnlike_32, w_X5_longestUnlike_33, w_X5_longestUnlike_34, w_X5_longestUnlike_35, w_X5_longestUnlike_36, w_X5_longestUnlike_39, w_X5_longestUnlike_40, w_X5_longestUnlike_43, w_X5_longestUnlike_46, w_X5_longestUnlike_47, pm_1i_c, pm_2i_c, pm_1l_c, pm_2l_c, pm_1a_c, pm_ia_c, pm_iia_c, pm_va_c, pm_cp_c, pm_k0_c, pm_k1_c, pm_k2_c, pm_k3_c, pm_s1_c, pm_s2_c, pm_s3_c, pm_s4_c, pm_ri_c, pm_ra_c, pm_rn_c, pm_rk_i, pm_rk_z, pm_rk_a, pm_vk_i, pm_vk_z, pm_vk_a, pm_cti, pm_ctr, pm_ldi_z, pm_ldi_s, pm_lda_z, pm_lda_s, pm_cat_n, pm_cat_i, pm_cat_r, pm_cat_l, pm_obj, pm_arr, pm_opt, pm_ird, pm_aln, List.getElem?_cons_zero, List.getElem?_cons_succ, List.set_cons_zero, List.set_cons_succ, List.length_cons, List.length_nil, List.length_set, true_and, and_true, Nat.add_zero, Nat.zero_add, Nat.le_refl, Nat.reduceAdd, Nat.reduceLT, Nat.reduceLeDiff, Nat.zero_le, not_false_eq_true, not_true_eq_false, false_implies, implies_true, true_implies, Nat.zero_lt_succ, Nat.lt_add_one, pm_tl_n, pm_tl_s, sc_uL, z1, z2, z3, nI_1, z4]
      exact K
  simp only [w_X5_longestUnlike_0, w_X5_longestUnlike_1, w_X5_longestUnlike_2, w_X5_longestUnlike_3, w_X5_longestUnlike_4, w_X5_longestUnlike_5, pm_1i_c, pm_2i_c, pm_1l_c, pm_2l_c, pm_1a_c, pm_ia_c, pm_iia_c, pm_va_c, pm_cp_c, pm_k0_c, pm_k1_c, pm_k2_c, pm_k3_c, pm_s1_c, pm_s2_c, pm_s3_c, pm_s4_c, pm_ri_c, pm_ra_c, pm_rn_c, pm_rk_i, pm_rk_z, pm_rk_a, pm_vk_i, pm_vk_z, pm_vk_a, pm_cti, pm_ctr, pm_ldi_z, pm_ldi_s, pm_lda_z, pm_lda_s, pm_cat_n, pm_cat_i, pm_cat_r, pm_cat_l, pm_obj, pm_arr, pm_opt, pm_ird, pm_aln, List.getElem?_cons_zero, List.getElem?_cons_succ, List.set_cons_zero, List.set_cons_succ, List.length_cons, List.length_nil, List.length_set, true_and, and_true, Nat.add_zero, Nat.zero_add, Nat.le_refl, Nat.reduceAdd, Nat.reduceLT, Nat.reduceLeDiff, Nat.zero_le, not_false_eq_true, not_true_eq_false, false_implies, implies_true, true_implies, Nat.zero_lt_succ, Nat.lt_add_one]
  exact loop xs.length 0 rfl (by omega)
theorem c_Lb_widestGap (R : rw_ h P 100 xs) {a : Nat} (d : Nat) : PM (d + 3) 50 [.ref a, .ref P] h (fun v h' => v = some (.int (wgS xs xs.length)) ∧ h' = h) := by
  have ro := R.o
  have len := R.le
  refine en_X5_widestGap rfl rfl ?_
  have loop : ∀ n k, xs.length - k = n → k ≤ xs.length → ∀ x4, W_X5_widestGap (d + 2) (h.length + 0) 0 (fun v h' => v = some (.int (wgS xs xs.length)) ∧ h' = h) 4 [some (.ref a), some (.ref P), some (.int (wgS xs k)), some (.int (nI k)), x4] [] h 0 := by
    intro n
    induction n with
    | zero =>
      intro k hn hk x4
      have e1 : ¬ nI k < nI xs.length := nI_nlt (by omega) (by omega)
      rw [w_X5_widestGap_4]
      simp only [w_X5_widestGap_5, w_X5_widestGap_6, w_X5_widestGap_9, w_X5_widestGap_12, w_X5_widestGap_13, w_X5_widestGap_14, w_X5_widestGap_17, w_X5_widestGap_19, w_X5_widestGap_21, w_X5_widestGap_22, w_X5_widestGap_25, w_X5_widestGap_26, w_X5_widestGap_27, w_X5_widestGap_29, w_X5_widestGap_30, w_X5_widestGap_31, w_X5_widestGap_32, w_X5_widestGap_35, w_X5_widestGap_36, w_X5_widestGap_39, w_X5_widestGap_42, w_X5_widestGap_43, pm_1i_c, pm_2i_c, pm_1l_c, pm_2l_c, pm_1a_c, pm_ia_c, pm_iia_c, pm_va_c, pm_cp_c, pm_k0_c, pm_k1_c, pm_k2_c, pm_k3_c, pm_s1_c, pm_s2_c, pm_s3_c, pm_s4_c, pm_ri_c, pm_ra_c, pm_rn_c, pm_rk_i, pm_rk_z, pm_rk_a, pm_vk_i, pm_vk_z, pm_vk_a, pm_cti, pm_ctr, pm_ldi_z, pm_ldi_s, pm_lda_z, pm_lda_s, pm_cat_n, pm_cat_i, pm_cat_r, pm_cat_l, pm_obj, pm_arr, pm_opt, pm_ird, pm_aln, List.getElem?_cons_zero, List.getElem?_cons_succ, List.set_cons_zero, List.set_cons_succ, List.length_cons, List.length_nil, List.length_set, true_and, and_true, Nat.add_zero, Nat.zero_add, Nat.le_refl, Nat.reduceAdd, Nat.reduceLT, Nat.reduceLeDiff, Nat.zero_le, not_false_eq_true, not_true_eq_false, false_implies, implies_true, true_implies, Nat.zero_lt_succ, Nat.lt_add_one, ro]
      refine PM_use (c_Row_size R (d + 1)) ?_
      rintro v h1 l1 ⟨rfl, rfl⟩
      show W_X5_widestGap _ _ _ _ _ _ _ _ _
      simp only [w_X5_widestGap_9, w_X5_widestGap_12, w_X5_widestGap_13, w_X5_widestGap_14, w_X5_widestGap_17, w_X5_widestGap_19, w_X5_widestGap_21, w_X5_widestGap_22, w_X5_widestGap_25, w_X5_widestGap_26, w_X5_widestGap_27, w_X5_widestGap_29, w_X5_widestGap_30, w_X5_widestGap_31, w_X5_widestGap_32, w_X5_widestGap_35, w_X5_widestGap_36, w_X5_widestGap_39, w_X5_widestGap_42, w_X5_widestGap_43, pm_1i_c, pm_2i_c, pm_1l_c, pm_2l_c, pm_1a_c, pm_ia_c, pm_iia_c, pm_va_c, pm_cp_c, pm_k0_c, pm_k1_c, pm_k2_c, pm_k3_c, pm_s1_c, pm_s2_c, pm_s3_c, pm_s4_c, pm_ri_c, pm_ra_c, pm_rn_c, pm_rk_i, pm_rk_z, pm_rk_a, pm_vk_i, pm_vk_z, pm_vk_a, pm_cti, pm_ctr, pm_ldi_z, pm_ldi_s, pm_lda_z, pm_lda_s, pm_cat_n, pm_cat_i, pm_cat_r, pm_cat_l, pm_obj, pm_arr, pm_opt, pm_ird, pm_aln, List.getElem?_cons_zero, List.getElem?_cons_succ, List.set_cons_zero, List.set_cons_succ, List.length_cons, List.length_nil, List.length_set, true_and, and_true, Nat.add_zero, Nat.zero_add, Nat.le_refl, Nat.reduceAdd, Nat.reduceLT, Nat.reduceLeDiff, Nat.zero_le, not_false_eq_true, not_true_eq_false, false_implies, implies_true, true_implies, Nat.zero_lt_succ, Nat.lt_add_one, pm_tl_n, pm_tl_s, sc_uL, e1]
      rw [show k = xs.length by omega]
    | succ n ih =>
      intro k hn hk x4
      have e1 : nI k < nI xs.length := nI_lt (by omega) (by omega)
      have K := ih (k + 1) (by omega) (by omega)
      have ag : agA xs k ≤ k := agM_le xs (xs.getD k (-1)) k
      rw [w_X5_widestGap_4]
      simp only [w_X5_widestGap_5, w_X5_widestGap_6, w_X5_widestGap_9, w_X5_widestGap_12, w_X5_widestGap_13, w_X5_widestGap_14, w_X5_widestGap_17, w_X5_widestGap_19, w_X5_widestGap_21, w_X5_widestGap_22, w_X5_widestGap_25, w_X5_widestGap_26, w_X5_widestGap_27, w_X5_widestGap_29, w_X5_widestGap_30, w_X5_widestGap_31, w_X5_widestGap_32, w_X5_widestGap_35, w_X5_widestGap_36, w_X5_widestGap_39, w_X5_widestGap_42, w_X5_widestGap_43, pm_1i_c, pm_2i_c, pm_1l_c, pm_2l_c, pm_1a_c, pm_ia_c, pm_iia_c, pm_va_c, pm_cp_c, pm_k0_c, pm_k1_c, pm_k2_c, pm_k3_c, pm_s1_c, pm_s2_c, pm_s3_c, pm_s4_c, pm_ri_c, pm_ra_c, pm_rn_c, pm_rk_i, pm_rk_z, pm_rk_a, pm_vk_i, pm_vk_z, pm_vk_a, pm_cti, pm_ctr, pm_ldi_z, pm_ldi_s, pm_lda_z, pm_lda_s, pm_cat_n, pm_cat_i, pm_cat_r, pm_cat_l, pm_obj, pm_arr, pm_opt, pm_ird, pm_aln, List.getElem?_cons_zero, List.getElem?_cons_succ, List.set_cons_zero, List.set_cons_succ, List.length_cons, List.length_nil, List.length_set, true_and, and_true, Nat.add_zero, Nat.zero_add, Nat.le_refl, Nat.reduceAdd, Nat.reduceLT, Nat.reduceLeDiff, Nat.zero_le, not_false_eq_true, not_true_eq_false, false_implies, implies_true, true_implies, Nat.zero_lt_succ, Nat.lt_add_one, ro]
      refine PM_use (c_Row_size R (d + 1)) ?_
      rintro v h1 l1 ⟨rfl, rfl⟩
      show W_X5_widestGap _ _ _ _ _ _ _ _ _
      simp only [w_X5_widestGap_9, w_X5_widestGap_12, w_X5_widestGap_13, w_X5_widestGap_14, w_X5_widestGap_17, w_X5_widestGap_19, w_X5_widestGap_21, w_X5_widestGap_22, w_X5_widestGap_25, w_X5_widestGap_26, w_X5_widestGap_27, w_X5_widestGap_29, w_X5_widestGap_30, w_X5_widestGap_31, w_X5_widestGap_32, w_X5_widestGap_35, w_X5_widestGap_36, w_X5_widestGap_39, w_X5_widestGap_42, w_X5_widestGap_43, pm_1i_c, pm_2i_c, pm_1l_c, pm_2l_c, pm_1a_c, pm_ia_c, pm_iia_c, pm_va_c, pm_cp_c, pm_k0_c, pm_k1_c, pm_k2_c, pm_k3_c, pm_s1_c, pm_s2_c, pm_s3_c, pm_s4_c, pm_ri_c, pm_ra_c, pm_rn_c, pm_rk_i, pm_rk_z, pm_rk_a, pm_vk_i, pm_vk_z, pm_vk_a, pm_cti, pm_ctr, pm_ldi_z, pm_ldi_s, pm_lda_z, pm_lda_s, pm_cat_n, pm_cat_i, pm_cat_r, pm_cat_l, pm_obj, pm_arr, pm_opt, pm_ird, pm_aln, List.getElem?_cons_zero, List.getElem?_cons_succ, List.set_cons_zero, List.set_cons_succ, List.length_cons, List.length_nil, List.length_set, true_and, and_true, Nat.add_zero, Nat.zero_add, Nat.le_refl, Nat.reduceAdd, Nat.reduceLT, Nat.reduceLeDiff, Nat.zero_le, not_false_eq_true, not_true_eq_false, false_implies, implies_true, true_implies, Nat.zero_lt_succ, Nat.lt_add_one, pm_tl_n, pm_tl_s, sc_uL, e1, ro]
      refine PM_use (c_Lb_askAhead R (by omega) d) ?_
      rintro v h1 l1 ⟨rfl, rfl⟩
      rw [wgS_s] at K
      show W_X5_widestGap _ _ _ _ _ _ _ _ _
      simp only [w_X5_widestGap_17, w_X5_widestGap_19, w_X5_widestGap_21, w_X5_widestGap_22, w_X5_widestGap_25, w_X5_widestGap_26, w_X5_widestGap_27, w_X5_widestGap_29, w_X5_widestGap_30, w_X5_widestGap_31, w_X5_widestGap_32, w_X5_widestGap_35, w_X5_widestGap_36, w_X5_widestGap_39, w_X5_widestGap_42, w_X5_widestGap_43, pm_1i_c, pm_2i_c, pm_1l_c, pm_2l_c, pm_1a_c, pm_ia_c, pm_iia_c, pm_va_c, pm_cp_c, pm_k0_c, pm_k1_c, pm_k2_c, pm_k3_c, pm_s1_c, pm_s2_c, pm_s3_c, pm_s4_c, pm_ri_c, pm_ra_c, pm_rn_c, pm_rk_i, pm_rk_z, pm_rk_a, pm_vk_i, pm_vk_z, pm_vk_a, pm_cti, pm_ctr, pm_ldi_z, pm_ldi_s, pm_lda_z, pm_lda_s, pm_cat_n, pm_cat_i, pm_cat_r, pm_cat_l, pm_obj, pm_arr, pm_opt, pm_ird, pm_aln, List.getElem?_cons_zero, List.getElem?_cons_succ, List.set_cons_zero, List.set_cons_succ, List.length_cons, List.length_nil, List.length_set, true_and, and_true, Nat.add_zero, Nat.zero_add, Nat.le_refl, Nat.reduceAdd, Nat.reduceLT, Nat.reduceLeDiff, Nat.zero_le, not_false_eq_true, not_true_eq_false, false_implies, implies_true, true_implies, Nat.zero_lt_succ, Nat.lt_add_one, pm_tl_n, pm_tl_s, sc_uL, nI_1, nIm1 (show agA xs k < 2 ^ 31 by omega)]
      refine ⟨fun c => ?_, fun c => ?_⟩
      · rw [if_pos c] at K
        exact K _
      · obtain ⟨j, hj⟩ : ∃ j, agA xs k = j + 1 := ⟨agA xs k - 1, by omega⟩
        rw [if_neg c] at K
        have z : nI k - (nI (agA xs k) - 1) - 1 = nI (k - agA xs k) := by
          rw [hj, nI_pred, pk_sub (by omega), nI_one, pk_sub (by omega)]
          congr 1
        rw [z]
        exact K _
  simp only [w_X5_widestGap_0, w_X5_widestGap_1, w_X5_widestGap_2, w_X5_widestGap_3, pm_1i_c, pm_2i_c, pm_1l_c, pm_2l_c, pm_1a_c, pm_ia_c, pm_iia_c, pm_va_c, pm_cp_c, pm_k0_c, pm_k1_c, pm_k2_c, pm_k3_c, pm_s1_c, pm_s2_c, pm_s3_c, pm_s4_c, pm_ri_c, pm_ra_c, pm_rn_c, pm_rk_i, pm_rk_z, pm_rk_a, pm_vk_i, pm_vk_z, pm_vk_a, pm_cti, pm_ctr, pm_ldi_z, pm_ldi_s, pm_lda_z, pm_lda_s, pm_cat_n, pm_cat_i, pm_cat_r, pm_cat_l, pm_obj, pm_arr, pm_opt, pm_ird, pm_aln, List.getElem?_cons_zero, List.getElem?_cons_succ, List.set_cons_zero, List.set_cons_succ, List.length_cons, List.length_nil, List.length_set, true_and, and_true, Nat.add_zero, Nat.zero_add, Nat.le_refl, Nat.reduceAdd, Nat.reduceLT, Nat.reduceLeDiff, Nat.zero_le, not_false_eq_true, not_true_eq_false, false_implies, implies_true, true_implies, Nat.zero_lt_succ, Nat.lt_add_one]
  exact loop xs.length 0 rfl (by omega) _
theorem cmS_le (xs : List Int32) : ∀ k, (cmS xs k).2 ≤ xs.length
  | 0 => Nat.zero_le _
  | k + 1 => by
    unfold cmS
    dsimp only
    split
    · exact List.count_le_length
    · exact cmS_le xs k
theorem c_Lb_commonest (R : rw_ h P 100 xs) {a : Nat} (ha : ∃ l, h[a]? = some (.inr (5, l))) (d : Nat) : PM (d + 3) 47 [.ref a, .ref P] h (fun v h' => v = some (.int (cmS xs xs.length).1) ∧ h' = h) := by
  have ro := R.o
  have len := R.le
  obtain ⟨la, ao⟩ := ha
  refine en_X5_commonest rfl rfl ?_
  have loop : ∀ n k, xs.length - k = n → k ≤ xs.length → ∀ x5 x6, W_X5_commonest (d + 2) (h.length + 0) 0 (fun v h' => v = some (.int (cmS xs xs.length).1) ∧ h' = h) 7 [some (.ref a), some (.ref P), some (.int (cmS xs k).1), some (.int (nI (cmS xs k).2)), some (.int (nI k)), x5, x6] [] h 0 := by
    intro n
    induction n with
    | zero =>
      intro k hn hk x5 x6
      have e1 : ¬ nI k < nI xs.length := nI_nlt (by omega) (by omega)
      rw [w_X5_commonest_7]
      simp only [w_X5_commonest_9, w_X5_commonest_10, w_X5_commonest_13, w_X5_commonest_16, w_X5_commonest_17, w_X5_commonest_19, w_X5_commonest_22, w_X5_commonest_24, w_X5_commonest_25, w_X5_commonest_26, w_X5_commonest_28, w_X5_commonest_31, w_X5_commonest_33, w_X5_commonest_35, w_X5_commonest_36, w_X5_commonest_39, w_X5_commonest_41, w_X5_commonest_42, w_X5_commonest_45, w_X5_commonest_47, w_X5_commonest_48, w_X5_commonest_51, w_X5_commonest_53, w_X5_commonest_54, w_X5_commonest_56, w_X5_commonest_57, w_X5_commonest_60, w_X5_commonest_63, w_X5_commonest_64, pm_1i_c, pm_2i_c, pm_1l_c, pm_2l_c, pm_1a_c, pm_ia_c, pm_iia_c, pm_va_c, pm_cp_c, pm_k0_c, pm_k1_c, pm_k2_c, pm_k3_c, pm_s1_c, pm_s2_c, pm_s3_c, pm_s4_c, pm_ri_c, pm_ra_c, pm_rn_c, pm_rk_i, pm_rk_z, pm_rk_a, pm_vk_i, pm_vk_z, pm_vk_a, pm_cti, pm_ctr, pm_ldi_z, pm_ldi_s, pm_lda_z, pm_lda_s, pm_cat_n, pm_cat_i, pm_cat_r, pm_cat_l, pm_obj, pm_arr, pm_opt, pm_ird, pm_aln, List.getElem?_cons_zero, List.getElem?_cons_succ, List.set_cons_zero, List.set_cons_succ, List.length_cons, List.length_nil, List.length_set, true_and, and_true, Nat.add_zero, Nat.zero_add, Nat.le_refl, Nat.reduceAdd, Nat.reduceLT, Nat.reduceLeDiff, Nat.zero_le, not_false_eq_true, not_true_eq_false, false_implies, implies_true, true_implies, Nat.zero_lt_succ, Nat.lt_add_one, ro]
      refine PM_use (c_Row_size R (d + 1)) ?_
      rintro v h1 l1 ⟨rfl, rfl⟩
      show W_X5_commonest _ _ _ _ _ _ _ _ _
      simp only [w_X5_commonest_13, w_X5_commonest_16, w_X5_commonest_17, w_X5_commonest_19, w_X5_commonest_22, w_X5_commonest_24, w_X5_commonest_25, w_X5_commonest_26, w_X5_commonest_28, w_X5_commonest_31, w_X5_commonest_33, w_X5_commonest_35, w_X5_commonest_36, w_X5_commonest_39, w_X5_commonest_41, w_X5_commonest_42, w_X5_commonest_45, w_X5_commonest_47, w_X5_commonest_48, w_X5_commonest_51, w_X5_commonest_53, w_X5_commonest_54, w_X5_commonest_56, w_X5_commonest_57, w_X5_commonest_60, w_X5_commonest_63, w_X5_commonest_64, pm_1i_c, pm_2i_c, pm_1l_c, pm_2l_c, pm_1a_c, pm_ia_c, pm_iia_c, pm_va_c, pm_cp_c, pm_k0_c, pm_k1_c, pm_k2_c, pm_k3_c, pm_s1_c, pm_s2_c, pm_s3_c, pm_s4_c, pm_ri_c, pm_ra_c, pm_rn_c, pm_rk_i, pm_rk_z, pm_rk_a, pm_vk_i, pm_vk_z, pm_vk_a, pm_cti, pm_ctr, pm_ldi_z, pm_ldi_s, pm_lda_z, pm_lda_s, pm_cat_n, pm_cat_i, pm_cat_r, pm_cat_l, pm_obj, pm_arr, pm_opt, pm_ird, pm_aln, List.getElem?_cons_zero, List.getElem?_cons_succ, List.set_cons_zero, List.set_cons_succ, List.length_cons, List.length_nil, List.length_set, true_and, and_true, Nat.add_zero, Nat.zero_add, Nat.le_refl, Nat.reduceAdd, Nat.reduceLT, Nat.reduceLeDiff, Nat.zero_le, not_false_eq_true, not_true_eq_false, false_implies, implies_true, true_implies, Nat.zero_lt_succ, Nat.lt_add_one, pm_tl_n, pm_tl_s, sc_uL, e1]
      rw [show k = xs.length by omega]
    | succ n ih =>
      intro k hn hk x5 x6
      have e1 : nI k < nI xs.length := nI_lt (by omega) (by omega)
      have K := ih (k + 1) (by omega) (by omega)
      have b1 := cmS_le xs k
      have b2 : xs.count (xs.getD k (-1)) ≤ xs.length := List.count_le_length
      rw [w_X5_commonest_7]
      simp only [w_X5_commonest_9, w_X5_commonest_10, w_X5_commonest_13, w_X5_commonest_16, w_X5_commonest_17, w_X5_commonest_19, w_X5_commonest_22, w_X5_commonest_24, w_X5_commonest_25, w_X5_commonest_26, w_X5_commonest_28, w_X5_commonest_31, w_X5_commonest_33, w_X5_commonest_35, w_X5_commonest_36, w_X5_commonest_39, w_X5_commonest_41, w_X5_commonest_42, w_X5_commonest_45, w_X5_commonest_47, w_X5_commonest_48, w_X5_commonest_51, w_X5_commonest_53, w_X5_commonest_54, w_X5_commonest_56, w_X5_commonest_57, w_X5_commonest_60, w_X5_commonest_63, w_X5_commonest_64, pm_1i_c, pm_2i_c, pm_1l_c, pm_2l_c, pm_1a_c, pm_ia_c, pm_iia_c, pm_va_c, pm_cp_c, pm_k0_c, pm_k1_c, pm_k2_c, pm_k3_c, pm_s1_c, pm_s2_c, pm_s3_c, pm_s4_c, pm_ri_c, pm_ra_c, pm_rn_c, pm_rk_i, pm_rk_z, pm_rk_a, pm_vk_i, pm_vk_z, pm_vk_a, pm_cti, pm_ctr, pm_ldi_z, pm_ldi_s, pm_lda_z, pm_lda_s, pm_cat_n, pm_cat_i, pm_cat_r, pm_cat_l, pm_obj, pm_arr, pm_opt, pm_ird, pm_aln, List.getElem?_cons_zero, List.getElem?_cons_succ, List.set_cons_zero, List.set_cons_succ, List.length_cons, List.length_nil, List.length_set, true_and, and_true, Nat.add_zero, Nat.zero_add, Nat.le_refl, Nat.reduceAdd, Nat.reduceLT, Nat.reduceLeDiff, Nat.zero_le, not_false_eq_true, not_true_eq_false, false_implies, implies_true, true_implies, Nat.zero_lt_succ, Nat.lt_add_one, ro]
      refine PM_use (c_Row_size R (d + 1)) ?_
      rintro v h1 l1 ⟨rfl, rfl⟩
      show W_X5_commonest _ _ _ _ _ _ _ _ _
      simp only [w_X5_commonest_13, w_X5_commonest_16, w_X5_commonest_17, w_X5_commonest_19, w_X5_commonest_22, w_X5_commonest_24, w_X5_commonest_25, w_X5_commonest_26, w_X5_commonest_28, w_X5_commonest_31, w_X5_commonest_33, w_X5_commonest_35, w_X5_commonest_36, w_X5_commonest_39, w_X5_commonest_41, w_X5_commonest_42, w_X5_commonest_45, w_X5_commonest_47, w_X5_commonest_48, w_X5_commonest_51, w_X5_commonest_53, w_X5_commonest_54, w_X5_commonest_56, w_X5_commonest_57, w_X5_commonest_60, w_X5_commonest_63, w_X5_commonest_64, pm_1i_c, pm_2i_c, pm_1l_c, pm_2l_c, pm_1a_c, pm_ia_c, pm_iia_c, pm_va_c, pm_cp_c, pm_k0_c, pm_k1_c, pm_k2_c, pm_k3_c, pm_s1_c, pm_s2_c, pm_s3_c, pm_s4_c, pm_ri_c, pm_ra_c, pm_rn_c, pm_rk_i, pm_rk_z, pm_rk_a, pm_vk_i, pm_vk_z, pm_vk_a, pm_cti, pm_ctr, pm_ldi_z, pm_ldi_s, pm_lda_z, pm_lda_s, pm_cat_n, pm_cat_i, pm_cat_r, pm_cat_l, pm_obj, pm_arr, pm_opt, pm_ird, pm_aln, List.getElem?_cons_zero, List.getElem?_cons_succ, List.set_cons_zero, List.set_cons_succ, List.length_cons, List.length_nil, List.length_set, true_and, and_true, Nat.add_zero, Nat.zero_add, Nat.le_refl, Nat.reduceAdd, Nat.reduceLT, Nat.reduceLeDiff, Nat.zero_le, not_false_eq_true, not_true_eq_false, false_implies, implies_true, true_implies, Nat.zero_lt_succ, Nat.lt_add_one, pm_tl_n, pm_tl_s, sc_uL, e1, ro]
      refine PM_use (c_Row_get R (nI k) (d + 1)) ?_
      rintro v h1 l1 ⟨rfl, rfl⟩
      rw [rw_getN (by omega)]
      show W_X5_commonest _ _ _ _ _ _ _ _ _
      simp only [w_X5_commonest_22, w_X5_commonest_24, w_X5_commonest_25, w_X5_commonest_26, w_X5_commonest_28, w_X5_commonest_31, w_X5_commonest_33, w_X5_commonest_35, w_X5_commonest_36, w_X5_commonest_39, w_X5_commonest_41, w_X5_commonest_42, w_X5_commonest_45, w_X5_commonest_47, w_X5_commonest_48, w_X5_commonest_51, w_X5_commonest_53, w_X5_commonest_54, w_X5_commonest_56, w_X5_commonest_57, w_X5_commonest_60, w_X5_commonest_63, w_X5_commonest_64, pm_1i_c, pm_2i_c, pm_1l_c, pm_2l_c, pm_1a_c, pm_ia_c, pm_iia_c, pm_va_c, pm_cp_c, pm_k0_c, pm_k1_c, pm_k2_c, pm_k3_c, pm_s1_c, pm_s2_c, pm_s3_c, pm_s4_c, pm_ri_c, pm_ra_c, pm_rn_c, pm_rk_i, pm_rk_z, pm_rk_a, pm_vk_i, pm_vk_z, pm_vk_a, pm_cti, pm_ctr, pm_ldi_z, pm_ldi_s, pm_lda_z, pm_lda_s, pm_cat_n, pm_cat_i, pm_cat_r, pm_cat_l, pm_obj, pm_arr, pm_opt, pm_ird, pm_aln, List.getElem?_cons_zero, List.getElem?_cons_succ, List.set_cons_zero, List.set_cons_succ, List.length_cons, List.length_nil, List.length_set, true_and, and_true, Nat.add_zero, Nat.zero_add, Nat.le_refl, Nat.reduceAdd, Nat.reduceLT, Nat.reduceLeDiff, Nat.zero_le, not_false_eq_true, not_true_eq_false, false_implies, implies_true, true_implies, Nat.zero_lt_succ, Nat.lt_add_one, pm_tl_n, pm_tl_s, sc_uL, ao]
      refine PM_use (c_Lb_timesOf R (xs.getD k (-1)) d) ?_
      rintro v h1 l1 ⟨rfl, rfl⟩
      rw [cmS_s] at K
      show W_X5_commonest _ _ _ _ _ _ _ _ _
      simp only [w_X5_commonest_31, w_X5_commonest_33, w_X5_commonest_35, w_X5_commonest_36, w_X5_commonest_39, w_X5_commonest_41, w_X5_commonest_42, w_X5_commonest_45, w_X5_commonest_47, w_X5_commonest_48, w_X5_commonest_51, w_X5_commonest_53, w_X5_commonest_54, w_X5_commonest_56, w_X5_commonest_57, w_X5_commonest_60, w_X5_commonest_63, w_X5_commonest_64, pm_1i_c, pm_2i_c, pm_1l_c, pm_2l_c, pm_1a_c, pm_ia_c, pm_iia_c, pm_va_c, pm_cp_c, pm_k0_c, pm_k1_c, pm_k2_c, pm_k3_c, pm_s1_c, pm_s2_c, pm_s3_c, pm_s4_c, pm_ri_c, pm_ra_c, pm_rn_c, pm_rk_i, pm_rk_z, pm_rk_a, pm_vk_i, pm_vk_z, pm_vk_a, pm_cti, pm_ctr, pm_ldi_z, pm_ldi_s, pm_lda_z, pm_lda_s, pm_cat_n, pm_cat_i, pm_cat_r, pm_cat_l, pm_obj, pm_arr, pm_opt, pm_ird, pm_aln, List.getElem?_cons_zero, List.getElem?_cons_succ, List.set_cons_zero, List.set_cons_succ, List.length_cons, List.length_nil, List.length_set, true_and, and_true, Nat.add_zero, Nat.zero_add, Nat.le_refl, Nat.reduceAdd, Nat.reduceLT, Nat.reduceLeDiff, Nat.zero_le, not_false_eq_true, not_true_eq_false, false_implies, implies_true, true_implies, Nat.zero_lt_succ, Nat.lt_add_one, pm_tl_n, pm_tl_s, sc_uL, nI_1, nI_ltI (show (cmS xs k).2 < 2 ^ 31 by omega) (show xs.count (xs.getD k (-1)) < 2 ^ 31 by omega), nI_inj (show xs.count (xs.getD k (-1)) < 2 ^ 31 by omega) (show (cmS xs k).2 < 2 ^ 31 by omega)]
      refine ⟨fun c => ?_, fun c => ⟨fun c2 => ?_, fun c2 => ⟨fun c3 => ?_, fun c3 => ?_⟩⟩⟩
      · rw [if_pos (Or.inl c)] at K
        exact K _ _
      · rw [if_neg (fun z => z.elim c (fun y => c2 y.1))] at K
        exact K _ _
      · rw [if_neg (fun z => z.elim c (fun y => c3 y.2))] at K
        exact K _ _
      · rw [if_pos (Or.inr ⟨c2, c3⟩)] at K
        exact K _ _
  simp only [w_X5_commonest_0, w_X5_commonest_1, w_X5_commonest_2, w_X5_commonest_3, w_X5_commonest_4, w_X5_commonest_5, pm_1i_c, pm_2i_c, pm_1l_c, pm_2l_c, pm_1a_c, pm_ia_c, pm_iia_c, pm_va_c, pm_cp_c, pm_k0_c, pm_k1_c, pm_k2_c, pm_k3_c, pm_s1_c, pm_s2_c, pm_s3_c, pm_s4_c, pm_ri_c, pm_ra_c, pm_rn_c, pm_rk_i, pm_rk_z, pm_rk_a, pm_vk_i, pm_vk_z, pm_vk_a, pm_cti, pm_ctr, pm_ldi_z, pm_ldi_s, pm_lda_z, pm_lda_s, pm_cat_n, pm_cat_i, pm_cat_r, pm_cat_l, pm_obj, pm_arr, pm_opt, pm_ird, pm_aln, List.getElem?_cons_zero, List.getElem?_cons_succ, List.set_cons_zero, List.set_cons_succ, List.length_cons, List.length_nil, List.length_set, true_and, and_true, Nat.add_zero, Nat.zero_add, Nat.le_refl, Nat.reduceAdd, Nat.reduceLT, Nat.reduceLeDiff, Nat.zero_le, not_false_eq_true, not_true_eq_false, false_implies, implies_true, true_implies, Nat.zero_lt_succ, Nat.lt_add_one]
  exact loop xs.length 0 rfl (by omega) _ _
end LB
