/-! Tokens: cutting up, taking. -/
section TM
variable {h h' : pmH} {Tk P : Nat} {t : TS} {tb : Int32} {ix : Nat} {ft : Int32} {bs X : List Int32}
theorem c_T_failed (T : tk_ h Tk t tb ix ft) (d : Nat) : PM (d + 1) 109 [.ref Tk] h (fun v h' => v = some (.int (if ft = -1 then 0 else 1)) ∧ h' = h) := by
  have to := T.1
  refine en_X9_failed rfl ?_
  simp only [w_X9_failed_0, w_X9_failed_1, w_X9_failed_4, w_X9_failed_5, w_X9_failed_8, w_X9_failed_9, w_X9_failed_12, w_X9_failed_13, pm_1i_c, pm_2i_c, pm_1l_c, pm_2l_c, pm_1a_c, pm_ia_c, pm_iia_c, pm_va_c, pm_cp_c, pm_k0_c, pm_k1_c, pm_k2_c, pm_k3_c, pm_s1_c, pm_s2_c, pm_s3_c, pm_s4_c, pm_ri_c, pm_ra_c, pm_rn_c, pm_rk_i, pm_rk_z, pm_rk_a, pm_vk_i, pm_vk_z, pm_vk_a, pm_cti, pm_ctr, pm_ldi_z, pm_ldi_s, pm_lda_z, pm_lda_s, pm_cat_n, pm_cat_i, pm_cat_r, pm_cat_l, pm_obj, pm_arr, pm_opt, pm_ird, pm_aln, List.getElem?_cons_zero, List.getElem?_cons_succ, List.set_cons_zero, List.set_cons_succ, List.length_cons, List.length_nil, List.length_set, true_and, and_true, Nat.add_zero, Nat.zero_add, Nat.le_refl, Nat.reduceAdd, Nat.reduceLT, Nat.reduceLeDiff, Nat.zero_le, not_false_eq_true, not_true_eq_false, false_implies, implies_true, true_implies, Nat.zero_lt_succ, Nat.lt_add_one, to]
  refine ⟨fun c => ?_, fun c => ?_⟩
  · rw [if_pos c]
    exact ⟨Or.inl trivial, rfl⟩
  · rw [if_neg c]
    exact ⟨Or.inr trivial, rfl⟩
theorem c_T_fail (T : tk_ h Tk t tb ix ft) (x : Int32) (d : Nat) : PM (d + 1) 110 [.ref Tk, .int x] h (fun v h' => v = none ∧ tk_ h' Tk t tb (faF x (ix, ft)).1 (faF x (ix, ft)).2 ∧ frT h h' Tk) := by
  have to := T.1
  refine en_X9_fail rfl rfl ?_
  simp only [w_X9_fail_0, w_X9_fail_1, w_X9_fail_4, w_X9_fail_5, w_X9_fail_13, pm_1i_c, pm_2i_c, pm_1l_c, pm_2l_c, pm_1a_c, pm_ia_c, pm_iia_c, pm_va_c, pm_cp_c, pm_k0_c, pm_k1_c, pm_k2_c, pm_k3_c, pm_s1_c, pm_s2_c, pm_s3_c, pm_s4_c, pm_ri_c, pm_ra_c, pm_rn_c, pm_rk_i, pm_rk_z, pm_rk_a, pm_vk_i, pm_vk_z, pm_vk_a, pm_cti, pm_ctr, pm_ldi_z, pm_ldi_s, pm_lda_z, pm_lda_s, pm_cat_n, pm_cat_i, pm_cat_r, pm_cat_l, pm_obj, pm_arr, pm_opt, pm_ird, pm_aln, List.getElem?_cons_zero, List.getElem?_cons_succ, List.set_cons_zero, List.set_cons_succ, List.length_cons, List.length_nil, List.length_set, true_and, and_true, Nat.add_zero, Nat.zero_add, Nat.le_refl, Nat.reduceAdd, Nat.reduceLT, Nat.reduceLeDiff, Nat.zero_le, not_false_eq_true, not_true_eq_false, false_implies, implies_true, true_implies, Nat.zero_lt_succ, Nat.lt_add_one, to]
  unfold faF
  dsimp only
  refine ⟨fun c => ?_, fun c => ?_⟩
  · rw [if_neg c]
    exact ⟨T, frT.rf⟩
  · rw [if_pos c]
    obtain ⟨h1, E1, l1, f1, T1⟩ := T.uo tb ix x
    simp only [w_X9_fail_8, w_X9_fail_9, w_X9_fail_10, w_X9_fail_13, pm_1i_c, pm_2i_c, pm_1l_c, pm_2l_c, pm_1a_c, pm_ia_c, pm_iia_c, pm_va_c, pm_cp_c, pm_k0_c, pm_k1_c, pm_k2_c, pm_k3_c, pm_s1_c, pm_s2_c, pm_s3_c, pm_s4_c, pm_ri_c, pm_ra_c, pm_rn_c, pm_rk_i, pm_rk_z, pm_rk_a, pm_vk_i, pm_vk_z, pm_vk_a, pm_cti, pm_ctr, pm_ldi_z, pm_ldi_s, pm_lda_z, pm_lda_s, pm_cat_n, pm_cat_i, pm_cat_r, pm_cat_l, pm_obj, pm_arr, pm_opt, pm_ird, pm_aln, List.getElem?_cons_zero, List.getElem?_cons_succ, List.set_cons_zero, List.set_cons_succ, List.length_cons, List.length_nil, List.length_set, true_and, and_true, Nat.add_zero, Nat.zero_add, Nat.le_refl, Nat.reduceAdd, Nat.reduceLT, Nat.reduceLeDiff, Nat.zero_le, not_false_eq_true, not_true_eq_false, false_implies, implies_true, true_implies, Nat.zero_lt_succ, Nat.lt_add_one, to]
    rw [E1]
    exact ⟨T1, f1⟩
theorem c_T_kind (T : tk_ h Tk t tb ix ft) (hx : ix ≤ 1000) (d : Nat) : PM (d + 2) 105 [.ref Tk] h (fun v h' => v = some (.int (kiF t.1 (ix, ft))) ∧ h' = h) := by
  have to := T.1
  have ko := T.2.1.o
  refine en_X9_kind rfl ?_
  simp only [w_X9_kind_0, w_X9_kind_1, w_X9_kind_4, w_X9_kind_7, w_X9_kind_10, w_X9_kind_13, w_X9_kind_14, w_X9_kind_17, w_X9_kind_18, w_X9_kind_21, w_X9_kind_24, pm_1i_c, pm_2i_c, pm_1l_c, pm_2l_c, pm_1a_c, pm_ia_c, pm_iia_c, pm_va_c, pm_cp_c, pm_k0_c, pm_k1_c, pm_k2_c, pm_k3_c, pm_s1_c, pm_s2_c, pm_s3_c, pm_s4_c, pm_ri_c, pm_ra_c, pm_rn_c, pm_rk_i, pm_rk_z, pm_rk_a, pm_vk_i, pm_vk_z, pm_vk_a, pm_cti, pm_ctr, pm_ldi_z, pm_ldi_s, pm_lda_z, pm_lda_s, pm_cat_n, pm_cat_i, pm_cat_r, pm_cat_l, pm_obj, pm_arr, pm_opt, pm_ird, pm_aln, List.getElem?_cons_zero, List.getElem?_cons_succ, List.set_cons_zero, List.set_cons_succ, List.length_cons, List.length_nil, List.length_set, true_and, and_true, Nat.add_zero, Nat.zero_add, Nat.le_refl, Nat.reduceAdd, Nat.reduceLT, Nat.reduceLeDiff, Nat.zero_le, not_false_eq_true, not_true_eq_false, false_implies, implies_true, true_implies, Nat.zero_lt_succ, Nat.lt_add_one, to]
  refine PM_use (c_T_failed T d) ?_
  rintro v h1 l1 ⟨rfl, rfl⟩
  unfold kiF
  dsimp only
  by_cases c : ft = -1
  · rw [if_pos c]
    simp only [c, if_true]
    show W_X9_kind _ _ _ _ _ _ _ _ _
    simp only [w_X9_kind_0, w_X9_kind_1, w_X9_kind_4, w_X9_kind_7, w_X9_kind_10, w_X9_kind_13, w_X9_kind_14, w_X9_kind_17, w_X9_kind_18, w_X9_kind_21, w_X9_kind_24, pm_1i_c, pm_2i_c, pm_1l_c, pm_2l_c, pm_1a_c, pm_ia_c, pm_iia_c, pm_va_c, pm_cp_c, pm_k0_c, pm_k1_c, pm_k2_c, pm_k3_c, pm_s1_c, pm_s2_c, pm_s3_c, pm_s4_c, pm_ri_c, pm_ra_c, pm_rn_c, pm_rk_i, pm_rk_z, pm_rk_a, pm_vk_i, pm_vk_z, pm_vk_a, pm_cti, pm_ctr, pm_ldi_z, pm_ldi_s, pm_lda_z, pm_lda_s, pm_cat_n, pm_cat_i, pm_cat_r, pm_cat_l, pm_obj, pm_arr, pm_opt, pm_ird, pm_aln, List.getElem?_cons_zero, List.getElem?_cons_succ, List.set_cons_zero, List.set_cons_succ, List.length_cons, List.length_nil, List.length_set, true_and, and_true, Nat.add_zero, Nat.zero_add, Nat.le_refl, Nat.reduceAdd, Nat.reduceLT, Nat.reduceLeDiff, Nat.zero_le, not_false_eq_true, not_true_eq_false, false_implies, implies_true, true_implies, Nat.zero_lt_succ, Nat.lt_add_one, pm_tl_n, pm_tl_s, sc_uL, to, ko]
    refine PM_use (c_Row_get T.2.1 (nI ix) d) ?_
    rintro v h1 l1 ⟨rfl, rfl⟩
    rw [rw_getN (by omega)]
    show W_X9_kind _ _ _ _ _ _ _ _ _
    simp only [w_X9_kind_0, w_X9_kind_1, w_X9_kind_4, w_X9_kind_7, w_X9_kind_10, w_X9_kind_13, w_X9_kind_14, w_X9_kind_17, w_X9_kind_18, w_X9_kind_21, w_X9_kind_24, pm_1i_c, pm_2i_c, pm_1l_c, pm_2l_c, pm_1a_c, pm_ia_c, pm_iia_c, pm_va_c, pm_cp_c, pm_k0_c, pm_k1_c, pm_k2_c, pm_k3_c, pm_s1_c, pm_s2_c, pm_s3_c, pm_s4_c, pm_ri_c, pm_ra_c, pm_rn_c, pm_rk_i, pm_rk_z, pm_rk_a, pm_vk_i, pm_vk_z, pm_vk_a, pm_cti, pm_ctr, pm_ldi_z, pm_ldi_s, pm_lda_z, pm_lda_s, pm_cat_n, pm_cat_i, pm_cat_r, pm_cat_l, pm_obj, pm_arr, pm_opt, pm_ird, pm_aln, List.getElem?_cons_zero, List.getElem?_cons_succ, List.set_cons_zero, List.set_cons_succ, List.length_cons, List.length_nil, List.length_set, true_and, and_true, Nat.add_zero, Nat.zero_add, Nat.le_refl, Nat.reduceAdd, Nat.reduceLT, Nat.reduceLeDiff, Nat.zero_le, not_false_eq_true, not_true_eq_false, false_implies, implies_true, true_implies, Nat.zero_lt_succ, Nat.lt_add_one, pm_tl_n, pm_tl_s, sc_uL]
  · rw [if_neg c]
    simp only [c, if_false]
    show W_X9_kind _ _ _ _ _ _ _ _ _
    simp only [w_X9_kind_0, w_X9_kind_1, w_X9_kind_4, w_X9_kind_7, w_X9_kind_10, w_X9_kind_13, w_X9_kind_14, w_X9_kind_17, w_X9_kind_18, w_X9_kind_21, w_X9_kind_24, pm_1i_c, pm_2i_c, pm_1l_c, pm_2l_c, pm_1a_c, pm_ia_c, pm_iia_c, pm_va_c, pm_cp_c, pm_k0_c, pm_k1_c, pm_k2_c, pm_k3_c, pm_s1_c, pm_s2_c, pm_s3_c, pm_s4_c, pm_ri_c, pm_ra_c, pm_rn_c, pm_rk_i, pm_rk_z, pm_rk_a, pm_vk_i, pm_vk_z, pm_vk_a, pm_cti, pm_ctr, pm_ldi_z, pm_ldi_s, pm_lda_z, pm_lda_s, pm_cat_n, pm_cat_i, pm_cat_r, pm_cat_l, pm_obj, pm_arr, pm_opt, pm_ird, pm_aln, List.getElem?_cons_zero, List.getElem?_cons_succ, List.set_cons_zero, List.set_cons_succ, List.length_cons, List.length_nil, List.length_set, true_and, and_true, Nat.add_zero, Nat.zero_add, Nat.le_refl, Nat.reduceAdd, Nat.reduceLT, Nat.reduceLeDiff, Nat.zero_le, not_false_eq_true, not_true_eq_false, false_implies, implies_true, true_implies, Nat.zero_lt_succ, Nat.lt_add_one, pm_tl_n, pm_tl_s, sc_uL, show ¬ (1 : Int32) = 0 by decide]
theorem taB_lt {K : List Int32} {k : Int32} {s : PS} (hk : k ≠ -1) (e : taB K k s = true) : s.1 < K.length := by
  unfold taB at e
  rw [decide_eq_true_eq] at e
  rcases Nat.lt_or_ge s.1 K.length with c | c
  · exact c
  · have := e.2
    rw [List.getD_eq_getElem?_getD, List.getElem?_eq_none c] at this
    exact absurd this.symm hk
theorem c_T_takes (T : tk_ h Tk t tb ix ft) (hx : ix ≤ 1000) (k : Int32) (d : Nat) : PM (d + 2) 106 [.ref Tk, .int k] h (fun v h' => v = some (.int (if taB t.1 k (ix, ft) then 1 else 0)) ∧ tk_ h' Tk t tb (taF t.1 k (ix, ft)).1 (taF t.1 k (ix, ft)).2 ∧ frT h h' Tk) := by
  have to := T.1
  have ko := T.2.1.o
  refine en_X9_takes rfl rfl ?_
  -- the end
  have fin : W_X9_takes (d + 1) (h.length + 0) 0 (fun v h' => v = some (.int (if taB t.1 k (ix, ft) then 1 else 0)) ∧ tk_ h' Tk t tb (taF t.1 k (ix, ft)).1 (taF t.1 k (ix, ft)).2 ∧ frT h h' Tk) 27 [some (.ref Tk), some (.int k), none] [.int (if taB t.1 k (ix, ft) then 1 else 0)] h 0 := by
    unfold taF
    rcases Bool.eq_false_or_eq_true (taB t.1 k (ix, ft)) with c | c
    · obtain ⟨h1, E1, l1, f1, T1⟩ := T.uo tb (ix + 1) ft
      simp only [c, if_true]
      simp only [w_X9_takes_27, w_X9_takes_28, w_X9_takes_29, w_X9_takes_30, w_X9_takes_33, w_X9_takes_34, w_X9_takes_37, w_X9_takes_38, w_X9_takes_41, w_X9_takes_42, w_X9_takes_43, w_X9_takes_46, w_X9_takes_47, pm_1i_c, pm_2i_c, pm_1l_c, pm_2l_c, pm_1a_c, pm_ia_c, pm_iia_c, pm_va_c, pm_cp_c, pm_k0_c, pm_k1_c, pm_k2_c, pm_k3_c, pm_s1_c, pm_s2_c, pm_s3_c, pm_s4_c, pm_ri_c, pm_ra_c, pm_rn_c, pm_rk_i, pm_rk_z, pm_rk_a, pm_vk_i, pm_vk_z, pm_vk_a, pm_cti, pm_ctr, pm_ldi_z, pm_ldi_s, pm_lda_z, pm_lda_s, pm_cat_n, pm_cat_i, pm_cat_r, pm_cat_l, pm_obj, pm_arr, pm_opt, pm_ird, pm_aln, List.getElem?_cons_zero, List.getElem?_cons_succ, List.set_cons_zero, List.set_cons_succ, List.length_cons, List.length_nil, List.length_set, true_and, and_true, Nat.add_zero, Nat.zero_add, Nat.le_refl, Nat.reduceAdd, Nat.reduceLT, Nat.reduceLeDiff, Nat.zero_le, not_false_eq_true, not_true_eq_false, false_implies, implies_true, true_implies, Nat.zero_lt_succ, Nat.lt_add_one, to, show ¬ (1 : Int32) = 0 by decide, nI_1]
      rw [E1]
      exact ⟨Or.inr trivial, T1, f1⟩
    · obtain ⟨h1, E1, l1, f1, T1⟩ := T.uo tb ix ft
      simp only [c, Bool.false_eq_true, if_false]
      simp only [w_X9_takes_27, w_X9_takes_28, w_X9_takes_29, w_X9_takes_30, w_X9_takes_33, w_X9_takes_34, w_X9_takes_37, w_X9_takes_38, w_X9_takes_41, w_X9_takes_42, w_X9_takes_43, w_X9_takes_46, w_X9_takes_47, pm_1i_c, pm_2i_c, pm_1l_c, pm_2l_c, pm_1a_c, pm_ia_c, pm_iia_c, pm_va_c, pm_cp_c, pm_k0_c, pm_k1_c, pm_k2_c, pm_k3_c, pm_s1_c, pm_s2_c, pm_s3_c, pm_s4_c, pm_ri_c, pm_ra_c, pm_rn_c, pm_rk_i, pm_rk_z, pm_rk_a, pm_vk_i, pm_vk_z, pm_vk_a, pm_cti, pm_ctr, pm_ldi_z, pm_ldi_s, pm_lda_z, pm_lda_s, pm_cat_n, pm_cat_i, pm_cat_r, pm_cat_l, pm_obj, pm_arr, pm_opt, pm_ird, pm_aln, List.getElem?_cons_zero, List.getElem?_cons_succ, List.set_cons_zero, List.set_cons_succ, List.length_cons, List.length_nil, List.length_set, true_and, and_true, Nat.add_zero, Nat.zero_add, Nat.le_refl, Nat.reduceAdd, Nat.reduceLT, Nat.reduceLeDiff, Nat.zero_le, not_false_eq_true, not_true_eq_false, false_implies, implies_true, true_implies, Nat.zero_lt_succ, Nat.lt_add_one, to, Int32.add_zero]
      rw [E1]
      exact ⟨Or.inl trivial, T1, f1⟩
  simp only [w_X9_takes_0, w_X9_takes_1, pm_1i_c, pm_2i_c, pm_1l_c, pm_2l_c, pm_1a_c, pm_ia_c, pm_iia_c, pm_va_c, pm_cp_c, pm_k0_c, pm_k1_c, pm_k2_c, pm_k3_c, pm_s1_c, pm_s2_c, pm_s3_c, pm_s4_c, pm_ri_c, pm_ra_c, pm_rn_c, pm_rk_i, pm_rk_z, pm_rk_a, pm_vk_i, pm_vk_z, pm_vk_a, pm_cti, pm_ctr, pm_ldi_z, pm_ldi_s, pm_lda_z, pm_lda_s, pm_cat_n, pm_cat_i, pm_cat_r, pm_cat_l, pm_obj, pm_arr, pm_opt, pm_ird, pm_aln, List.getElem?_cons_zero, List.getElem?_cons_succ, List.set_cons_zero, List.set_cons_succ, List.length_cons, List.length_nil, List.length_set, true_and, and_true, Nat.add_zero, Nat.zero_add, Nat.le_refl, Nat.reduceAdd, Nat.reduceLT, Nat.reduceLeDiff, Nat.zero_le, not_false_eq_true, not_true_eq_false, false_implies, implies_true, true_implies, Nat.zero_lt_succ, Nat.lt_add_one, to]
  refine PM_use (c_T_failed T d) ?_
  rintro v h1 l1 ⟨rfl, rfl⟩
  by_cases c : ft = -1
  · subst c
    simp only [if_true]
    show W_X9_takes _ _ _ _ _ _ _ _ _
    simp only [w_X9_takes_4, w_X9_takes_7, w_X9_takes_8, w_X9_takes_11, w_X9_takes_12, w_X9_takes_15, pm_1i_c, pm_2i_c, pm_1l_c, pm_2l_c, pm_1a_c, pm_ia_c, pm_iia_c, pm_va_c, pm_cp_c, pm_k0_c, pm_k1_c, pm_k2_c, pm_k3_c, pm_s1_c, pm_s2_c, pm_s3_c, pm_s4_c, pm_ri_c, pm_ra_c, pm_rn_c, pm_rk_i, pm_rk_z, pm_rk_a, pm_vk_i, pm_vk_z, pm_vk_a, pm_cti, pm_ctr, pm_ldi_z, pm_ldi_s, pm_lda_z, pm_lda_s, pm_cat_n, pm_cat_i, pm_cat_r, pm_cat_l, pm_obj, pm_arr, pm_opt, pm_ird, pm_aln, List.getElem?_cons_zero, List.getElem?_cons_succ, List.set_cons_zero, List.set_cons_succ, List.length_cons, List.length_nil, List.length_set, true_and, and_true, Nat.add_zero, Nat.zero_add, Nat.le_refl, Nat.reduceAdd, Nat.reduceLT, Nat.reduceLeDiff, Nat.zero_le, not_false_eq_true, not_true_eq_false, false_implies, implies_true, true_implies, Nat.zero_lt_succ, Nat.lt_add_one, pm_tl_n, pm_tl_s, sc_uL, to, ko]
    refine PM_use (c_Row_get T.2.1 (nI ix) d) ?_
    rintro v h1 l1 ⟨rfl, rfl⟩
    rw [rw_getN (by omega)]
    show W_X9_takes _ _ _ _ _ _ _ _ _
    simp only [w_X9_takes_18, w_X9_takes_19, w_X9_takes_22, w_X9_takes_23, w_X9_takes_26, pm_1i_c, pm_2i_c, pm_1l_c, pm_2l_c, pm_1a_c, pm_ia_c, pm_iia_c, pm_va_c, pm_cp_c, pm_k0_c, pm_k1_c, pm_k2_c, pm_k3_c, pm_s1_c, pm_s2_c, pm_s3_c, pm_s4_c, pm_ri_c, pm_ra_c, pm_rn_c, pm_rk_i, pm_rk_z, pm_rk_a, pm_vk_i, pm_vk_z, pm_vk_a, pm_cti, pm_ctr, pm_ldi_z, pm_ldi_s, pm_lda_z, pm_lda_s, pm_cat_n, pm_cat_i, pm_cat_r, pm_cat_l, pm_obj, pm_arr, pm_opt, pm_ird, pm_aln, List.getElem?_cons_zero, List.getElem?_cons_succ, List.set_cons_zero, List.set_cons_succ, List.length_cons, List.length_nil, List.length_set, true_and, and_true, Nat.add_zero, Nat.zero_add, Nat.le_refl, Nat.reduceAdd, Nat.reduceLT, Nat.reduceLeDiff, Nat.zero_le, not_false_eq_true, not_true_eq_false, false_implies, implies_true, true_implies, Nat.zero_lt_succ, Nat.lt_add_one, pm_tl_n, pm_tl_s, sc_uL]
    refine ⟨fun c2 => ?_, fun c2 => ?_⟩
    · have e : taB t.1 k (ix, -1) = false := decide_eq_false (fun z => c2 z.2)
      rw [e] at fin ⊢
      exact fin
    · have e : taB t.1 k (ix, -1) = true := decide_eq_true ⟨rfl, c2⟩
      rw [e] at fin ⊢
      exact fin
  · have e : taB t.1 k (ix, ft) = false := decide_eq_false (fun z => c z.1)
    simp only [c, if_false]
    show W_X9_takes _ _ _ _ _ _ _ _ _
    simp only [w_X9_takes_4, w_X9_takes_26, pm_1i_c, pm_2i_c, pm_1l_c, pm_2l_c, pm_1a_c, pm_ia_c, pm_iia_c, pm_va_c, pm_cp_c, pm_k0_c, pm_k1_c, pm_k2_c, pm_k3_c, pm_s1_c, pm_s2_c, pm_s3_c, pm_s4_c, pm_ri_c, pm_ra_c, pm_rn_c, pm_rk_i, pm_rk_z, pm_rk_a, pm_vk_i, pm_vk_z, pm_vk_a, pm_cti, pm_ctr, pm_ldi_z, pm_ldi_s, pm_lda_z, pm_lda_s, pm_cat_n, pm_cat_i, pm_cat_r, pm_cat_l, pm_obj, pm_arr, pm_opt, pm_ird, pm_aln, List.getElem?_cons_zero, List.getElem?_cons_succ, List.set_cons_zero, List.set_cons_succ, List.length_cons, List.length_nil, List.length_set, true_and, and_true, Nat.add_zero, Nat.zero_add, Nat.le_refl, Nat.reduceAdd, Nat.reduceLT, Nat.reduceLeDiff, Nat.zero_le, not_false_eq_true, not_true_eq_false, false_implies, implies_true, true_implies, Nat.zero_lt_succ, Nat.lt_add_one, pm_tl_n, pm_tl_s, sc_uL, show ¬ (1 : Int32) = 0 by decide]
    rw [e] at fin ⊢
    exact fin
theorem c_T_need (T : tk_ h Tk t tb ix ft) (hx : ix ≤ 1000) (k : Int32) (d : Nat) : PM (d + 2) 107 [.ref Tk, .int k] h (fun v h' => v = none ∧ tk_ h' Tk t tb (neF t.1 k (ix, ft)).1 (neF t.1 k (ix, ft)).2 ∧ frT h h' Tk) := by
  have to := T.1
  have ko := T.2.1.o
  refine en_X9_need rfl rfl ?_
  have bad : taB t.1 k (ix, ft) = false → PM (d + 1) 110 [.ref Tk, .int (nI ix)] h (fun v h2 => V_X9_need (d + 1) (h.length + 0) 0 (fun v h' => v = none ∧ tk_ h' Tk t tb (neF t.1 k (ix, ft)).1 (neF t.1 k (ix, ft)).2 ∧ frT h h' Tk) 30 [some (.ref Tk), some (.int k)] (v.toList ++ []) h2 (0 + 0)) := by
    intro c
    refine PM_use (c_T_fail T (nI ix) d) ?_
    rintro v h1 l1 ⟨rfl, K1, K2⟩
    show W_X9_need _ _ _ _ _ _ _ _ _
    simp only [w_X9_need_30, w_X9_need_43, pm_1i_c, pm_2i_c, pm_1l_c, pm_2l_c, pm_1a_c, pm_ia_c, pm_iia_c, pm_va_c, pm_cp_c, pm_k0_c, pm_k1_c, pm_k2_c, pm_k3_c, pm_s1_c, pm_s2_c, pm_s3_c, pm_s4_c, pm_ri_c, pm_ra_c, pm_rn_c, pm_rk_i, pm_rk_z, pm_rk_a, pm_vk_i, pm_vk_z, pm_vk_a, pm_cti, pm_ctr, pm_ldi_z, pm_ldi_s, pm_lda_z, pm_lda_s, pm_cat_n, pm_cat_i, pm_cat_r, pm_cat_l, pm_obj, pm_arr, pm_opt, pm_ird, pm_aln, List.getElem?_cons_zero, List.getElem?_cons_succ, List.set_cons_zero, List.set_cons_succ, List.length_cons, List.length_nil, List.length_set, true_and, and_true, Nat.add_zero, Nat.zero_add, Nat.le_refl, Nat.reduceAdd, Nat.reduceLT, Nat.reduceLeDiff, Nat.zero_le, not_false_eq_true, not_true_eq_false, false_implies, implies_true, true_implies, Nat.zero_lt_succ, Nat.lt_add_one, pm_tl_n, pm_tl_s, sc_uL, l1]
    have e : neF t.1 k (ix, ft) = faF (nI ix) (ix, ft) := if_neg (by rw [c]; decide)
    rw [e]
    exact ⟨K1, K2⟩
  simp only [w_X9_need_0, w_X9_need_1, pm_1i_c, pm_2i_c, pm_1l_c, pm_2l_c, pm_1a_c, pm_ia_c, pm_iia_c, pm_va_c, pm_cp_c, pm_k0_c, pm_k1_c, pm_k2_c, pm_k3_c, pm_s1_c, pm_s2_c, pm_s3_c, pm_s4_c, pm_ri_c, pm_ra_c, pm_rn_c, pm_rk_i, pm_rk_z, pm_rk_a, pm_vk_i, pm_vk_z, pm_vk_a, pm_cti, pm_ctr, pm_ldi_z, pm_ldi_s, pm_lda_z, pm_lda_s, pm_cat_n, pm_cat_i, pm_cat_r, pm_cat_l, pm_obj, pm_arr, pm_opt, pm_ird, pm_aln, List.getElem?_cons_zero, List.getElem?_cons_succ, List.set_cons_zero, List.set_cons_succ, List.length_cons, List.length_nil, List.length_set, true_and, and_true, Nat.add_zero, Nat.zero_add, Nat.le_refl, Nat.reduceAdd, Nat.reduceLT, Nat.reduceLeDiff, Nat.zero_le, not_false_eq_true, not_true_eq_false, false_implies, implies_true, true_implies, Nat.zero_lt_succ, Nat.lt_add_one, to]
  refine PM_use (c_T_failed T d) ?_
  rintro v h1 l1 ⟨rfl, rfl⟩
  by_cases c : ft = -1
  · subst c
    simp only [if_true]
    show W_X9_need _ _ _ _ _ _ _ _ _
    simp only [w_X9_need_4, w_X9_need_7, w_X9_need_8, w_X9_need_11, w_X9_need_12, w_X9_need_15, pm_1i_c, pm_2i_c, pm_1l_c, pm_2l_c, pm_1a_c, pm_ia_c, pm_iia_c, pm_va_c, pm_cp_c, pm_k0_c, pm_k1_c, pm_k2_c, pm_k3_c, pm_s1_c, pm_s2_c, pm_s3_c, pm_s4_c, pm_ri_c, pm_ra_c, pm_rn_c, pm_rk_i, pm_rk_z, pm_rk_a, pm_vk_i, pm_vk_z, pm_vk_a, pm_cti, pm_ctr, pm_ldi_z, pm_ldi_s, pm_lda_z, pm_lda_s, pm_cat_n, pm_cat_i, pm_cat_r, pm_cat_l, pm_obj, pm_arr, pm_opt, pm_ird, pm_aln, List.getElem?_cons_zero, List.getElem?_cons_succ, List.set_cons_zero, List.set_cons_succ, List.length_cons, List.length_nil, List.length_set, true_and, and_true, Nat.add_zero, Nat.zero_add, Nat.le_refl, Nat.reduceAdd, Nat.reduceLT, Nat.reduceLeDiff, Nat.zero_le, not_false_eq_true, not_true_eq_false, false_implies, implies_true, true_implies, Nat.zero_lt_succ, Nat.lt_add_one, pm_tl_n, pm_tl_s, sc_uL, to, ko]
    refine PM_use (c_Row_get T.2.1 (nI ix) d) ?_
    rintro v h1 l1 ⟨rfl, rfl⟩
    rw [rw_getN (by omega)]
    show W_X9_need _ _ _ _ _ _ _ _ _
    simp only [w_X9_need_18, w_X9_need_19, w_X9_need_22, w_X9_need_23, w_X9_need_24, w_X9_need_27, w_X9_need_30, w_X9_need_33, w_X9_need_34, w_X9_need_35, w_X9_need_38, w_X9_need_39, w_X9_need_40, pm_1i_c, pm_2i_c, pm_1l_c, pm_2l_c, pm_1a_c, pm_ia_c, pm_iia_c, pm_va_c, pm_cp_c, pm_k0_c, pm_k1_c, pm_k2_c, pm_k3_c, pm_s1_c, pm_s2_c, pm_s3_c, pm_s4_c, pm_ri_c, pm_ra_c, pm_rn_c, pm_rk_i, pm_rk_z, pm_rk_a, pm_vk_i, pm_vk_z, pm_vk_a, pm_cti, pm_ctr, pm_ldi_z, pm_ldi_s, pm_lda_z, pm_lda_s, pm_cat_n, pm_cat_i, pm_cat_r, pm_cat_l, pm_obj, pm_arr, pm_opt, pm_ird, pm_aln, List.getElem?_cons_zero, List.getElem?_cons_succ, List.set_cons_zero, List.set_cons_succ, List.length_cons, List.length_nil, List.length_set, true_and, and_true, Nat.add_zero, Nat.zero_add, Nat.le_refl, Nat.reduceAdd, Nat.reduceLT, Nat.reduceLeDiff, Nat.zero_le, not_false_eq_true, not_true_eq_false, false_implies, implies_true, true_implies, Nat.zero_lt_succ, Nat.lt_add_one, pm_tl_n, pm_tl_s, sc_uL, to, nI_1]
    refine ⟨fun c2 => ?_, fun c2 => ?_⟩
    · have e : taB t.1 k (ix, -1) = true := decide_eq_true ⟨rfl, c2⟩
      have e2 : neF t.1 k (ix, -1) = (ix + 1, -1) := if_pos e
      rw [e2]
      obtain ⟨h1, E1, l1, f1, T1⟩ := T.uo tb (ix + 1) (-1)
      rw [E1]
      simp only [w_X9_need_43, pm_1i_c, pm_2i_c, pm_1l_c, pm_2l_c, pm_1a_c, pm_ia_c, pm_iia_c, pm_va_c, pm_cp_c, pm_k0_c, pm_k1_c, pm_k2_c, pm_k3_c, pm_s1_c, pm_s2_c, pm_s3_c, pm_s4_c, pm_ri_c, pm_ra_c, pm_rn_c, pm_rk_i, pm_rk_z, pm_rk_a, pm_vk_i, pm_vk_z, pm_vk_a, pm_cti, pm_ctr, pm_ldi_z, pm_ldi_s, pm_lda_z, pm_lda_s, pm_cat_n, pm_cat_i, pm_cat_r, pm_cat_l, pm_obj, pm_arr, pm_opt, pm_ird, pm_aln, List.getElem?_cons_zero, List.getElem?_cons_succ, List.set_cons_zero, List.set_cons_succ, List.length_cons, List.length_nil, List.length_set, true_and, and_true, Nat.add_zero, Nat.zero_add, Nat.le_refl, Nat.reduceAdd, Nat.reduceLT, Nat.reduceLeDiff, Nat.zero_le, not_false_eq_true, not_true_eq_false, false_implies, implies_true, true_implies, Nat.zero_lt_succ, Nat.lt_add_one, l1]
      exact ⟨T1, f1⟩
    · exact bad (decide_eq_false (fun z => c2 z.2))
  · simp only [c, if_false]
    show W_X9_need _ _ _ _ _ _ _ _ _
    simp only [w_X9_need_4, w_X9_need_22, w_X9_need_23, w_X9_need_24, w_X9_need_27, pm_1i_c, pm_2i_c, pm_1l_c, pm_2l_c, pm_1a_c, pm_ia_c, pm_iia_c, pm_va_c, pm_cp_c, pm_k0_c, pm_k1_c, pm_k2_c, pm_k3_c, pm_s1_c, pm_s2_c, pm_s3_c, pm_s4_c, pm_ri_c, pm_ra_c, pm_rn_c, pm_rk_i, pm_rk_z, pm_rk_a, pm_vk_i, pm_vk_z, pm_vk_a, pm_cti, pm_ctr, pm_ldi_z, pm_ldi_s, pm_lda_z, pm_lda_s, pm_cat_n, pm_cat_i, pm_cat_r, pm_cat_l, pm_obj, pm_arr, pm_opt, pm_ird, pm_aln, List.getElem?_cons_zero, List.getElem?_cons_succ, List.set_cons_zero, List.set_cons_succ, List.length_cons, List.length_nil, List.length_set, true_and, and_true, Nat.add_zero, Nat.zero_add, Nat.le_refl, Nat.reduceAdd, Nat.reduceLT, Nat.reduceLeDiff, Nat.zero_le, not_false_eq_true, not_true_eq_false, false_implies, implies_true, true_implies, Nat.zero_lt_succ, Nat.lt_add_one, pm_tl_n, pm_tl_s, sc_uL, show ¬ (1 : Int32) = 0 by decide, to]
    exact bad (decide_eq_false (fun z => c z.1))
theorem c_T_needNumber (T : tk_ h Tk t tb ix ft) (hx : ix ≤ 1000) (d : Nat) : PM (d + 2) 108 [.ref Tk] h (fun v h' => v = some (.int (nnV t.1 t.2.2 (ix, ft))) ∧ tk_ h' Tk t tb (neF t.1 267 (ix, ft)).1 (neF t.1 267 (ix, ft)).2 ∧ frT h h' Tk) := by
  have to := T.1
  have ko := T.2.1.o
  refine en_X9_needNumber rfl ?_
  have bad : taB t.1 267 (ix, ft) = false → PM (d + 1) 110 [.ref Tk, .int (nI ix)] h (fun v h2 => V_X9_needNumber (d + 1) (h.length + 0) 0 (fun v h' => v = some (.int (nnV t.1 t.2.2 (ix, ft))) ∧ tk_ h' Tk t tb (neF t.1 267 (ix, ft)).1 (neF t.1 267 (ix, ft)).2 ∧ frT h h' Tk) 32 [some (.ref Tk)] (v.toList ++ []) h2 (0 + 0)) := by
    intro c
    refine PM_use (c_T_fail T (nI ix) d) ?_
    rintro v h1 l1 ⟨rfl, K1, K2⟩
    show W_X9_needNumber _ _ _ _ _ _ _ _ _
    simp only [w_X9_needNumber_32, w_X9_needNumber_33, pm_1i_c, pm_2i_c, pm_1l_c, pm_2l_c, pm_1a_c, pm_ia_c, pm_iia_c, pm_va_c, pm_cp_c, pm_k0_c, pm_k1_c, pm_k2_c, pm_k3_c, pm_s1_c, pm_s2_c, pm_s3_c, pm_s4_c, pm_ri_c, pm_ra_c, pm_rn_c, pm_rk_i, pm_rk_z, pm_rk_a, pm_vk_i, pm_vk_z, pm_vk_a, pm_cti, pm_ctr, pm_ldi_z, pm_ldi_s, pm_lda_z, pm_lda_s, pm_cat_n, pm_cat_i, pm_cat_r, pm_cat_l, pm_obj, pm_arr, pm_opt, pm_ird, pm_aln, List.getElem?_cons_zero, List.getElem?_cons_succ, List.set_cons_zero, List.set_cons_succ, List.length_cons, List.length_nil, List.length_set, true_and, and_true, Nat.add_zero, Nat.zero_add, Nat.le_refl, Nat.reduceAdd, Nat.reduceLT, Nat.reduceLeDiff, Nat.zero_le, not_false_eq_true, not_true_eq_false, false_implies, implies_true, true_implies, Nat.zero_lt_succ, Nat.lt_add_one, pm_tl_n, pm_tl_s, sc_uL, l1]
    have e : neF t.1 267 (ix, ft) = faF (nI ix) (ix, ft) := if_neg (by rw [c]; decide)
    have e2 : nnV t.1 t.2.2 (ix, ft) = 0 := if_neg (by rw [c]; decide)
    rw [e, e2]
    exact ⟨rfl, K1, K2⟩
  simp only [w_X9_needNumber_0, w_X9_needNumber_1, pm_1i_c, pm_2i_c, pm_1l_c, pm_2l_c, pm_1a_c, pm_ia_c, pm_iia_c, pm_va_c, pm_cp_c, pm_k0_c, pm_k1_c, pm_k2_c, pm_k3_c, pm_s1_c, pm_s2_c, pm_s3_c, pm_s4_c, pm_ri_c, pm_ra_c, pm_rn_c, pm_rk_i, pm_rk_z, pm_rk_a, pm_vk_i, pm_vk_z, pm_vk_a, pm_cti, pm_ctr, pm_ldi_z, pm_ldi_s, pm_lda_z, pm_lda_s, pm_cat_n, pm_cat_i, pm_cat_r, pm_cat_l, pm_obj, pm_arr, pm_opt, pm_ird, pm_aln, List.getElem?_cons_zero, List.getElem?_cons_succ, List.set_cons_zero, List.set_cons_succ, List.length_cons, List.length_nil, List.length_set, true_and, and_true, Nat.add_zero, Nat.zero_add, Nat.le_refl, Nat.reduceAdd, Nat.reduceLT, Nat.reduceLeDiff, Nat.zero_le, not_false_eq_true, not_true_eq_false, false_implies, implies_true, true_implies, Nat.zero_lt_succ, Nat.lt_add_one, to]
  refine PM_use (c_T_failed T d) ?_
  rintro v h1 l1 ⟨rfl, rfl⟩
  by_cases c : ft = -1
  · subst c
    simp only [if_true]
    show W_X9_needNumber _ _ _ _ _ _ _ _ _
    simp only [w_X9_needNumber_4, w_X9_needNumber_7, w_X9_needNumber_8, w_X9_needNumber_11, w_X9_needNumber_12, w_X9_needNumber_15, pm_1i_c, pm_2i_c, pm_1l_c, pm_2l_c, pm_1a_c, pm_ia_c, pm_iia_c, pm_va_c, pm_cp_c, pm_k0_c, pm_k1_c, pm_k2_c, pm_k3_c, pm_s1_c, pm_s2_c, pm_s3_c, pm_s4_c, pm_ri_c, pm_ra_c, pm_rn_c, pm_rk_i, pm_rk_z, pm_rk_a, pm_vk_i, pm_vk_z, pm_vk_a, pm_cti, pm_ctr, pm_ldi_z, pm_ldi_s, pm_lda_z, pm_lda_s, pm_cat_n, pm_cat_i, pm_cat_r, pm_cat_l, pm_obj, pm_arr, pm_opt, pm_ird, pm_aln, List.getElem?_cons_zero, List.getElem?_cons_succ, List.set_cons_zero, List.set_cons_succ, List.length_cons, List.length_nil, List.length_set, true_and, and_true, Nat.add_zero, Nat.zero_add, Nat.le_refl, Nat.reduceAdd, Nat.reduceLT, Nat.reduceLeDiff, Nat.zero_le, not_false_eq_true, not_true_eq_false, false_implies, implies_true, true_implies, Nat.zero_lt_succ, Nat.lt_add_one, pm_tl_n, pm_tl_s, sc_uL, to, ko]
    refine PM_use (c_Row_get T.2.1 (nI ix) d) ?_
    rintro v h1 l1 ⟨rfl, rfl⟩
    rw [rw_getN (by omega)]
    show W_X9_needNumber _ _ _ _ _ _ _ _ _
    simp only [w_X9_needNumber_18, w_X9_needNumber_21, w_X9_needNumber_24, w_X9_needNumber_25, w_X9_needNumber_26, w_X9_needNumber_29, w_X9_needNumber_32, w_X9_needNumber_33, w_X9_needNumber_34, w_X9_needNumber_35, w_X9_needNumber_36, w_X9_needNumber_39, w_X9_needNumber_40, w_X9_needNumber_41, pm_1i_c, pm_2i_c, pm_1l_c, pm_2l_c, pm_1a_c, pm_ia_c, pm_iia_c, pm_va_c, pm_cp_c, pm_k0_c, pm_k1_c, pm_k2_c, pm_k3_c, pm_s1_c, pm_s2_c, pm_s3_c, pm_s4_c, pm_ri_c, pm_ra_c, pm_rn_c, pm_rk_i, pm_rk_z, pm_rk_a, pm_vk_i, pm_vk_z, pm_vk_a, pm_cti, pm_ctr, pm_ldi_z, pm_ldi_s, pm_lda_z, pm_lda_s, pm_cat_n, pm_cat_i, pm_cat_r, pm_cat_l, pm_obj, pm_arr, pm_opt, pm_ird, pm_aln, List.getElem?_cons_zero, List.getElem?_cons_succ, List.set_cons_zero, List.set_cons_succ, List.length_cons, List.length_nil, List.length_set, true_and, and_true, Nat.add_zero, Nat.zero_add, Nat.le_refl, Nat.reduceAdd, Nat.reduceLT, Nat.reduceLeDiff, Nat.zero_le, not_false_eq_true, not_true_eq_false, false_implies, implies_true, true_implies, Nat.zero_lt_succ, Nat.lt_add_one, pm_tl_n, pm_tl_s, sc_uL, to, nI_1]
    refine ⟨fun c2 => ?_, fun c2 => ?_⟩
    · have e : taB t.1 267 (ix, -1) = true := decide_eq_true ⟨rfl, c2⟩
      have e2 : neF t.1 267 (ix, -1) = (ix + 1, -1) := if_pos e
      have e3 : nnV t.1 t.2.2 (ix, -1) = t.2.2.getD ix (-1) := if_pos e
      rw [e2, e3]
      obtain ⟨h1, E1, l1, f1, T1⟩ := T.uo tb (ix + 1) (-1)
      rw [E1]
      have to1 := T1.1
      have no1 := T1.2.2.2.o
      simp only [w_X9_needNumber_44, w_X9_needNumber_45, w_X9_needNumber_48, w_X9_needNumber_49, w_X9_needNumber_52, w_X9_needNumber_53, w_X9_needNumber_54, pm_1i_c, pm_2i_c, pm_1l_c, pm_2l_c, pm_1a_c, pm_ia_c, pm_iia_c, pm_va_c, pm_cp_c, pm_k0_c, pm_k1_c, pm_k2_c, pm_k3_c, pm_s1_c, pm_s2_c, pm_s3_c, pm_s4_c, pm_ri_c, pm_ra_c, pm_rn_c, pm_rk_i, pm_rk_z, pm_rk_a, pm_vk_i, pm_vk_z, pm_vk_a, pm_cti, pm_ctr, pm_ldi_z, pm_ldi_s, pm_lda_z, pm_lda_s, pm_cat_n, pm_cat_i, pm_cat_r, pm_cat_l, pm_obj, pm_arr, pm_opt, pm_ird, pm_aln, List.getElem?_cons_zero, List.getElem?_cons_succ, List.set_cons_zero, List.set_cons_succ, List.length_cons, List.length_nil, List.length_set, true_and, and_true, Nat.add_zero, Nat.zero_add, Nat.le_refl, Nat.reduceAdd, Nat.reduceLT, Nat.reduceLeDiff, Nat.zero_le, not_false_eq_true, not_true_eq_false, false_implies, implies_true, true_implies, Nat.zero_lt_succ, Nat.lt_add_one, l1, to1, no1, nI_pred]
      refine PM_use (c_Row_get T1.2.2.2 (nI ix) d) ?_
      rintro v h2 l2 ⟨rfl, rfl⟩
      rw [rw_getN (by omega)]
      show W_X9_needNumber _ _ _ _ _ _ _ _ _
      simp only [w_X9_needNumber_57, pm_1i_c, pm_2i_c, pm_1l_c, pm_2l_c, pm_1a_c, pm_ia_c, pm_iia_c, pm_va_c, pm_cp_c, pm_k0_c, pm_k1_c, pm_k2_c, pm_k3_c, pm_s1_c, pm_s2_c, pm_s3_c, pm_s4_c, pm_ri_c, pm_ra_c, pm_rn_c, pm_rk_i, pm_rk_z, pm_rk_a, pm_vk_i, pm_vk_z, pm_vk_a, pm_cti, pm_ctr, pm_ldi_z, pm_ldi_s, pm_lda_z, pm_lda_s, pm_cat_n, pm_cat_i, pm_cat_r, pm_cat_l, pm_obj, pm_arr, pm_opt, pm_ird, pm_aln, List.getElem?_cons_zero, List.getElem?_cons_succ, List.set_cons_zero, List.set_cons_succ, List.length_cons, List.length_nil, List.length_set, true_and, and_true, Nat.add_zero, Nat.zero_add, Nat.le_refl, Nat.reduceAdd, Nat.reduceLT, Nat.reduceLeDiff, Nat.zero_le, not_false_eq_true, not_true_eq_false, false_implies, implies_true, true_implies, Nat.zero_lt_succ, Nat.lt_add_one, pm_tl_n, pm_tl_s, sc_uL, l1]
      exact ⟨T1, f1⟩
    · exact bad (decide_eq_false (fun z => c2 z.2))
  · simp only [c, if_false]
    show W_X9_needNumber _ _ _ _ _ _ _ _ _
    simp only [w_X9_needNumber_4, w_X9_needNumber_24, w_X9_needNumber_25, w_X9_needNumber_26, w_X9_needNumber_29, pm_1i_c, pm_2i_c, pm_1l_c, pm_2l_c, pm_1a_c, pm_ia_c, pm_iia_c, pm_va_c, pm_cp_c, pm_k0_c, pm_k1_c, pm_k2_c, pm_k3_c, pm_s1_c, pm_s2_c, pm_s3_c, pm_s4_c, pm_ri_c, pm_ra_c, pm_rn_c, pm_rk_i, pm_rk_z, pm_rk_a, pm_vk_i, pm_vk_z, pm_vk_a, pm_cti, pm_ctr, pm_ldi_z, pm_ldi_s, pm_lda_z, pm_lda_s, pm_cat_n, pm_cat_i, pm_cat_r, pm_cat_l, pm_obj, pm_arr, pm_opt, pm_ird, pm_aln, List.getElem?_cons_zero, List.getElem?_cons_succ, List.set_cons_zero, List.set_cons_succ, List.length_cons, List.length_nil, List.length_set, true_and, and_true, Nat.add_zero, Nat.zero_add, Nat.le_refl, Nat.reduceAdd, Nat.reduceLT, Nat.reduceLeDiff, Nat.zero_le, not_false_eq_true, not_true_eq_false, false_implies, implies_true, true_implies, Nat.zero_lt_succ, Nat.lt_add_one, pm_tl_n, pm_tl_s, sc_uL, show ¬ (1 : Int32) = 0 by decide, to]
    exact bad (decide_eq_false (fun z => c z.1))
theorem c_T_faultByte (T : tk_ h Tk t tb ix ft) (d : Nat) : PM (d + 2) 111 [.ref Tk] h (fun v h' => v = some (.int (fbF t.2.1 tb ft)) ∧ h' = h) := by
  have to := T.1
  have so := T.2.2.1.o
  refine en_X9_faultByte rfl ?_
  simp only [w_X9_faultByte_0, w_X9_faultByte_1, w_X9_faultByte_4, w_X9_faultByte_5, w_X9_faultByte_8, pm_1i_c, pm_2i_c, pm_1l_c, pm_2l_c, pm_1a_c, pm_ia_c, pm_iia_c, pm_va_c, pm_cp_c, pm_k0_c, pm_k1_c, pm_k2_c, pm_k3_c, pm_s1_c, pm_s2_c, pm_s3_c, pm_s4_c, pm_ri_c, pm_ra_c, pm_rn_c, pm_rk_i, pm_rk_z, pm_rk_a, pm_vk_i, pm_vk_z, pm_vk_a, pm_cti, pm_ctr, pm_ldi_z, pm_ldi_s, pm_lda_z, pm_lda_s, pm_cat_n, pm_cat_i, pm_cat_r, pm_cat_l, pm_obj, pm_arr, pm_opt, pm_ird, pm_aln, List.getElem?_cons_zero, List.getElem?_cons_succ, List.set_cons_zero, List.set_cons_succ, List.length_cons, List.length_nil, List.length_set, true_and, and_true, Nat.add_zero, Nat.zero_add, Nat.le_refl, Nat.reduceAdd, Nat.reduceLT, Nat.reduceLeDiff, Nat.zero_le, not_false_eq_true, not_true_eq_false, false_implies, implies_true, true_implies, Nat.zero_lt_succ, Nat.lt_add_one, to, so]
  refine PM_use (c_Row_size T.2.2.1 d) ?_
  rintro v h1 l1 ⟨rfl, rfl⟩
  unfold fbF
  show W_X9_faultByte _ _ _ _ _ _ _ _ _
  simp only [w_X9_faultByte_11, w_X9_faultByte_14, w_X9_faultByte_15, w_X9_faultByte_18, w_X9_faultByte_19, w_X9_faultByte_22, w_X9_faultByte_25, w_X9_faultByte_28, w_X9_faultByte_29, w_X9_faultByte_32, pm_1i_c, pm_2i_c, pm_1l_c, pm_2l_c, pm_1a_c, pm_ia_c, pm_iia_c, pm_va_c, pm_cp_c, pm_k0_c, pm_k1_c, pm_k2_c, pm_k3_c, pm_s1_c, pm_s2_c, pm_s3_c, pm_s4_c, pm_ri_c, pm_ra_c, pm_rn_c, pm_rk_i, pm_rk_z, pm_rk_a, pm_vk_i, pm_vk_z, pm_vk_a, pm_cti, pm_ctr, pm_ldi_z, pm_ldi_s, pm_lda_z, pm_lda_s, pm_cat_n, pm_cat_i, pm_cat_r, pm_cat_l, pm_obj, pm_arr, pm_opt, pm_ird, pm_aln, List.getElem?_cons_zero, List.getElem?_cons_succ, List.set_cons_zero, List.set_cons_succ, List.length_cons, List.length_nil, List.length_set, true_and, and_true, Nat.add_zero, Nat.zero_add, Nat.le_refl, Nat.reduceAdd, Nat.reduceLT, Nat.reduceLeDiff, Nat.zero_le, not_false_eq_true, not_true_eq_false, false_implies, implies_true, true_implies, Nat.zero_lt_succ, Nat.lt_add_one, pm_tl_n, pm_tl_s, sc_uL, to, so]
  refine ⟨fun c => by rw [if_neg c], fun c => ?_⟩
  rw [if_pos c]
  refine PM_use (c_Row_get T.2.2.1 ft d) ?_
  rintro v h1 l1 ⟨rfl, rfl⟩
  show W_X9_faultByte _ _ _ _ _ _ _ _ _
  simp only [w_X9_faultByte_25, w_X9_faultByte_28, w_X9_faultByte_29, w_X9_faultByte_32, pm_1i_c, pm_2i_c, pm_1l_c, pm_2l_c, pm_1a_c, pm_ia_c, pm_iia_c, pm_va_c, pm_cp_c, pm_k0_c, pm_k1_c, pm_k2_c, pm_k3_c, pm_s1_c, pm_s2_c, pm_s3_c, pm_s4_c, pm_ri_c, pm_ra_c, pm_rn_c, pm_rk_i, pm_rk_z, pm_rk_a, pm_vk_i, pm_vk_z, pm_vk_a, pm_cti, pm_ctr, pm_ldi_z, pm_ldi_s, pm_lda_z, pm_lda_s, pm_cat_n, pm_cat_i, pm_cat_r, pm_cat_l, pm_obj, pm_arr, pm_opt, pm_ird, pm_aln, List.getElem?_cons_zero, List.getElem?_cons_succ, List.set_cons_zero, List.set_cons_succ, List.length_cons, List.length_nil, List.length_set, true_and, and_true, Nat.add_zero, Nat.zero_add, Nat.le_refl, Nat.reduceAdd, Nat.reduceLT, Nat.reduceLeDiff, Nat.zero_le, not_false_eq_true, not_true_eq_false, false_implies, implies_true, true_implies, Nat.zero_lt_succ, Nat.lt_add_one, pm_tl_n, pm_tl_s, sc_uL]
theorem c_T_cutUp (T : tk_ h Tk t tb ix ft) (R : rw_ h P 400 bs) (nd : P + 1 < Tk ∨ Tk + 6 < P) (dm : Int32) (d : Nat) : PM (d + 5) 96 [.ref Tk, .ref P, .int dm] h (fun v h' => v = none ∧ tk_ h' Tk (cuF bs dm) (nI bs.length) 0 (-1) ∧ frT h h' Tk) := by
  refine en_X9_cutUp rfl rfl rfl ?_
  have len := R.le
  have loop : ∀ f n k t1, 400 - n = f → n ≤ 400 → n ≤ k → k ≤ bs.length → ∀ (hh : pmH), tk_ hh Tk t1 (nI bs.length) 0 (-1) → t1.1.length ≤ k → t1.2.1.length ≤ k → t1.2.2.length ≤ k → cuG bs dm f k t1 = cuF bs dm → hh.length = h.length → frT h hh Tk → W_X9_cutUp (d + 4) (h.length + 0) 0 (fun v h' => v = none ∧ tk_ h' Tk (cuF bs dm) (nI bs.length) 0 (-1) ∧ frT h h' Tk) 47 [some (.ref Tk), some (.ref P), some (.int dm), some (.int (nI k)), some (.int (nI n))] [] hh 0 := by
    intro f
    induction f with
    | zero =>
      intro n k t1 hn hn2 hnk hk hh T1 c1 c2 c3 e q1 q2
      have e1 : ¬ nI n < 400 := nI_nlt (b := 400) (by omega) (by omega)
      rw [w_X9_cutUp_47]
      simp only [w_X9_cutUp_49, w_X9_cutUp_52, w_X9_cutUp_55, w_X9_cutUp_56, w_X9_cutUp_57, w_X9_cutUp_60, w_X9_cutUp_63, w_X9_cutUp_64, w_X9_cutUp_65, w_X9_cutUp_66, w_X9_cutUp_67, w_X9_cutUp_70, w_X9_cutUp_71, w_X9_cutUp_74, w_X9_cutUp_77, pm_1i_c, pm_2i_c, pm_1l_c, pm_2l_c, pm_1a_c, pm_ia_c, pm_iia_c, pm_va_c, pm_cp_c, pm_k0_c, pm_k1_c, pm_k2_c, pm_k3_c, pm_s1_c, pm_s2_c, pm_s3_c, pm_s4_c, pm_ri_c, pm_ra_c, pm_rn_c, pm_rk_i, pm_rk_z, pm_rk_a, pm_vk_i, pm_vk_z, pm_vk_a, pm_cti, pm_ctr, pm_ldi_z, pm_ldi_s, pm_lda_z, pm_lda_s, pm_cat_n, pm_cat_i, pm_cat_r, pm_cat_l, pm_obj, pm_arr, pm_opt, pm_ird, pm_aln, List.getElem?_cons_zero, List.getElem?_cons_succ, List.set_cons_zero, List.set_cons_succ, List.length_cons, List.length_nil, List.length_set, true_and, and_true, Nat.add_zero, Nat.zero_add, Nat.le_refl, Nat.reduceAdd, Nat.reduceLT, Nat.reduceLeDiff, Nat.zero_le, not_false_eq_true, not_true_eq_false, false_implies, implies_true, true_implies, Nat.zero_lt_succ, Nat.lt_add_one, e1, q1]
      rw [← e]
      exact ⟨T1, q2⟩
    | succ f ih =>
      intro n k t1 hn hn2 hnk hk hh T1 c1 c2 c3 e q1 q2
      have e1 : nI n < 400 := nI_lt (b := 400) (by omega) (by omega)
      have to := T1.1
      rw [cuG_s] at e
      rw [w_X9_cutUp_47]
      by_cases c : k < bs.length
      · have e2 : nI k < nI bs.length := nI_lt c (by omega)
        rw [if_pos c] at e
        have R1 : rw_ hh P 400 bs := R.kept (q2 _ (by omega)) (q2 _ (by omega))
        simp only [w_X9_cutUp_49, w_X9_cutUp_52, w_X9_cutUp_55, w_X9_cutUp_56, w_X9_cutUp_57, w_X9_cutUp_60, w_X9_cutUp_63, w_X9_cutUp_64, w_X9_cutUp_65, w_X9_cutUp_66, w_X9_cutUp_67, w_X9_cutUp_70, w_X9_cutUp_71, w_X9_cutUp_74, w_X9_cutUp_77, pm_1i_c, pm_2i_c, pm_1l_c, pm_2l_c, pm_1a_c, pm_ia_c, pm_iia_c, pm_va_c, pm_cp_c, pm_k0_c, pm_k1_c, pm_k2_c, pm_k3_c, pm_s1_c, pm_s2_c, pm_s3_c, pm_s4_c, pm_ri_c, pm_ra_c, pm_rn_c, pm_rk_i, pm_rk_z, pm_rk_a, pm_vk_i, pm_vk_z, pm_vk_a, pm_cti, pm_ctr, pm_ldi_z, pm_ldi_s, pm_lda_z, pm_lda_s, pm_cat_n, pm_cat_i, pm_cat_r, pm_cat_l, pm_obj, pm_arr, pm_opt, pm_ird, pm_aln, List.getElem?_cons_zero, List.getElem?_cons_succ, List.set_cons_zero, List.set_cons_succ, List.length_cons, List.length_nil, List.length_set, true_and, and_true, Nat.add_zero, Nat.zero_add, Nat.le_refl, Nat.reduceAdd, Nat.reduceLT, Nat.reduceLeDiff, Nat.zero_le, not_false_eq_true, not_true_eq_false, false_implies, implies_true, true_implies, Nat.zero_lt_succ, Nat.lt_add_one, e1, e2, to, q1]
        refine PM_use (c_T_cutOne T1 R1 nd c c1 c2 c3 dm d) ?_
        rintro v h1 l1 ⟨rfl, K1, K2⟩
        show W_X9_cutUp _ _ _ _ _ _ _ _ _
        simp only [w_X9_cutUp_70, w_X9_cutUp_71, w_X9_cutUp_74, pm_1i_c, pm_2i_c, pm_1l_c, pm_2l_c, pm_1a_c, pm_ia_c, pm_iia_c, pm_va_c, pm_cp_c, pm_k0_c, pm_k1_c, pm_k2_c, pm_k3_c, pm_s1_c, pm_s2_c, pm_s3_c, pm_s4_c, pm_ri_c, pm_ra_c, pm_rn_c, pm_rk_i, pm_rk_z, pm_rk_a, pm_vk_i, pm_vk_z, pm_vk_a, pm_cti, pm_ctr, pm_ldi_z, pm_ldi_s, pm_lda_z, pm_lda_s, pm_cat_n, pm_cat_i, pm_cat_r, pm_cat_l, pm_obj, pm_arr, pm_opt, pm_ird, pm_aln, List.getElem?_cons_zero, List.getElem?_cons_succ, List.set_cons_zero, List.set_cons_succ, List.length_cons, List.length_nil, List.length_set, true_and, and_true, Nat.add_zero, Nat.zero_add, Nat.le_refl, Nat.reduceAdd, Nat.reduceLT, Nat.reduceLeDiff, Nat.zero_le, not_false_eq_true, not_true_eq_false, false_implies, implies_true, true_implies, Nat.zero_lt_succ, Nat.lt_add_one, pm_tl_n, pm_tl_s, sc_uL, nI_1]
        have ci := coF_in (dm := dm) (t := t1) c
        obtain ⟨g1, g2, g3⟩ := coF_len (t := t1) dm c c1 c2 c3
        exact ih (n + 1) _ _ (by omega) (by omega) (by omega) ci.2 h1 K1 g1 g2 g3 e (by rw [l1, q1]; rfl) (q2.tr K2)
      · have e2 : ¬ nI k < nI bs.length := nI_nlt (by omega) (by omega)
        rw [if_neg c] at e
        simp only [w_X9_cutUp_49, w_X9_cutUp_52, w_X9_cutUp_55, w_X9_cutUp_56, w_X9_cutUp_57, w_X9_cutUp_60, w_X9_cutUp_63, w_X9_cutUp_64, w_X9_cutUp_65, w_X9_cutUp_66, w_X9_cutUp_67, w_X9_cutUp_70, w_X9_cutUp_71, w_X9_cutUp_74, w_X9_cutUp_77, pm_1i_c, pm_2i_c, pm_1l_c, pm_2l_c, pm_1a_c, pm_ia_c, pm_iia_c, pm_va_c, pm_cp_c, pm_k0_c, pm_k1_c, pm_k2_c, pm_k3_c, pm_s1_c, pm_s2_c, pm_s3_c, pm_s4_c, pm_ri_c, pm_ra_c, pm_rn_c, pm_rk_i, pm_rk_z, pm_rk_a, pm_vk_i, pm_vk_z, pm_vk_a, pm_cti, pm_ctr, pm_ldi_z, pm_ldi_s, pm_lda_z, pm_lda_s, pm_cat_n, pm_cat_i, pm_cat_r, pm_cat_l, pm_obj, pm_arr, pm_opt, pm_ird, pm_aln, List.getElem?_cons_zero, List.getElem?_cons_succ, List.set_cons_zero, List.set_cons_succ, List.length_cons, List.length_nil, List.length_set, true_and, and_true, Nat.add_zero, Nat.zero_add, Nat.le_refl, Nat.reduceAdd, Nat.reduceLT, Nat.reduceLeDiff, Nat.zero_le, not_false_eq_true, not_true_eq_false, false_implies, implies_true, true_implies, Nat.zero_lt_succ, Nat.lt_add_one, e1, e2, to, q1]
        rw [← e]
        exact ⟨T1, q2⟩
  have to := T.1
  have ko := T.2.1.o
  simp only [w_X9_cutUp_0, w_X9_cutUp_1, w_X9_cutUp_4, w_X9_cutUp_5, pm_1i_c, pm_2i_c, pm_1l_c, pm_2l_c, pm_1a_c, pm_ia_c, pm_iia_c, pm_va_c, pm_cp_c, pm_k0_c, pm_k1_c, pm_k2_c, pm_k3_c, pm_s1_c, pm_s2_c, pm_s3_c, pm_s4_c, pm_ri_c, pm_ra_c, pm_rn_c, pm_rk_i, pm_rk_z, pm_rk_a, pm_vk_i, pm_vk_z, pm_vk_a, pm_cti, pm_ctr, pm_ldi_z, pm_ldi_s, pm_lda_z, pm_lda_s, pm_cat_n, pm_cat_i, pm_cat_r, pm_cat_l, pm_obj, pm_arr, pm_opt, pm_ird, pm_aln, List.getElem?_cons_zero, List.getElem?_cons_succ, List.set_cons_zero, List.set_cons_succ, List.length_cons, List.length_nil, List.length_set, true_and, and_true, Nat.add_zero, Nat.zero_add, Nat.le_refl, Nat.reduceAdd, Nat.reduceLT, Nat.reduceLeDiff, Nat.zero_le, not_false_eq_true, not_true_eq_false, false_implies, implies_true, true_implies, Nat.zero_lt_succ, Nat.lt_add_one, to, ko]
  refine PM_use (c_Row_cut0 T.2.1 (d + 3)) ?_
  rintro v h1 l1 ⟨rfl, K1, K2⟩
  obtain ⟨T1, f1⟩ := T.uk K1 K2
  have to1 := T1.1
  have so1 := T1.2.2.1.o
  show W_X9_cutUp _ _ _ _ _ _ _ _ _
  simp only [w_X9_cutUp_8, w_X9_cutUp_9, w_X9_cutUp_12, w_X9_cutUp_13, pm_1i_c, pm_2i_c, pm_1l_c, pm_2l_c, pm_1a_c, pm_ia_c, pm_iia_c, pm_va_c, pm_cp_c, pm_k0_c, pm_k1_c, pm_k2_c, pm_k3_c, pm_s1_c, pm_s2_c, pm_s3_c, pm_s4_c, pm_ri_c, pm_ra_c, pm_rn_c, pm_rk_i, pm_rk_z, pm_rk_a, pm_vk_i, pm_vk_z, pm_vk_a, pm_cti, pm_ctr, pm_ldi_z, pm_ldi_s, pm_lda_z, pm_lda_s, pm_cat_n, pm_cat_i, pm_cat_r, pm_cat_l, pm_obj, pm_arr, pm_opt, pm_ird, pm_aln, List.getElem?_cons_zero, List.getElem?_cons_succ, List.set_cons_zero, List.set_cons_succ, List.length_cons, List.length_nil, List.length_set, true_and, and_true, Nat.add_zero, Nat.zero_add, Nat.le_refl, Nat.reduceAdd, Nat.reduceLT, Nat.reduceLeDiff, Nat.zero_le, not_false_eq_true, not_true_eq_false, false_implies, implies_true, true_implies, Nat.zero_lt_succ, Nat.lt_add_one, pm_tl_n, pm_tl_s, sc_uL, to1, so1, l1]
  refine PM_use (c_Row_cut0 T1.2.2.1 (d + 3)) ?_
  rintro v h2 l2 ⟨rfl, K3, K4⟩
  obtain ⟨T2, f2⟩ := T1.us K3 K4
  have to2 := T2.1
  have no2 := T2.2.2.2.o
  show W_X9_cutUp _ _ _ _ _ _ _ _ _
  simp only [w_X9_cutUp_16, w_X9_cutUp_17, w_X9_cutUp_20, w_X9_cutUp_21, pm_1i_c, pm_2i_c, pm_1l_c, pm_2l_c, pm_1a_c, pm_ia_c, pm_iia_c, pm_va_c, pm_cp_c, pm_k0_c, pm_k1_c, pm_k2_c, pm_k3_c, pm_s1_c, pm_s2_c, pm_s3_c, pm_s4_c, pm_ri_c, pm_ra_c, pm_rn_c, pm_rk_i, pm_rk_z, pm_rk_a, pm_vk_i, pm_vk_z, pm_vk_a, pm_cti, pm_ctr, pm_ldi_z, pm_ldi_s, pm_lda_z, pm_lda_s, pm_cat_n, pm_cat_i, pm_cat_r, pm_cat_l, pm_obj, pm_arr, pm_opt, pm_ird, pm_aln, List.getElem?_cons_zero, List.getElem?_cons_succ, List.set_cons_zero, List.set_cons_succ, List.length_cons, List.length_nil, List.length_set, true_and, and_true, Nat.add_zero, Nat.zero_add, Nat.le_refl, Nat.reduceAdd, Nat.reduceLT, Nat.reduceLeDiff, Nat.zero_le, not_false_eq_true, not_true_eq_false, false_implies, implies_true, true_implies, Nat.zero_lt_succ, Nat.lt_add_one, pm_tl_n, pm_tl_s, sc_uL, to2, no2, l2, l1]
  refine PM_use (c_Row_cut0 T2.2.2.2 (d + 3)) ?_
  rintro v h3 l3 ⟨rfl, K5, K6⟩
  obtain ⟨T3, f3⟩ := T2.un K5 K6
  have F3 := (f1.tr f2).tr f3
  have R3 : rw_ h3 P 400 bs := R.kept (F3 _ (by omega)) (F3 _ (by omega))
  have ro3 := R3.o
  have to3 := T3.1
  show W_X9_cutUp _ _ _ _ _ _ _ _ _
  simp only [w_X9_cutUp_24, w_X9_cutUp_25, w_X9_cutUp_26, pm_1i_c, pm_2i_c, pm_1l_c, pm_2l_c, pm_1a_c, pm_ia_c, pm_iia_c, pm_va_c, pm_cp_c, pm_k0_c, pm_k1_c, pm_k2_c, pm_k3_c, pm_s1_c, pm_s2_c, pm_s3_c, pm_s4_c, pm_ri_c, pm_ra_c, pm_rn_c, pm_rk_i, pm_rk_z, pm_rk_a, pm_vk_i, pm_vk_z, pm_vk_a, pm_cti, pm_ctr, pm_ldi_z, pm_ldi_s, pm_lda_z, pm_lda_s, pm_cat_n, pm_cat_i, pm_cat_r, pm_cat_l, pm_obj, pm_arr, pm_opt, pm_ird, pm_aln, List.getElem?_cons_zero, List.getElem?_cons_succ, List.set_cons_zero, List.set_cons_succ, List.length_cons, List.length_nil, List.length_set, true_and, and_true, Nat.add_zero, Nat.zero_add, Nat.le_refl, Nat.reduceAdd, Nat.reduceLT, Nat.reduceLeDiff, Nat.zero_le, not_false_eq_true, not_true_eq_false, false_implies, implies_true, true_implies, Nat.zero_lt_succ, Nat.lt_add_one, pm_tl_n, pm_tl_s, sc_uL, to3, ro3, l3, l2, l1]
  refine PM_use (c_Row_size R3 (d + 3)) ?_
  rintro v h4 l4 ⟨rfl, rfl⟩
  obtain ⟨h5, E5, l5, f5, T5⟩ := T3.uo (nI bs.length) 0 (-1)
  show W_X9_cutUp _ _ _ _ _ _ _ _ _
  simp only [w_X9_cutUp_29, w_X9_cutUp_32, w_X9_cutUp_33, w_X9_cutUp_34, w_X9_cutUp_37, w_X9_cutUp_38, w_X9_cutUp_39, w_X9_cutUp_42, w_X9_cutUp_43, w_X9_cutUp_44, w_X9_cutUp_45, pm_1i_c, pm_2i_c, pm_1l_c, pm_2l_c, pm_1a_c, pm_ia_c, pm_iia_c, pm_va_c, pm_cp_c, pm_k0_c, pm_k1_c, pm_k2_c, pm_k3_c, pm_s1_c, pm_s2_c, pm_s3_c, pm_s4_c, pm_ri_c, pm_ra_c, pm_rn_c, pm_rk_i, pm_rk_z, pm_rk_a, pm_vk_i, pm_vk_z, pm_vk_a, pm_cti, pm_ctr, pm_ldi_z, pm_ldi_s, pm_lda_z, pm_lda_s, pm_cat_n, pm_cat_i, pm_cat_r, pm_cat_l, pm_obj, pm_arr, pm_opt, pm_ird, pm_aln, List.getElem?_cons_zero, List.getElem?_cons_succ, List.set_cons_zero, List.set_cons_succ, List.length_cons, List.length_nil, List.length_set, true_and, and_true, Nat.add_zero, Nat.zero_add, Nat.le_refl, Nat.reduceAdd, Nat.reduceLT, Nat.reduceLeDiff, Nat.zero_le, not_false_eq_true, not_true_eq_false, false_implies, implies_true, true_implies, Nat.zero_lt_succ, Nat.lt_add_one, pm_tl_n, pm_tl_s, sc_uL, to3, hset_s, Option.map_some, List.set_set]
  rw [show (0 : Int32) = nI 0 from rfl, E5]
  exact loop 400 0 0 _ rfl (by omega) (by omega) (by omega) h5 T5 (Nat.le_refl _) (Nat.le_refl _) (Nat.le_refl _) rfl (by rw [l5, l3, l2, l1]; rfl) (F3.tr f5)
end TM
