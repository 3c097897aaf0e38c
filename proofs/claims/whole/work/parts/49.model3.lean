/-! AdmissionDeskModel: its parts. -/
section MD
variable {h h' : pmH} {m : Nat} {o : Nat → Int32} {A A' : AD}
theorem c_M_partAt (p : Nat) (d : Nat) : PM (d + 1) 186 [.int (nI p)] h (fun v h' => v = some (.int (nI (1280 + 68 * p))) ∧ h' = h) := by
  refine en_X12_partAt rfl ?_
  have e : (1280 : Int32) + 68 * nI p = nI (1280 + 68 * p) := by
    rw [show (68 : Int32) = nI 68 from rfl, pk_mul, show (1280 : Int32) = nI 1280 from rfl, nI_add]
  simp only [w_X12_partAt_0, w_X12_partAt_3, w_X12_partAt_5, w_X12_partAt_6, w_X12_partAt_7, w_X12_partAt_8, pm_1i_c, pm_2i_c, pm_1l_c, pm_2l_c, pm_1a_c, pm_ia_c, pm_iia_c, pm_va_c, pm_cp_c, pm_k0_c, pm_k1_c, pm_k2_c, pm_k3_c, pm_s1_c, pm_s2_c, pm_s3_c, pm_s4_c, pm_ri_c, pm_ra_c, pm_rn_c, pm_rk_i, pm_rk_z, pm_rk_a, pm_vk_i, pm_vk_z, pm_vk_a, pm_cti, pm_ctr, pm_ldi_z, pm_ldi_s, pm_lda_z, pm_lda_s, pm_cat_n, pm_cat_i, pm_cat_r, pm_cat_l, pm_obj, pm_arr, pm_opt, pm_ird, pm_aln, List.getElem?_cons_zero, List.getElem?_cons_succ, List.set_cons_zero, List.set_cons_succ, List.length_cons, List.length_nil, List.length_set, true_and, and_true, Nat.add_zero, Nat.zero_add, Nat.le_refl, Nat.reduceAdd, Nat.reduceLT, Nat.reduceLeDiff, Nat.zero_le, not_false_eq_true, not_true_eq_false, false_implies, implies_true, true_implies, Nat.zero_lt_succ, Nat.lt_add_one, e]
theorem c_M_many (H : md_ h m o A) {p : Nat} (h1 : 1 ≤ p) (h3 : p ≤ 3) (d : Nat) : PM (d + 2) 187 [.ref m, .int (nI p)] h (fun v h' => v = some (.int (nI (li A p).length)) ∧ h' = h) := by
  obtain ⟨H0, f, H1, R⟩ := H
  unfold mO at H0
  obtain ⟨a1, a2, a3⟩ := R.p h1 h3
  have vi : vp_in (nI (1280 + 68 * p)) 2195 := vp_in_nI (by omega) (by omega)
  have ci : (nI (1280 + 68 * p)).toNatClampNeg = 1280 + 68 * p := nI_clamp (by omega)
  refine en_X12_many rfl rfl ?_
  simp only [w_X12_many_0, w_X12_many_1, w_X12_many_4, w_X12_many_5, w_X12_many_8, w_X12_many_9, pm_1i_c, pm_2i_c, pm_1l_c, pm_2l_c, pm_1a_c, pm_ia_c, pm_iia_c, pm_va_c, pm_cp_c, pm_k0_c, pm_k1_c, pm_k2_c, pm_k3_c, pm_s1_c, pm_s2_c, pm_s3_c, pm_s4_c, pm_ri_c, pm_ra_c, pm_rn_c, pm_rk_i, pm_rk_z, pm_rk_a, pm_vk_i, pm_vk_z, pm_vk_a, pm_cti, pm_ctr, pm_ldi_z, pm_ldi_s, pm_lda_z, pm_lda_s, pm_cat_n, pm_cat_i, pm_cat_r, pm_cat_l, pm_obj, pm_arr, pm_opt, pm_ird, pm_aln, List.getElem?_cons_zero, List.getElem?_cons_succ, List.set_cons_zero, List.set_cons_succ, List.length_cons, List.length_nil, List.length_set, true_and, and_true, Nat.add_zero, Nat.zero_add, Nat.le_refl, Nat.reduceAdd, Nat.reduceLT, Nat.reduceLeDiff, Nat.zero_le, not_false_eq_true, not_true_eq_false, false_implies, implies_true, true_implies, Nat.zero_lt_succ, Nat.lt_add_one, H0]
  refine PM_use (c_M_partAt p d) ?_
  rintro v hh ll ⟨rfl, rfl⟩
  show W_X12_many _ _ _ _ _ _ _ _ _
  simp only [w_X12_many_0, w_X12_many_1, w_X12_many_4, w_X12_many_5, w_X12_many_8, w_X12_many_9, pm_1i_c, pm_2i_c, pm_1l_c, pm_2l_c, pm_1a_c, pm_ia_c, pm_iia_c, pm_va_c, pm_cp_c, pm_k0_c, pm_k1_c, pm_k2_c, pm_k3_c, pm_s1_c, pm_s2_c, pm_s3_c, pm_s4_c, pm_ri_c, pm_ra_c, pm_rn_c, pm_rk_i, pm_rk_z, pm_rk_a, pm_vk_i, pm_vk_z, pm_vk_a, pm_cti, pm_ctr, pm_ldi_z, pm_ldi_s, pm_lda_z, pm_lda_s, pm_cat_n, pm_cat_i, pm_cat_r, pm_cat_l, pm_obj, pm_arr, pm_opt, pm_ird, pm_aln, List.getElem?_cons_zero, List.getElem?_cons_succ, List.set_cons_zero, List.set_cons_succ, List.length_cons, List.length_nil, List.length_set, true_and, and_true, Nat.add_zero, Nat.zero_add, Nat.le_refl, Nat.reduceAdd, Nat.reduceLT, Nat.reduceLeDiff, Nat.zero_le, not_false_eq_true, not_true_eq_false, false_implies, implies_true, true_implies, Nat.zero_lt_succ, Nat.lt_add_one, pm_tl_n, pm_tl_s, sc_uL, H1, vi, ci, a2]
theorem c_M_keyAt (H : md_ h m o A) {p k : Nat} (h1 : 1 ≤ p) (h3 : p ≤ 3) (hk : k < (li A p).length) (d : Nat) : PM (d + 2) 188 [.ref m, .int (nI p), .int (nI k)] h (fun v h' => v = some (.int ((li A p).getD k (-1))) ∧ h' = h) := by
  obtain ⟨H0, f, H1, R⟩ := H
  unfold mO at H0
  obtain ⟨a1, a2, a3⟩ := R.p h1 h3
  have vi : vp_in (nI (1280 + 68 * p + 1 + k)) 2195 := vp_in_nI (by omega) (by omega)
  have ci : (nI (1280 + 68 * p + 1 + k)).toNatClampNeg = 1280 + 68 * p + 1 + k := nI_clamp (by omega)
  have ak := a3 k hk
  refine en_X12_keyAt rfl rfl rfl ?_
  simp only [w_X12_keyAt_0, w_X12_keyAt_1, w_X12_keyAt_4, w_X12_keyAt_5, w_X12_keyAt_8, w_X12_keyAt_9, w_X12_keyAt_10, w_X12_keyAt_11, w_X12_keyAt_12, w_X12_keyAt_13, pm_1i_c, pm_2i_c, pm_1l_c, pm_2l_c, pm_1a_c, pm_ia_c, pm_iia_c, pm_va_c, pm_cp_c, pm_k0_c, pm_k1_c, pm_k2_c, pm_k3_c, pm_s1_c, pm_s2_c, pm_s3_c, pm_s4_c, pm_ri_c, pm_ra_c, pm_rn_c, pm_rk_i, pm_rk_z, pm_rk_a, pm_vk_i, pm_vk_z, pm_vk_a, pm_cti, pm_ctr, pm_ldi_z, pm_ldi_s, pm_lda_z, pm_lda_s, pm_cat_n, pm_cat_i, pm_cat_r, pm_cat_l, pm_obj, pm_arr, pm_opt, pm_ird, pm_aln, List.getElem?_cons_zero, List.getElem?_cons_succ, List.set_cons_zero, List.set_cons_succ, List.length_cons, List.length_nil, List.length_set, true_and, and_true, Nat.add_zero, Nat.zero_add, Nat.le_refl, Nat.reduceAdd, Nat.reduceLT, Nat.reduceLeDiff, Nat.zero_le, not_false_eq_true, not_true_eq_false, false_implies, implies_true, true_implies, Nat.zero_lt_succ, Nat.lt_add_one, H0]
  refine PM_use (c_M_partAt p d) ?_
  rintro v hh ll ⟨rfl, rfl⟩
  show W_X12_keyAt _ _ _ _ _ _ _ _ _
  simp only [w_X12_keyAt_0, w_X12_keyAt_1, w_X12_keyAt_4, w_X12_keyAt_5, w_X12_keyAt_8, w_X12_keyAt_9, w_X12_keyAt_10, w_X12_keyAt_11, w_X12_keyAt_12, w_X12_keyAt_13, pm_1i_c, pm_2i_c, pm_1l_c, pm_2l_c, pm_1a_c, pm_ia_c, pm_iia_c, pm_va_c, pm_cp_c, pm_k0_c, pm_k1_c, pm_k2_c, pm_k3_c, pm_s1_c, pm_s2_c, pm_s3_c, pm_s4_c, pm_ri_c, pm_ra_c, pm_rn_c, pm_rk_i, pm_rk_z, pm_rk_a, pm_vk_i, pm_vk_z, pm_vk_a, pm_cti, pm_ctr, pm_ldi_z, pm_ldi_s, pm_lda_z, pm_lda_s, pm_cat_n, pm_cat_i, pm_cat_r, pm_cat_l, pm_obj, pm_arr, pm_opt, pm_ird, pm_aln, List.getElem?_cons_zero, List.getElem?_cons_succ, List.set_cons_zero, List.set_cons_succ, List.length_cons, List.length_nil, List.length_set, true_and, and_true, Nat.add_zero, Nat.zero_add, Nat.le_refl, Nat.reduceAdd, Nat.reduceLT, Nat.reduceLeDiff, Nat.zero_le, not_false_eq_true, not_true_eq_false, false_implies, implies_true, true_implies, Nat.zero_lt_succ, Nat.lt_add_one, pm_tl_n, pm_tl_s, sc_uL, H1, nI_1, nI_add, vi, ci, ak]
theorem mx1 (x : Int32) : (if 1 < x then x else 1) = (if x < 1 then 1 else x) := by
  by_cases c : x < 1
  · rw [if_pos c, if_neg (fun z => Int32.lt_irrefl (Int32.lt_trans c z))]
  · rw [if_neg c]
    by_cases c2 : 1 < x
    · rw [if_pos c2]
    · rw [if_neg c2]
      exact Int32.le_antisymm (Int32.not_lt.mp c) (Int32.not_lt.mp c2)
theorem c_M_isFor (H : md_ h m o A) (p : Int32) (d : Nat) : PM (d + 1) 189 [.ref m, .int p] h (fun v h' => v = some (.int (pfI (sc A 8) (sc A 9) (sc A 10) p)) ∧ h' = h) := by
  obtain ⟨H0, f, H1, R⟩ := H
  unfold mO at H0
  have s8 : f 1678 = sc A 8 := R.s (i := 8) (by omega)
  have s9 : f 1679 = sc A 9 := R.s (i := 9) (by omega)
  have s10 : f 1680 = sc A 10 := R.s (i := 10) (by omega)
  have e : ¬ (100 : Int32) = 0 := by decide
  refine en_X12_isFor rfl rfl ?_
  unfold pfI sfI mfI wfI
  by_cases c1 : p = 1
  · simp only [w_X12_isFor_0, w_X12_isFor_1, w_X12_isFor_2, w_X12_isFor_5, w_X12_isFor_8, w_X12_isFor_9, w_X12_isFor_10, w_X12_isFor_13, w_X12_isFor_16, w_X12_isFor_17, w_X12_isFor_18, w_X12_isFor_20, w_X12_isFor_21, w_X12_isFor_24, w_X12_isFor_25, w_X12_isFor_26, w_X12_isFor_29, w_X12_isFor_32, w_X12_isFor_33, w_X12_isFor_34, w_X12_isFor_35, w_X12_isFor_36, w_X12_isFor_37, w_X12_isFor_38, w_X12_isFor_41, w_X12_isFor_44, w_X12_isFor_45, w_X12_isFor_46, w_X12_isFor_48, w_X12_isFor_49, w_X12_isFor_51, w_X12_isFor_52, w_X12_isFor_53, w_X12_isFor_56, w_X12_isFor_57, w_X12_isFor_60, w_X12_isFor_61, w_X12_isFor_62, w_X12_isFor_65, w_X12_isFor_67, w_X12_isFor_70, w_X12_isFor_71, w_X12_isFor_73, w_X12_isFor_74, pm_1i_c, pm_2i_c, pm_1l_c, pm_2l_c, pm_1a_c, pm_ia_c, pm_iia_c, pm_va_c, pm_cp_c, pm_k0_c, pm_k1_c, pm_k2_c, pm_k3_c, pm_s1_c, pm_s2_c, pm_s3_c, pm_s4_c, pm_ri_c, pm_ra_c, pm_rn_c, pm_rk_i, pm_rk_z, pm_rk_a, pm_vk_i, pm_vk_z, pm_vk_a, pm_cti, pm_ctr, pm_ldi_z, pm_ldi_s, pm_lda_z, pm_lda_s, pm_cat_n, pm_cat_i, pm_cat_r, pm_cat_l, pm_obj, pm_arr, pm_opt, pm_ird, pm_aln, List.getElem?_cons_zero, List.getElem?_cons_succ, List.set_cons_zero, List.set_cons_succ, List.length_cons, List.length_nil, List.length_set, true_and, and_true, Nat.add_zero, Nat.zero_add, Nat.le_refl, Nat.reduceAdd, Nat.reduceLT, Nat.reduceLeDiff, Nat.zero_le, not_false_eq_true, not_true_eq_false, false_implies, implies_true, true_implies, Nat.zero_lt_succ, Nat.lt_add_one, H0, H1, ix_1678, vi_1678, s8, ix_1679, vi_1679, s9, ix_1680, vi_1680, s10, e, mx1, c1]
    rw [if_pos trivial]
  · by_cases c3 : p = 3
    · simp only [w_X12_isFor_0, w_X12_isFor_1, w_X12_isFor_2, w_X12_isFor_5, w_X12_isFor_8, w_X12_isFor_9, w_X12_isFor_10, w_X12_isFor_13, w_X12_isFor_16, w_X12_isFor_17, w_X12_isFor_18, w_X12_isFor_20, w_X12_isFor_21, w_X12_isFor_24, w_X12_isFor_25, w_X12_isFor_26, w_X12_isFor_29, w_X12_isFor_32, w_X12_isFor_33, w_X12_isFor_34, w_X12_isFor_35, w_X12_isFor_36, w_X12_isFor_37, w_X12_isFor_38, w_X12_isFor_41, w_X12_isFor_44, w_X12_isFor_45, w_X12_isFor_46, w_X12_isFor_48, w_X12_isFor_49, w_X12_isFor_51, w_X12_isFor_52, w_X12_isFor_53, w_X12_isFor_56, w_X12_isFor_57, w_X12_isFor_60, w_X12_isFor_61, w_X12_isFor_62, w_X12_isFor_65, w_X12_isFor_67, w_X12_isFor_70, w_X12_isFor_71, w_X12_isFor_73, w_X12_isFor_74, pm_1i_c, pm_2i_c, pm_1l_c, pm_2l_c, pm_1a_c, pm_ia_c, pm_iia_c, pm_va_c, pm_cp_c, pm_k0_c, pm_k1_c, pm_k2_c, pm_k3_c, pm_s1_c, pm_s2_c, pm_s3_c, pm_s4_c, pm_ri_c, pm_ra_c, pm_rn_c, pm_rk_i, pm_rk_z, pm_rk_a, pm_vk_i, pm_vk_z, pm_vk_a, pm_cti, pm_ctr, pm_ldi_z, pm_ldi_s, pm_lda_z, pm_lda_s, pm_cat_n, pm_cat_i, pm_cat_r, pm_cat_l, pm_obj, pm_arr, pm_opt, pm_ird, pm_aln, List.getElem?_cons_zero, List.getElem?_cons_succ, List.set_cons_zero, List.set_cons_succ, List.length_cons, List.length_nil, List.length_set, true_and, and_true, Nat.add_zero, Nat.zero_add, Nat.le_refl, Nat.reduceAdd, Nat.reduceLT, Nat.reduceLeDiff, Nat.zero_le, not_false_eq_true, not_true_eq_false, false_implies, implies_true, true_implies, Nat.zero_lt_succ, Nat.lt_add_one, H0, H1, ix_1678, vi_1678, s8, ix_1679, vi_1679, s9, ix_1680, vi_1680, s10, e, mx1, c3, show ¬ (3 : Int32) = 1 by decide]
      rw [if_neg id, if_pos trivial]
    · simp only [w_X12_isFor_0, w_X12_isFor_1, w_X12_isFor_2, w_X12_isFor_5, w_X12_isFor_8, w_X12_isFor_9, w_X12_isFor_10, w_X12_isFor_13, w_X12_isFor_16, w_X12_isFor_17, w_X12_isFor_18, w_X12_isFor_20, w_X12_isFor_21, w_X12_isFor_24, w_X12_isFor_25, w_X12_isFor_26, w_X12_isFor_29, w_X12_isFor_32, w_X12_isFor_33, w_X12_isFor_34, w_X12_isFor_35, w_X12_isFor_36, w_X12_isFor_37, w_X12_isFor_38, w_X12_isFor_41, w_X12_isFor_44, w_X12_isFor_45, w_X12_isFor_46, w_X12_isFor_48, w_X12_isFor_49, w_X12_isFor_51, w_X12_isFor_52, w_X12_isFor_53, w_X12_isFor_56, w_X12_isFor_57, w_X12_isFor_60, w_X12_isFor_61, w_X12_isFor_62, w_X12_isFor_65, w_X12_isFor_67, w_X12_isFor_70, w_X12_isFor_71, w_X12_isFor_73, w_X12_isFor_74, pm_1i_c, pm_2i_c, pm_1l_c, pm_2l_c, pm_1a_c, pm_ia_c, pm_iia_c, pm_va_c, pm_cp_c, pm_k0_c, pm_k1_c, pm_k2_c, pm_k3_c, pm_s1_c, pm_s2_c, pm_s3_c, pm_s4_c, pm_ri_c, pm_ra_c, pm_rn_c, pm_rk_i, pm_rk_z, pm_rk_a, pm_vk_i, pm_vk_z, pm_vk_a, pm_cti, pm_ctr, pm_ldi_z, pm_ldi_s, pm_lda_z, pm_lda_s, pm_cat_n, pm_cat_i, pm_cat_r, pm_cat_l, pm_obj, pm_arr, pm_opt, pm_ird, pm_aln, List.getElem?_cons_zero, List.getElem?_cons_succ, List.set_cons_zero, List.set_cons_succ, List.length_cons, List.length_nil, List.length_set, true_and, and_true, Nat.add_zero, Nat.zero_add, Nat.le_refl, Nat.reduceAdd, Nat.reduceLT, Nat.reduceLeDiff, Nat.zero_le, not_false_eq_true, not_true_eq_false, false_implies, implies_true, true_implies, Nat.zero_lt_succ, Nat.lt_add_one, H0, H1, ix_1678, vi_1678, s8, ix_1679, vi_1679, s9, ix_1680, vi_1680, s10, e, mx1, c1, c3]
      rw [if_neg id, if_neg id]
theorem c_M_mainFor (H : md_ h m o A) (d : Nat) : PM (d + 2) 190 [.ref m] h (fun v h' => v = some (.int (mfI (sc A 8) (sc A 9))) ∧ h' = h) := by
  have H2 := H
  obtain ⟨H0, f, H1, R⟩ := H
  unfold mO at H0
  refine en_X12_mainFor rfl ?_
  simp only [w_X12_mainFor_0, w_X12_mainFor_1, w_X12_mainFor_2, w_X12_mainFor_5, w_X12_mainFor_6, w_X12_mainFor_7, w_X12_mainFor_10, w_X12_mainFor_11, pm_1i_c, pm_2i_c, pm_1l_c, pm_2l_c, pm_1a_c, pm_ia_c, pm_iia_c, pm_va_c, pm_cp_c, pm_k0_c, pm_k1_c, pm_k2_c, pm_k3_c, pm_s1_c, pm_s2_c, pm_s3_c, pm_s4_c, pm_ri_c, pm_ra_c, pm_rn_c, pm_rk_i, pm_rk_z, pm_rk_a, pm_vk_i, pm_vk_z, pm_vk_a, pm_cti, pm_ctr, pm_ldi_z, pm_ldi_s, pm_lda_z, pm_lda_s, pm_cat_n, pm_cat_i, pm_cat_r, pm_cat_l, pm_obj, pm_arr, pm_opt, pm_ird, pm_aln, List.getElem?_cons_zero, List.getElem?_cons_succ, List.set_cons_zero, List.set_cons_succ, List.length_cons, List.length_nil, List.length_set, true_and, and_true, Nat.add_zero, Nat.zero_add, Nat.le_refl, Nat.reduceAdd, Nat.reduceLT, Nat.reduceLeDiff, Nat.zero_le, not_false_eq_true, not_true_eq_false, false_implies, implies_true, true_implies, Nat.zero_lt_succ, Nat.lt_add_one, H0]
  refine PM_use (c_M_isFor H2 2 d) ?_
  rintro v hh ll ⟨rfl, rfl⟩
  show W_X12_mainFor _ _ _ _ _ _ _ _ _
  simp only [w_X12_mainFor_0, w_X12_mainFor_1, w_X12_mainFor_2, w_X12_mainFor_5, w_X12_mainFor_6, w_X12_mainFor_7, w_X12_mainFor_10, w_X12_mainFor_11, pm_1i_c, pm_2i_c, pm_1l_c, pm_2l_c, pm_1a_c, pm_ia_c, pm_iia_c, pm_va_c, pm_cp_c, pm_k0_c, pm_k1_c, pm_k2_c, pm_k3_c, pm_s1_c, pm_s2_c, pm_s3_c, pm_s4_c, pm_ri_c, pm_ra_c, pm_rn_c, pm_rk_i, pm_rk_z, pm_rk_a, pm_vk_i, pm_vk_z, pm_vk_a, pm_cti, pm_ctr, pm_ldi_z, pm_ldi_s, pm_lda_z, pm_lda_s, pm_cat_n, pm_cat_i, pm_cat_r, pm_cat_l, pm_obj, pm_arr, pm_opt, pm_ird, pm_aln, List.getElem?_cons_zero, List.getElem?_cons_succ, List.set_cons_zero, List.set_cons_succ, List.length_cons, List.length_nil, List.length_set, true_and, and_true, Nat.add_zero, Nat.zero_add, Nat.le_refl, Nat.reduceAdd, Nat.reduceLT, Nat.reduceLeDiff, Nat.zero_le, not_false_eq_true, not_true_eq_false, false_implies, implies_true, true_implies, Nat.zero_lt_succ, Nat.lt_add_one, pm_tl_n, pm_tl_s, sc_uL, H0]
  refine PM_use (c_M_isFor H2 3 d) ?_
  rintro v hh ll ⟨rfl, rfl⟩
  show W_X12_mainFor _ _ _ _ _ _ _ _ _
  simp only [w_X12_mainFor_0, w_X12_mainFor_1, w_X12_mainFor_2, w_X12_mainFor_5, w_X12_mainFor_6, w_X12_mainFor_7, w_X12_mainFor_10, w_X12_mainFor_11, pm_1i_c, pm_2i_c, pm_1l_c, pm_2l_c, pm_1a_c, pm_ia_c, pm_iia_c, pm_va_c, pm_cp_c, pm_k0_c, pm_k1_c, pm_k2_c, pm_k3_c, pm_s1_c, pm_s2_c, pm_s3_c, pm_s4_c, pm_ri_c, pm_ra_c, pm_rn_c, pm_rk_i, pm_rk_z, pm_rk_a, pm_vk_i, pm_vk_z, pm_vk_a, pm_cti, pm_ctr, pm_ldi_z, pm_ldi_s, pm_lda_z, pm_lda_s, pm_cat_n, pm_cat_i, pm_cat_r, pm_cat_l, pm_obj, pm_arr, pm_opt, pm_ird, pm_aln, List.getElem?_cons_zero, List.getElem?_cons_succ, List.set_cons_zero, List.set_cons_succ, List.length_cons, List.length_nil, List.length_set, true_and, and_true, Nat.add_zero, Nat.zero_add, Nat.le_refl, Nat.reduceAdd, Nat.reduceLT, Nat.reduceLeDiff, Nat.zero_le, not_false_eq_true, not_true_eq_false, false_implies, implies_true, true_implies, Nat.zero_lt_succ, Nat.lt_add_one, pm_tl_n, pm_tl_s, sc_uL]
  have e2 : pfI (sc A 8) (sc A 9) (sc A 10) 2 = mfI (sc A 8) (sc A 9) - sfI (sc A 8) (sc A 9) (sc A 10) := rfl
  have e3 : pfI (sc A 8) (sc A 9) (sc A 10) 3 = sfI (sc A 8) (sc A 9) (sc A 10) := rfl
  rw [e2, e3, Int32.sub_add_cancel]
theorem c_M_mainMany (H : md_ h m o A) (d : Nat) : PM (d + 3) 191 [.ref m] h (fun v h' => v = some (.int (nI (li A 2).length + nI (li A 3).length)) ∧ h' = h) := by
  have H2 := H
  obtain ⟨H0, f, H1, R⟩ := H
  unfold mO at H0
  refine en_X12_mainMany rfl ?_
  simp only [w_X12_mainMany_0, w_X12_mainMany_1, w_X12_mainMany_2, w_X12_mainMany_5, w_X12_mainMany_6, w_X12_mainMany_7, w_X12_mainMany_10, w_X12_mainMany_11, pm_1i_c, pm_2i_c, pm_1l_c, pm_2l_c, pm_1a_c, pm_ia_c, pm_iia_c, pm_va_c, pm_cp_c, pm_k0_c, pm_k1_c, pm_k2_c, pm_k3_c, pm_s1_c, pm_s2_c, pm_s3_c, pm_s4_c, pm_ri_c, pm_ra_c, pm_rn_c, pm_rk_i, pm_rk_z, pm_rk_a, pm_vk_i, pm_vk_z, pm_vk_a, pm_cti, pm_ctr, pm_ldi_z, pm_ldi_s, pm_lda_z, pm_lda_s, pm_cat_n, pm_cat_i, pm_cat_r, pm_cat_l, pm_obj, pm_arr, pm_opt, pm_ird, pm_aln, List.getElem?_cons_zero, List.getElem?_cons_succ, List.set_cons_zero, List.set_cons_succ, List.length_cons, List.length_nil, List.length_set, true_and, and_true, Nat.add_zero, Nat.zero_add, Nat.le_refl, Nat.reduceAdd, Nat.reduceLT, Nat.reduceLeDiff, Nat.zero_le, not_false_eq_true, not_true_eq_false, false_implies, implies_true, true_implies, Nat.zero_lt_succ, Nat.lt_add_one, H0]
  refine PM_use (c_M_many H2 (p := 2) (by omega) (by omega) d) ?_
  rintro v hh ll ⟨rfl, rfl⟩
  show W_X12_mainMany _ _ _ _ _ _ _ _ _
  simp only [w_X12_mainMany_0, w_X12_mainMany_1, w_X12_mainMany_2, w_X12_mainMany_5, w_X12_mainMany_6, w_X12_mainMany_7, w_X12_mainMany_10, w_X12_mainMany_11, pm_1i_c, pm_2i_c, pm_1l_c, pm_2l_c, pm_1a_c, pm_ia_c, pm_iia_c, pm_va_c, pm_cp_c, pm_k0_c, pm_k1_c, pm_k2_c, pm_k3_c, pm_s1_c, pm_s2_c, pm_s3_c, pm_s4_c, pm_ri_c, pm_ra_c, pm_rn_c, pm_rk_i, pm_rk_z, pm_rk_a, pm_vk_i, pm_vk_z, pm_vk_a, pm_cti, pm_ctr, pm_ldi_z, pm_ldi_s, pm_lda_z, pm_lda_s, pm_cat_n, pm_cat_i, pm_cat_r, pm_cat_l, pm_obj, pm_arr, pm_opt, pm_ird, pm_aln, List.getElem?_cons_zero, List.getElem?_cons_succ, List.set_cons_zero, List.set_cons_succ, List.length_cons, List.length_nil, List.length_set, true_and, and_true, Nat.add_zero, Nat.zero_add, Nat.le_refl, Nat.reduceAdd, Nat.reduceLT, Nat.reduceLeDiff, Nat.zero_le, not_false_eq_true, not_true_eq_false, false_implies, implies_true, true_implies, Nat.zero_lt_succ, Nat.lt_add_one, pm_tl_n, pm_tl_s, sc_uL, H0]
  refine PM_use (c_M_many H2 (p := 3) (by omega) (by omega) d) ?_
  rintro v hh ll ⟨rfl, rfl⟩
  show W_X12_mainMany _ _ _ _ _ _ _ _ _
  simp only [w_X12_mainMany_0, w_X12_mainMany_1, w_X12_mainMany_2, w_X12_mainMany_5, w_X12_mainMany_6, w_X12_mainMany_7, w_X12_mainMany_10, w_X12_mainMany_11, pm_1i_c, pm_2i_c, pm_1l_c, pm_2l_c, pm_1a_c, pm_ia_c, pm_iia_c, pm_va_c, pm_cp_c, pm_k0_c, pm_k1_c, pm_k2_c, pm_k3_c, pm_s1_c, pm_s2_c, pm_s3_c, pm_s4_c, pm_ri_c, pm_ra_c, pm_rn_c, pm_rk_i, pm_rk_z, pm_rk_a, pm_vk_i, pm_vk_z, pm_vk_a, pm_cti, pm_ctr, pm_ldi_z, pm_ldi_s, pm_lda_z, pm_lda_s, pm_cat_n, pm_cat_i, pm_cat_r, pm_cat_l, pm_obj, pm_arr, pm_opt, pm_ird, pm_aln, List.getElem?_cons_zero, List.getElem?_cons_succ, List.set_cons_zero, List.set_cons_succ, List.length_cons, List.length_nil, List.length_set, true_and, and_true, Nat.add_zero, Nat.zero_add, Nat.le_refl, Nat.reduceAdd, Nat.reduceLT, Nat.reduceLeDiff, Nat.zero_le, not_false_eq_true, not_true_eq_false, false_implies, implies_true, true_implies, Nat.zero_lt_succ, Nat.lt_add_one, pm_tl_n, pm_tl_s, sc_uL]
theorem getD_cons_s {x : Int32} {l : List Int32} {k : Nat} : (x :: l).getD (k + 1) (-1) = l.getD k (-1) := rfl
set_option maxHeartbeats 1000000 in
theorem c_M_toFront (H : md_ h m o A) {p : Nat} (h1 : 1 ≤ p) (h3 : p ≤ 3) (hl : (li A p).length ≤ 65) (key : Int32) (d : Nat) : PM (d + 2) 192 [.ref m, .int (nI p), .int key] h (fun v h' => v = none ∧ md_ h' m o (uL A p (key :: li A p)) ∧ fr1 h h' (m + 1)) := by
  obtain ⟨H0, f, H1, R⟩ := H
  have H0' := H0
  unfold mO at H0
  obtain ⟨a1, a2, a3⟩ := R.p h1 h3
  have mo : ∀ hh, fr1 h hh (m + 1) → hh[m]? = h[m]? := fun hh q => q m (by omega)
  obtain ⟨at_, hat⟩ : ∃ at_, at_ = 1280 + 68 * p := ⟨_, rfl⟩
  have hat2 : 1348 ≤ at_ ∧ at_ ≤ 1484 := by omega
  have vat : vp_in (nI at_) 2195 := vp_in_nI (by omega) (by omega)
  have cat_ : (nI at_).toNatClampNeg = at_ := nI_clamp (by omega)
  have va1 : vp_in (nI (at_ + 1)) 2195 := vp_in_nI (by omega) (by omega)
  have ca1 : (nI (at_ + 1)).toNatClampNeg = at_ + 1 := nI_clamp (by omega)
  refine en_X12_toFront rfl rfl rfl ?_
  simp only [w_X12_toFront_0, w_X12_toFront_1, pm_1i_c, pm_2i_c, pm_1l_c, pm_2l_c, pm_1a_c, pm_ia_c, pm_iia_c, pm_va_c, pm_cp_c, pm_k0_c, pm_k1_c, pm_k2_c, pm_k3_c, pm_s1_c, pm_s2_c, pm_s3_c, pm_s4_c, pm_ri_c, pm_ra_c, pm_rn_c, pm_rk_i, pm_rk_z, pm_rk_a, pm_vk_i, pm_vk_z, pm_vk_a, pm_cti, pm_ctr, pm_ldi_z, pm_ldi_s, pm_lda_z, pm_lda_s, pm_cat_n, pm_cat_i, pm_cat_r, pm_cat_l, pm_obj, pm_arr, pm_opt, pm_ird, pm_aln, List.getElem?_cons_zero, List.getElem?_cons_succ, List.set_cons_zero, List.set_cons_succ, List.length_cons, List.length_nil, List.length_set, true_and, and_true, Nat.add_zero, Nat.zero_add, Nat.le_refl, Nat.reduceAdd, Nat.reduceLT, Nat.reduceLeDiff, Nat.zero_le, not_false_eq_true, not_true_eq_false, false_implies, implies_true, true_implies, Nat.zero_lt_succ, Nat.lt_add_one]
  refine PM_use (c_M_partAt p d) ?_
  rintro v hh ll ⟨rfl, rfl⟩
  rw [← hat] at a2 a3 ⊢
  show W_X12_toFront _ _ _ _ _ _ _ _ _
  simp only [w_X12_toFront_4, w_X12_toFront_5, w_X12_toFront_6, w_X12_toFront_9, w_X12_toFront_10, w_X12_toFront_11, pm_1i_c, pm_2i_c, pm_1l_c, pm_2l_c, pm_1a_c, pm_ia_c, pm_iia_c, pm_va_c, pm_cp_c, pm_k0_c, pm_k1_c, pm_k2_c, pm_k3_c, pm_s1_c, pm_s2_c, pm_s3_c, pm_s4_c, pm_ri_c, pm_ra_c, pm_rn_c, pm_rk_i, pm_rk_z, pm_rk_a, pm_vk_i, pm_vk_z, pm_vk_a, pm_cti, pm_ctr, pm_ldi_z, pm_ldi_s, pm_lda_z, pm_lda_s, pm_cat_n, pm_cat_i, pm_cat_r, pm_cat_l, pm_obj, pm_arr, pm_opt, pm_ird, pm_aln, List.getElem?_cons_zero, List.getElem?_cons_succ, List.set_cons_zero, List.set_cons_succ, List.length_cons, List.length_nil, List.length_set, true_and, and_true, Nat.add_zero, Nat.zero_add, Nat.le_refl, Nat.reduceAdd, Nat.reduceLT, Nat.reduceLeDiff, Nat.zero_le, not_false_eq_true, not_true_eq_false, false_implies, implies_true, true_implies, Nat.zero_lt_succ, Nat.lt_add_one, pm_tl_n, pm_tl_s, sc_uL, H0, H1, vat, cat_, a2]
  have loop : ∀ k, k ≤ (li A p).length → ∀ (hh2 : pmH) (g : Nat → Int32), hh2[m + 1]? = some (.inl (0, 2195, .inl g)) → (∀ j, g j = if at_ + 1 + k < j ∧ j ≤ at_ + 1 + (li A p).length then f (j - 1) else f j) → hh2.length = hh.length → fr1 hh hh2 (m + 1) → W_X12_toFront (d + 1) (hh.length + 0) 0 (fun v h' => v = none ∧ md_ h' m o (uL A p (key :: li A p)) ∧ fr1 hh h' (m + 1)) 13 [some (.ref m), some (.int (nI p)), some (.int key), some (.int (nI at_)), some (.int (nI k))] [] hh2 0 := by
    intro k
    induction k with
    | zero =>
      intro hk hh2 g q1 q2 q5 q6
      have e1 : ¬ (0 : Int32) < nI 0 := by decide
      have hm := mo hh2 q6
      have gat : g at_ = nI (li A p).length := by rw [q2, if_neg (by omega)]; exact a2
      rw [w_X12_toFront_13]
      simp only [w_X12_toFront_15, w_X12_toFront_44, w_X12_toFront_45, w_X12_toFront_48, w_X12_toFront_49, w_X12_toFront_50, w_X12_toFront_51, w_X12_toFront_52, w_X12_toFront_53, w_X12_toFront_54, w_X12_toFront_57, w_X12_toFront_58, w_X12_toFront_59, w_X12_toFront_60, w_X12_toFront_61, w_X12_toFront_62, w_X12_toFront_63, pm_1i_c, pm_2i_c, pm_1l_c, pm_2l_c, pm_1a_c, pm_ia_c, pm_iia_c, pm_va_c, pm_cp_c, pm_k0_c, pm_k1_c, pm_k2_c, pm_k3_c, pm_s1_c, pm_s2_c, pm_s3_c, pm_s4_c, pm_ri_c, pm_ra_c, pm_rn_c, pm_rk_i, pm_rk_z, pm_rk_a, pm_vk_i, pm_vk_z, pm_vk_a, pm_cti, pm_ctr, pm_ldi_z, pm_ldi_s, pm_lda_z, pm_lda_s, pm_cat_n, pm_cat_i, pm_cat_r, pm_cat_l, pm_obj, pm_arr, pm_opt, pm_ird, pm_aln, List.getElem?_cons_zero, List.getElem?_cons_succ, List.set_cons_zero, List.set_cons_succ, List.length_cons, List.length_nil, List.length_set, true_and, and_true, Nat.add_zero, Nat.zero_add, Nat.le_refl, Nat.reduceAdd, Nat.reduceLT, Nat.reduceLeDiff, Nat.zero_le, not_false_eq_true, not_true_eq_false, false_implies, implies_true, true_implies, Nat.zero_lt_succ, Nat.lt_add_one, e1, hm, H0, q1, nI_1, va1, ca1, vat, cat_, hset_r1, hset_s, Option.map_some, List.set_set, q5, upd_n (show at_ ≠ at_ + 1 by omega), gat]
      obtain ⟨M, F⟩ := md_.set (A' := uL A p (key :: li A p)) (f' := upd (upd g (at_ + 1) key) at_ (nI ((li A p).length + 1))) (H0'.kept q6) q1 (by
        refine R.gL h1 h3 (fun k hk => ?_) (by rw [List.length_cons]; omega) ?_ (fun k hk => ?_)
        · rw [upd_n (by omega), upd_n (by omega), q2, if_neg (by omega)]
        · rw [← hat, upd_e]
          rfl
        · rw [← hat, upd_n (by omega)]
          cases k with
          | zero =>
            exact upd_e
          | succ k =>
            rw [List.length_cons] at hk
            rw [upd_n (by omega), q2, if_pos (by omega), getD_cons_s, ← a3 k (by omega)]
            congr 1)
      exact ⟨M, q6.tr F⟩
    | succ k ih =>
      intro hk hh2 g q1 q2 q5 q6
      have e1 : 0 < nI (k + 1) := nI_lt (a := 0) (by omega) (by omega)
      have hm := mo hh2 q6
      have e2 : nI (k + 1) + -1 = nI k := by rw [nIinc, nI_pred]
      have v1 : vp_in (nI (at_ + 1 + (k + 1))) 2195 := vp_in_nI (by omega) (by omega)
      have c1 : (nI (at_ + 1 + (k + 1))).toNatClampNeg = at_ + 1 + (k + 1) := nI_clamp (by omega)
      have v2 : vp_in (nI (at_ + (k + 1))) 2195 := vp_in_nI (by omega) (by omega)
      have c2 : (nI (at_ + (k + 1))).toNatClampNeg = at_ + (k + 1) := nI_clamp (by omega)
      have n1 : nI at_ + 1 + nI (k + 1) = nI (at_ + 1 + (k + 1)) := by rw [nI_1, nI_add]
      have n2 : nI at_ + nI (k + 1) = nI (at_ + (k + 1)) := nI_add _ _
      rw [w_X12_toFront_13]
      simp only [w_X12_toFront_15, w_X12_toFront_18, w_X12_toFront_19, w_X12_toFront_22, w_X12_toFront_23, w_X12_toFront_24, w_X12_toFront_25, w_X12_toFront_27, w_X12_toFront_28, w_X12_toFront_29, w_X12_toFront_32, w_X12_toFront_33, w_X12_toFront_35, w_X12_toFront_36, w_X12_toFront_37, w_X12_toFront_38, w_X12_toFront_41, pm_1i_c, pm_2i_c, pm_1l_c, pm_2l_c, pm_1a_c, pm_ia_c, pm_iia_c, pm_va_c, pm_cp_c, pm_k0_c, pm_k1_c, pm_k2_c, pm_k3_c, pm_s1_c, pm_s2_c, pm_s3_c, pm_s4_c, pm_ri_c, pm_ra_c, pm_rn_c, pm_rk_i, pm_rk_z, pm_rk_a, pm_vk_i, pm_vk_z, pm_vk_a, pm_cti, pm_ctr, pm_ldi_z, pm_ldi_s, pm_lda_z, pm_lda_s, pm_cat_n, pm_cat_i, pm_cat_r, pm_cat_l, pm_obj, pm_arr, pm_opt, pm_ird, pm_aln, List.getElem?_cons_zero, List.getElem?_cons_succ, List.set_cons_zero, List.set_cons_succ, List.length_cons, List.length_nil, List.length_set, true_and, and_true, Nat.add_zero, Nat.zero_add, Nat.le_refl, Nat.reduceAdd, Nat.reduceLT, Nat.reduceLeDiff, Nat.zero_le, not_false_eq_true, not_true_eq_false, false_implies, implies_true, true_implies, Nat.zero_lt_succ, Nat.lt_add_one, e1, hm, H0, q1, n1, n2, v1, c1, v2, c2, e2]
      refine ih (by omega) _ _ (by rw [hset_s, q1]; rfl) (fun j => ?_) (by rw [List.length_set]; exact q5) (q6.tr (fun i hi => hset_n (Ne.symm hi)))
      by_cases c : j = at_ + 1 + (k + 1)
      · rw [c, upd_e, q2, if_neg (by omega), if_pos (by omega)]
        congr 1
        omega
      · rw [upd_n c, q2]
        by_cases c3 : at_ + 1 + (k + 1) < j ∧ j ≤ at_ + 1 + (li A p).length
        · rw [if_pos c3, if_pos (by omega)]
        · rw [if_neg c3, if_neg (by omega)]
  exact loop _ (Nat.le_refl _) hh f H1 (fun j => by rw [if_neg (by omega)]) rfl fr1.rf
set_option maxHeartbeats 1000000 in
theorem c_M_takesOut (H : md_ h m o A) {p k : Nat} (h1 : 1 ≤ p) (h3 : p ≤ 3) (hk : k < (li A p).length) (d : Nat) : PM (d + 2) 193 [.ref m, .int (nI p), .int (nI k)] h (fun v h' => v = some (.int ((li A p).getD k (-1))) ∧ md_ h' m o (uL A p ((li A p).eraseIdx k)) ∧ fr1 h h' (m + 1)) := by
  obtain ⟨H0, f, H1, R⟩ := H
  have H0' := H0
  unfold mO at H0
  obtain ⟨a1, a2, a3⟩ := R.p h1 h3
  have mo : ∀ hh, fr1 h hh (m + 1) → hh[m]? = h[m]? := fun hh q => q m (by omega)
  obtain ⟨at_, hat⟩ : ∃ at_, at_ = 1280 + 68 * p := ⟨_, rfl⟩
  have hat2 : 1348 ≤ at_ ∧ at_ ≤ 1484 := by omega
  have vat : vp_in (nI at_) 2195 := vp_in_nI (by omega) (by omega)
  have cat_ : (nI at_).toNatClampNeg = at_ := nI_clamp (by omega)
  have vk : vp_in (nI (at_ + 1 + k)) 2195 := vp_in_nI (by omega) (by omega)
  have ck : (nI (at_ + 1 + k)).toNatClampNeg = at_ + 1 + k := nI_clamp (by omega)
  refine en_X12_takesOut rfl rfl rfl ?_
  simp only [w_X12_takesOut_0, w_X12_takesOut_1, pm_1i_c, pm_2i_c, pm_1l_c, pm_2l_c, pm_1a_c, pm_ia_c, pm_iia_c, pm_va_c, pm_cp_c, pm_k0_c, pm_k1_c, pm_k2_c, pm_k3_c, pm_s1_c, pm_s2_c, pm_s3_c, pm_s4_c, pm_ri_c, pm_ra_c, pm_rn_c, pm_rk_i, pm_rk_z, pm_rk_a, pm_vk_i, pm_vk_z, pm_vk_a, pm_cti, pm_ctr, pm_ldi_z, pm_ldi_s, pm_lda_z, pm_lda_s, pm_cat_n, pm_cat_i, pm_cat_r, pm_cat_l, pm_obj, pm_arr, pm_opt, pm_ird, pm_aln, List.getElem?_cons_zero, List.getElem?_cons_succ, List.set_cons_zero, List.set_cons_succ, List.length_cons, List.length_nil, List.length_set, true_and, and_true, Nat.add_zero, Nat.zero_add, Nat.le_refl, Nat.reduceAdd, Nat.reduceLT, Nat.reduceLeDiff, Nat.zero_le, not_false_eq_true, not_true_eq_false, false_implies, implies_true, true_implies, Nat.zero_lt_succ, Nat.lt_add_one]
  refine PM_use (c_M_partAt p d) ?_
  rintro v hh ll ⟨rfl, rfl⟩
  rw [← hat] at a2 a3 ⊢
  have ak := a3 k hk
  have al : nI (li A p).length - 1 = nI ((li A p).length - 1) := by rw [nI_one, pk_sub (by omega)]
  show W_X12_takesOut _ _ _ _ _ _ _ _ _
  simp only [w_X12_takesOut_4, w_X12_takesOut_5, w_X12_takesOut_6, w_X12_takesOut_9, w_X12_takesOut_10, w_X12_takesOut_11, w_X12_takesOut_12, w_X12_takesOut_13, w_X12_takesOut_14, w_X12_takesOut_15, w_X12_takesOut_17, w_X12_takesOut_18, w_X12_takesOut_21, w_X12_takesOut_22, w_X12_takesOut_23, w_X12_takesOut_24, w_X12_takesOut_25, w_X12_takesOut_26, w_X12_takesOut_27, w_X12_takesOut_28, pm_1i_c, pm_2i_c, pm_1l_c, pm_2l_c, pm_1a_c, pm_ia_c, pm_iia_c, pm_va_c, pm_cp_c, pm_k0_c, pm_k1_c, pm_k2_c, pm_k3_c, pm_s1_c, pm_s2_c, pm_s3_c, pm_s4_c, pm_ri_c, pm_ra_c, pm_rn_c, pm_rk_i, pm_rk_z, pm_rk_a, pm_vk_i, pm_vk_z, pm_vk_a, pm_cti, pm_ctr, pm_ldi_z, pm_ldi_s, pm_lda_z, pm_lda_s, pm_cat_n, pm_cat_i, pm_cat_r, pm_cat_l, pm_obj, pm_arr, pm_opt, pm_ird, pm_aln, List.getElem?_cons_zero, List.getElem?_cons_succ, List.set_cons_zero, List.set_cons_succ, List.length_cons, List.length_nil, List.length_set, true_and, and_true, Nat.add_zero, Nat.zero_add, Nat.le_refl, Nat.reduceAdd, Nat.reduceLT, Nat.reduceLeDiff, Nat.zero_le, not_false_eq_true, not_true_eq_false, false_implies, implies_true, true_implies, Nat.zero_lt_succ, Nat.lt_add_one, pm_tl_n, pm_tl_s, sc_uL, H0, H1, vat, cat_, a2, nI_1, nI_add, vk, ck, ak, al]
  have loop : ∀ n i, (li A p).length - 1 - i = n → k ≤ i → i ≤ (li A p).length - 1 → ∀ (hh2 : pmH) (g : Nat → Int32), hh2[m + 1]? = some (.inl (0, 2195, .inl g)) → (∀ j, g j = if j = at_ then nI ((li A p).length - 1) else if at_ + 1 + k ≤ j ∧ j < at_ + 1 + i then f (j + 1) else f j) → hh2.length = hh.length → fr1 hh hh2 (m + 1) → W_X12_takesOut (d + 1) (hh.length + 0) 0 (fun v h' => v = some (.int ((li A p).getD k (-1))) ∧ md_ h' m o (uL A p ((li A p).eraseIdx k)) ∧ fr1 hh h' (m + 1)) 30 [some (.ref m), some (.int (nI p)), some (.int (nI k)), some (.int (nI at_)), some (.int ((li A p).getD k (-1))), some (.int (nI i))] [] hh2 0 := by
    intro n
    induction n with
    | zero =>
      intro i hn hki hi hh2 g q1 q2 q5 q6
      have : i = (li A p).length - 1 := by omega
      subst this
      have gat : g at_ = nI ((li A p).length - 1) := by rw [q2, if_pos rfl]
      have e1 : ¬ nI ((li A p).length - 1) < nI ((li A p).length - 1) := nI_nlt (by omega) (by omega)
      have hm := mo hh2 q6
      have len : ((li A p).eraseIdx k).length = (li A p).length - 1 := List.length_eraseIdx_of_lt hk
      rw [w_X12_takesOut_30]
      simp only [w_X12_takesOut_32, w_X12_takesOut_33, w_X12_takesOut_36, w_X12_takesOut_37, w_X12_takesOut_38, w_X12_takesOut_69, w_X12_takesOut_71, pm_1i_c, pm_2i_c, pm_1l_c, pm_2l_c, pm_1a_c, pm_ia_c, pm_iia_c, pm_va_c, pm_cp_c, pm_k0_c, pm_k1_c, pm_k2_c, pm_k3_c, pm_s1_c, pm_s2_c, pm_s3_c, pm_s4_c, pm_ri_c, pm_ra_c, pm_rn_c, pm_rk_i, pm_rk_z, pm_rk_a, pm_vk_i, pm_vk_z, pm_vk_a, pm_cti, pm_ctr, pm_ldi_z, pm_ldi_s, pm_lda_z, pm_lda_s, pm_cat_n, pm_cat_i, pm_cat_r, pm_cat_l, pm_obj, pm_arr, pm_opt, pm_ird, pm_aln, List.getElem?_cons_zero, List.getElem?_cons_succ, List.set_cons_zero, List.set_cons_succ, List.length_cons, List.length_nil, List.length_set, true_and, and_true, Nat.add_zero, Nat.zero_add, Nat.le_refl, Nat.reduceAdd, Nat.reduceLT, Nat.reduceLeDiff, Nat.zero_le, not_false_eq_true, not_true_eq_false, false_implies, implies_true, true_implies, Nat.zero_lt_succ, Nat.lt_add_one, e1, hm, H0, q1, vat, cat_, gat, q5]
      refine ⟨⟨H0'.kept q6, g, q1, ?_⟩, q6⟩
      refine R.gL h1 h3 (fun j hj => ?_) (by omega) ?_ (fun j hj => ?_)
      · rw [q2, if_neg (by omega), if_neg (by omega)]
      · rw [← hat, gat, len]
      · rw [← hat, q2, if_neg (by omega)]
        rw [len] at hj
        rw [List.getD_eq_getElem?_getD, List.getElem?_eraseIdx]
        by_cases c : j < k
        · rw [if_neg (by omega), if_pos c, a3 j (by omega), List.getD_eq_getElem?_getD]
        · rw [if_pos (by omega), if_neg c, ← List.getD_eq_getElem?_getD, ← a3 (j + 1) (by omega)]
          congr 1
    | succ n ih =>
      intro i hn hki hi hh2 g q1 q2 q5 q6
      have gat : g at_ = nI ((li A p).length - 1) := by rw [q2, if_pos rfl]
      have e1 : nI i < nI ((li A p).length - 1) := nI_lt (by omega) (by omega)
      have hm := mo hh2 q6
      have v1 : vp_in (nI (at_ + 1 + i)) 2195 := vp_in_nI (by omega) (by omega)
      have c1 : (nI (at_ + 1 + i)).toNatClampNeg = at_ + 1 + i := nI_clamp (by omega)
      have v2 : vp_in (nI (at_ + 2 + i)) 2195 := vp_in_nI (by omega) (by omega)
      have c2 : (nI (at_ + 2 + i)).toNatClampNeg = at_ + 2 + i := nI_clamp (by omega)
      have n1 : nI at_ + 1 + nI i = nI (at_ + 1 + i) := by rw [nI_1, nI_add]
      have n2 : nI at_ + 2 + nI i = nI (at_ + 2 + i) := by rw [show (2 : Int32) = nI 2 from rfl, nI_add, nI_add]
      rw [w_X12_takesOut_30]
      simp only [w_X12_takesOut_32, w_X12_takesOut_33, w_X12_takesOut_36, w_X12_takesOut_37, w_X12_takesOut_38, w_X12_takesOut_41, w_X12_takesOut_42, w_X12_takesOut_45, w_X12_takesOut_46, w_X12_takesOut_47, w_X12_takesOut_48, w_X12_takesOut_50, w_X12_takesOut_51, w_X12_takesOut_52, w_X12_takesOut_55, w_X12_takesOut_56, w_X12_takesOut_57, w_X12_takesOut_58, w_X12_takesOut_60, w_X12_takesOut_61, w_X12_takesOut_62, w_X12_takesOut_63, w_X12_takesOut_66, pm_1i_c, pm_2i_c, pm_1l_c, pm_2l_c, pm_1a_c, pm_ia_c, pm_iia_c, pm_va_c, pm_cp_c, pm_k0_c, pm_k1_c, pm_k2_c, pm_k3_c, pm_s1_c, pm_s2_c, pm_s3_c, pm_s4_c, pm_ri_c, pm_ra_c, pm_rn_c, pm_rk_i, pm_rk_z, pm_rk_a, pm_vk_i, pm_vk_z, pm_vk_a, pm_cti, pm_ctr, pm_ldi_z, pm_ldi_s, pm_lda_z, pm_lda_s, pm_cat_n, pm_cat_i, pm_cat_r, pm_cat_l, pm_obj, pm_arr, pm_opt, pm_ird, pm_aln, List.getElem?_cons_zero, List.getElem?_cons_succ, List.set_cons_zero, List.set_cons_succ, List.length_cons, List.length_nil, List.length_set, true_and, and_true, Nat.add_zero, Nat.zero_add, Nat.le_refl, Nat.reduceAdd, Nat.reduceLT, Nat.reduceLeDiff, Nat.zero_le, not_false_eq_true, not_true_eq_false, false_implies, implies_true, true_implies, Nat.zero_lt_succ, Nat.lt_add_one, e1, hm, H0, q1, vat, cat_, gat, n2, nI_1, nI_add, v1, c1, v2, c2]
      refine ih (i + 1) (by omega) (by omega) (by omega) _ _ (by rw [hset_s, q1]; rfl) (fun j => ?_) (by rw [List.length_set]; exact q5) (q6.tr (fun i hi => hset_n (Ne.symm hi)))
      by_cases c : j = at_ + 1 + i
      · rw [c, upd_e, q2, if_neg (by omega), if_neg (by omega), if_neg (by omega), if_pos (by omega)]
        congr 1
        omega
      · rw [upd_n c, q2]
        by_cases c0 : j = at_
        · rw [if_pos c0, if_pos c0]
        · rw [if_neg c0, if_neg c0]
          by_cases c3 : at_ + 1 + k ≤ j ∧ j < at_ + 1 + i
          · rw [if_pos c3, if_pos (by omega)]
          · rw [if_neg c3, if_neg (by omega)]
  refine loop _ k rfl (Nat.le_refl _) (by omega) _ _ (by rw [hset_s, H1]; rfl) (fun j => ?_) (by rw [List.length_set]) (fun i hi => hset_n (Ne.symm hi))
  by_cases c0 : j = at_
  · rw [if_pos c0, c0, upd_e]
  · rw [if_neg c0, upd_n c0, if_neg (by omega)]
theorem erase_last (xs : List Int32) (hl : 0 < xs.length) : xs.eraseIdx (xs.length - 1) = xs.dropLast ∧ xs.getD (xs.length - 1) (-1) = xs.getLastD (-1) := by
  obtain ⟨ys, y, rfl⟩ : ∃ ys y, xs = ys ++ [y] := ⟨xs.dropLast, xs.getLast (by intro z; rw [z] at hl; exact absurd hl (by decide)), (List.dropLast_concat_getLast _).symm⟩
  refine ⟨?_, ?_⟩
  · rw [List.length_append, List.length_singleton, Nat.add_sub_cancel, List.eraseIdx_append_of_length_le (Nat.le_refl _), Nat.sub_self, List.dropLast_concat]
    simp
  · rw [List.length_append, List.length_singleton, Nat.add_sub_cancel, List.getD_eq_getElem?_getD, List.getElem?_append_right (Nat.le_refl _), Nat.sub_self]
    simp
theorem c_M_takesLast (H : md_ h m o A) {p : Nat} (h1 : 1 ≤ p) (h3 : p ≤ 3) (hl : 0 < (li A p).length) (d : Nat) : PM (d + 3) 194 [.ref m, .int (nI p)] h (fun v h' => v = some (.int ((li A p).getLastD (-1))) ∧ md_ h' m o (drpR A p) ∧ fr1 h h' (m + 1)) := by
  have H2 := H
  obtain ⟨H0, f, H1, R⟩ := H
  unfold mO at H0
  have al : nI (li A p).length - 1 = nI ((li A p).length - 1) := by
    have := (R.p h1 h3).1
    rw [nI_one, pk_sub (by omega)]
  obtain ⟨e1, e2⟩ := erase_last (li A p) hl
  refine en_X12_takesLast rfl rfl ?_
  simp only [w_X12_takesLast_0, w_X12_takesLast_1, w_X12_takesLast_2, w_X12_takesLast_3, w_X12_takesLast_4, w_X12_takesLast_7, w_X12_takesLast_8, w_X12_takesLast_9, w_X12_takesLast_12, pm_1i_c, pm_2i_c, pm_1l_c, pm_2l_c, pm_1a_c, pm_ia_c, pm_iia_c, pm_va_c, pm_cp_c, pm_k0_c, pm_k1_c, pm_k2_c, pm_k3_c, pm_s1_c, pm_s2_c, pm_s3_c, pm_s4_c, pm_ri_c, pm_ra_c, pm_rn_c, pm_rk_i, pm_rk_z, pm_rk_a, pm_vk_i, pm_vk_z, pm_vk_a, pm_cti, pm_ctr, pm_ldi_z, pm_ldi_s, pm_lda_z, pm_lda_s, pm_cat_n, pm_cat_i, pm_cat_r, pm_cat_l, pm_obj, pm_arr, pm_opt, pm_ird, pm_aln, List.getElem?_cons_zero, List.getElem?_cons_succ, List.set_cons_zero, List.set_cons_succ, List.length_cons, List.length_nil, List.length_set, true_and, and_true, Nat.add_zero, Nat.zero_add, Nat.le_refl, Nat.reduceAdd, Nat.reduceLT, Nat.reduceLeDiff, Nat.zero_le, not_false_eq_true, not_true_eq_false, false_implies, implies_true, true_implies, Nat.zero_lt_succ, Nat.lt_add_one, H0]
  refine PM_use (c_M_many H2 h1 h3 d) ?_
  rintro v hh ll ⟨rfl, rfl⟩
  show W_X12_takesLast _ _ _ _ _ _ _ _ _
  simp only [w_X12_takesLast_0, w_X12_takesLast_1, w_X12_takesLast_2, w_X12_takesLast_3, w_X12_takesLast_4, w_X12_takesLast_7, w_X12_takesLast_8, w_X12_takesLast_9, w_X12_takesLast_12, pm_1i_c, pm_2i_c, pm_1l_c, pm_2l_c, pm_1a_c, pm_ia_c, pm_iia_c, pm_va_c, pm_cp_c, pm_k0_c, pm_k1_c, pm_k2_c, pm_k3_c, pm_s1_c, pm_s2_c, pm_s3_c, pm_s4_c, pm_ri_c, pm_ra_c, pm_rn_c, pm_rk_i, pm_rk_z, pm_rk_a, pm_vk_i, pm_vk_z, pm_vk_a, pm_cti, pm_ctr, pm_ldi_z, pm_ldi_s, pm_lda_z, pm_lda_s, pm_cat_n, pm_cat_i, pm_cat_r, pm_cat_l, pm_obj, pm_arr, pm_opt, pm_ird, pm_aln, List.getElem?_cons_zero, List.getElem?_cons_succ, List.set_cons_zero, List.set_cons_succ, List.length_cons, List.length_nil, List.length_set, true_and, and_true, Nat.add_zero, Nat.zero_add, Nat.le_refl, Nat.reduceAdd, Nat.reduceLT, Nat.reduceLeDiff, Nat.zero_le, not_false_eq_true, not_true_eq_false, false_implies, implies_true, true_implies, Nat.zero_lt_succ, Nat.lt_add_one, pm_tl_n, pm_tl_s, sc_uL, H0, al]
  refine PM_use (c_M_takesOut H2 h1 h3 (show (li A p).length - 1 < (li A p).length by omega) d) ?_
  rintro v h2 l2 ⟨rfl, K1, K2⟩
  show W_X12_takesLast _ _ _ _ _ _ _ _ _
  simp only [w_X12_takesLast_0, w_X12_takesLast_1, w_X12_takesLast_2, w_X12_takesLast_3, w_X12_takesLast_4, w_X12_takesLast_7, w_X12_takesLast_8, w_X12_takesLast_9, w_X12_takesLast_12, pm_1i_c, pm_2i_c, pm_1l_c, pm_2l_c, pm_1a_c, pm_ia_c, pm_iia_c, pm_va_c, pm_cp_c, pm_k0_c, pm_k1_c, pm_k2_c, pm_k3_c, pm_s1_c, pm_s2_c, pm_s3_c, pm_s4_c, pm_ri_c, pm_ra_c, pm_rn_c, pm_rk_i, pm_rk_z, pm_rk_a, pm_vk_i, pm_vk_z, pm_vk_a, pm_cti, pm_ctr, pm_ldi_z, pm_ldi_s, pm_lda_z, pm_lda_s, pm_cat_n, pm_cat_i, pm_cat_r, pm_cat_l, pm_obj, pm_arr, pm_opt, pm_ird, pm_aln, List.getElem?_cons_zero, List.getElem?_cons_succ, List.set_cons_zero, List.set_cons_succ, List.length_cons, List.length_nil, List.length_set, true_and, and_true, Nat.add_zero, Nat.zero_add, Nat.le_refl, Nat.reduceAdd, Nat.reduceLT, Nat.reduceLeDiff, Nat.zero_le, not_false_eq_true, not_true_eq_false, false_implies, implies_true, true_implies, Nat.zero_lt_succ, Nat.lt_add_one, pm_tl_n, pm_tl_s, sc_uL, l2]
  rw [e1] at K1
  rw [e2]
  exact ⟨rfl, K1, K2⟩
theorem c_M_indexOf (H : md_ h m o A) {p : Nat} (h1 : 1 ≤ p) (h3 : p ≤ 3) (key : Int32) (d : Nat) : PM (d + 3) 195 [.ref m, .int (nI p), .int key] h (fun v h' => v = some (.int (rw_fnd (li A p) key)) ∧ h' = h) := by
  have H2 := H
  obtain ⟨H0, f, H1, R⟩ := H
  unfold mO at H0
  have a1 := (R.p h1 h3).1
  refine en_X12_indexOf rfl rfl rfl ?_
  have loop : ∀ n k, (li A p).length - k = n → k ≤ (li A p).length → key ∉ (li A p).take k → W_X12_indexOf (d + 2) (h.length + 0) 0 (fun v h' => v = some (.int (rw_fnd (li A p) key)) ∧ h' = h) 2 [some (.ref m), some (.int (nI p)), some (.int key), some (.int (nI k))] [] h 0 := by
    intro n
    induction n with
    | zero =>
      intro k hn hk hx
      have e1 : ¬ nI k < nI (li A p).length := nI_nlt (by omega) (by omega)
      rw [w_X12_indexOf_2]
      simp only [w_X12_indexOf_3, w_X12_indexOf_4, w_X12_indexOf_5, w_X12_indexOf_8, w_X12_indexOf_11, w_X12_indexOf_12, w_X12_indexOf_13, w_X12_indexOf_14, w_X12_indexOf_17, w_X12_indexOf_18, w_X12_indexOf_21, w_X12_indexOf_22, w_X12_indexOf_23, w_X12_indexOf_26, w_X12_indexOf_29, w_X12_indexOf_30, pm_1i_c, pm_2i_c, pm_1l_c, pm_2l_c, pm_1a_c, pm_ia_c, pm_iia_c, pm_va_c, pm_cp_c, pm_k0_c, pm_k1_c, pm_k2_c, pm_k3_c, pm_s1_c, pm_s2_c, pm_s3_c, pm_s4_c, pm_ri_c, pm_ra_c, pm_rn_c, pm_rk_i, pm_rk_z, pm_rk_a, pm_vk_i, pm_vk_z, pm_vk_a, pm_cti, pm_ctr, pm_ldi_z, pm_ldi_s, pm_lda_z, pm_lda_s, pm_cat_n, pm_cat_i, pm_cat_r, pm_cat_l, pm_obj, pm_arr, pm_opt, pm_ird, pm_aln, List.getElem?_cons_zero, List.getElem?_cons_succ, List.set_cons_zero, List.set_cons_succ, List.length_cons, List.length_nil, List.length_set, true_and, and_true, Nat.add_zero, Nat.zero_add, Nat.le_refl, Nat.reduceAdd, Nat.reduceLT, Nat.reduceLeDiff, Nat.zero_le, not_false_eq_true, not_true_eq_false, false_implies, implies_true, true_implies, Nat.zero_lt_succ, Nat.lt_add_one, H0]
      refine PM_use (c_M_many H2 h1 h3 d) ?_
      rintro v hh ll ⟨rfl, rfl⟩
      show W_X12_indexOf _ _ _ _ _ _ _ _ _
      simp only [w_X12_indexOf_8, w_X12_indexOf_11, w_X12_indexOf_12, w_X12_indexOf_13, w_X12_indexOf_14, w_X12_indexOf_17, w_X12_indexOf_18, w_X12_indexOf_21, w_X12_indexOf_22, w_X12_indexOf_23, w_X12_indexOf_26, w_X12_indexOf_29, w_X12_indexOf_30, pm_1i_c, pm_2i_c, pm_1l_c, pm_2l_c, pm_1a_c, pm_ia_c, pm_iia_c, pm_va_c, pm_cp_c, pm_k0_c, pm_k1_c, pm_k2_c, pm_k3_c, pm_s1_c, pm_s2_c, pm_s3_c, pm_s4_c, pm_ri_c, pm_ra_c, pm_rn_c, pm_rk_i, pm_rk_z, pm_rk_a, pm_vk_i, pm_vk_z, pm_vk_a, pm_cti, pm_ctr, pm_ldi_z, pm_ldi_s, pm_lda_z, pm_lda_s, pm_cat_n, pm_cat_i, pm_cat_r, pm_cat_l, pm_obj, pm_arr, pm_opt, pm_ird, pm_aln, List.getElem?_cons_zero, List.getElem?_cons_succ, List.set_cons_zero, List.set_cons_succ, List.length_cons, List.length_nil, List.length_set, true_and, and_true, Nat.add_zero, Nat.zero_add, Nat.le_refl, Nat.reduceAdd, Nat.reduceLT, Nat.reduceLeDiff, Nat.zero_le, not_false_eq_true, not_true_eq_false, false_implies, implies_true, true_implies, Nat.zero_lt_succ, Nat.lt_add_one, pm_tl_n, pm_tl_s, sc_uL, e1]
      rw [List.take_of_length_le (by omega)] at hx
      unfold rw_fnd
      rw [if_neg hx]
    | succ n ih =>
      intro k hn hk hx
      have hk2 : k < (li A p).length := by omega
      have e1 : nI k < nI (li A p).length := nI_lt (by omega) (by omega)
      rw [w_X12_indexOf_2]
      simp only [w_X12_indexOf_3, w_X12_indexOf_4, w_X12_indexOf_5, w_X12_indexOf_8, w_X12_indexOf_11, w_X12_indexOf_12, w_X12_indexOf_13, w_X12_indexOf_14, w_X12_indexOf_17, w_X12_indexOf_18, w_X12_indexOf_21, w_X12_indexOf_22, w_X12_indexOf_23, w_X12_indexOf_26, w_X12_indexOf_29, w_X12_indexOf_30, pm_1i_c, pm_2i_c, pm_1l_c, pm_2l_c, pm_1a_c, pm_ia_c, pm_iia_c, pm_va_c, pm_cp_c, pm_k0_c, pm_k1_c, pm_k2_c, pm_k3_c, pm_s1_c, pm_s2_c, pm_s3_c, pm_s4_c, pm_ri_c, pm_ra_c, pm_rn_c, pm_rk_i, pm_rk_z, pm_rk_a, pm_vk_i, pm_vk_z, pm_vk_a, pm_cti, pm_ctr, pm_ldi_z, pm_ldi_s, pm_lda_z, pm_lda_s, pm_cat_n, pm_cat_i, pm_cat_r, pm_cat_l, pm_obj, pm_arr, pm_opt, pm_ird, pm_aln, List.getElem?_cons_zero, List.getElem?_cons_succ, List.set_cons_zero, List.set_cons_succ, List.length_cons, List.length_nil, List.length_set, true_and, and_true, Nat.add_zero, Nat.zero_add, Nat.le_refl, Nat.reduceAdd, Nat.reduceLT, Nat.reduceLeDiff, Nat.zero_le, not_false_eq_true, not_true_eq_false, false_implies, implies_true, true_implies, Nat.zero_lt_succ, Nat.lt_add_one, H0]
      refine PM_use (c_M_many H2 h1 h3 d) ?_
      rintro v hh ll ⟨rfl, rfl⟩
      show W_X12_indexOf _ _ _ _ _ _ _ _ _
      simp only [w_X12_indexOf_8, w_X12_indexOf_11, w_X12_indexOf_12, w_X12_indexOf_13, w_X12_indexOf_14, w_X12_indexOf_17, w_X12_indexOf_18, w_X12_indexOf_21, w_X12_indexOf_22, w_X12_indexOf_23, w_X12_indexOf_26, w_X12_indexOf_29, w_X12_indexOf_30, pm_1i_c, pm_2i_c, pm_1l_c, pm_2l_c, pm_1a_c, pm_ia_c, pm_iia_c, pm_va_c, pm_cp_c, pm_k0_c, pm_k1_c, pm_k2_c, pm_k3_c, pm_s1_c, pm_s2_c, pm_s3_c, pm_s4_c, pm_ri_c, pm_ra_c, pm_rn_c, pm_rk_i, pm_rk_z, pm_rk_a, pm_vk_i, pm_vk_z, pm_vk_a, pm_cti, pm_ctr, pm_ldi_z, pm_ldi_s, pm_lda_z, pm_lda_s, pm_cat_n, pm_cat_i, pm_cat_r, pm_cat_l, pm_obj, pm_arr, pm_opt, pm_ird, pm_aln, List.getElem?_cons_zero, List.getElem?_cons_succ, List.set_cons_zero, List.set_cons_succ, List.length_cons, List.length_nil, List.length_set, true_and, and_true, Nat.add_zero, Nat.zero_add, Nat.le_refl, Nat.reduceAdd, Nat.reduceLT, Nat.reduceLeDiff, Nat.zero_le, not_false_eq_true, not_true_eq_false, false_implies, implies_true, true_implies, Nat.zero_lt_succ, Nat.lt_add_one, pm_tl_n, pm_tl_s, sc_uL, e1, H0]
      refine PM_use (c_M_keyAt H2 h1 h3 hk2 d) ?_
      rintro v hh ll ⟨rfl, rfl⟩
      show W_X12_indexOf _ _ _ _ _ _ _ _ _
      simp only [w_X12_indexOf_17, w_X12_indexOf_18, w_X12_indexOf_21, w_X12_indexOf_22, w_X12_indexOf_23, w_X12_indexOf_26, w_X12_indexOf_29, w_X12_indexOf_30, pm_1i_c, pm_2i_c, pm_1l_c, pm_2l_c, pm_1a_c, pm_ia_c, pm_iia_c, pm_va_c, pm_cp_c, pm_k0_c, pm_k1_c, pm_k2_c, pm_k3_c, pm_s1_c, pm_s2_c, pm_s3_c, pm_s4_c, pm_ri_c, pm_ra_c, pm_rn_c, pm_rk_i, pm_rk_z, pm_rk_a, pm_vk_i, pm_vk_z, pm_vk_a, pm_cti, pm_ctr, pm_ldi_z, pm_ldi_s, pm_lda_z, pm_lda_s, pm_cat_n, pm_cat_i, pm_cat_r, pm_cat_l, pm_obj, pm_arr, pm_opt, pm_ird, pm_aln, List.getElem?_cons_zero, List.getElem?_cons_succ, List.set_cons_zero, List.set_cons_succ, List.length_cons, List.length_nil, List.length_set, true_and, and_true, Nat.add_zero, Nat.zero_add, Nat.le_refl, Nat.reduceAdd, Nat.reduceLT, Nat.reduceLeDiff, Nat.zero_le, not_false_eq_true, not_true_eq_false, false_implies, implies_true, true_implies, Nat.zero_lt_succ, Nat.lt_add_one, pm_tl_n, pm_tl_s, sc_uL, nI_1]
      refine ⟨fun c => ?_, fun c => ?_⟩
      · refine ih (k + 1) (by omega) (by omega) ?_
        rw [rw_take_succ hk2, List.mem_append]
        rintro (q | q)
        · exact hx q
        · refine c ?_
          have := List.mem_singleton.mp q
          rw [List.getD_eq_getElem?_getD, List.getElem?_eq_getElem hk2] at this ⊢
          exact this.symm
      · unfold rw_fnd
        have hxs : (li A p)[k]'hk2 = key := by
          rw [List.getD_eq_getElem?_getD, List.getElem?_eq_getElem hk2] at c
          exact c
        have hm : key ∈ li A p := hxs ▸ List.getElem_mem hk2
        rw [if_pos hm]
        congr 3
        have : li A p = (li A p).take k ++ key :: (li A p).drop (k + 1) := by
          rw [← hxs, List.getElem_cons_drop, List.take_append_drop]
        rw [this, List.idxOf_append, if_neg hx, List.idxOf_cons_self, List.length_take]
        omega
  simp only [w_X12_indexOf_0, w_X12_indexOf_1, pm_1i_c, pm_2i_c, pm_1l_c, pm_2l_c, pm_1a_c, pm_ia_c, pm_iia_c, pm_va_c, pm_cp_c, pm_k0_c, pm_k1_c, pm_k2_c, pm_k3_c, pm_s1_c, pm_s2_c, pm_s3_c, pm_s4_c, pm_ri_c, pm_ra_c, pm_rn_c, pm_rk_i, pm_rk_z, pm_rk_a, pm_vk_i, pm_vk_z, pm_vk_a, pm_cti, pm_ctr, pm_ldi_z, pm_ldi_s, pm_lda_z, pm_lda_s, pm_cat_n, pm_cat_i, pm_cat_r, pm_cat_l, pm_obj, pm_arr, pm_opt, pm_ird, pm_aln, List.getElem?_cons_zero, List.getElem?_cons_succ, List.set_cons_zero, List.set_cons_succ, List.length_cons, List.length_nil, List.length_set, true_and, and_true, Nat.add_zero, Nat.zero_add, Nat.le_refl, Nat.reduceAdd, Nat.reduceLT, Nat.reduceLeDiff, Nat.zero_le, not_false_eq_true, not_true_eq_false, false_implies, implies_true, true_implies, Nat.zero_lt_succ, Nat.lt_add_one]
  exact loop _ 0 rfl (Nat.zero_le _) (by simp)
theorem c_M_whereIs (H : md_ h m o A) (key : Int32) (d : Nat) : PM (d + 4) 196 [.ref m, .int key] h (fun v h' => v = some (.int (nI (partN A key))) ∧ h' = h) := by
  have H2 := H
  obtain ⟨H0, f, H1, R⟩ := H
  unfold mO at H0
  have l1 := (R.p (p := 1) (by omega) (by omega)).1
  have l2 := (R.p (p := 2) (by omega) (by omega)).1
  have l3 := (R.p (p := 3) (by omega) (by omega)).1
  have q1 : rw_fnd (li A 1) key = -1 ↔ ¬ key ∈ li A 1 := fnd_m (by omega)
  have q2 : rw_fnd (li A 2) key = -1 ↔ ¬ key ∈ li A 2 := fnd_m (by omega)
  have q3 : rw_fnd (li A 3) key = -1 ↔ ¬ key ∈ li A 3 := fnd_m (by omega)
  have n1 : (1 : Int32) + 1 = 2 := rfl
  have n2 : (2 : Int32) + 1 = 3 := rfl
  have n3 : (3 : Int32) + 1 = 4 := rfl
  refine en_X12_whereIs rfl rfl ?_
  simp only [w_X12_whereIs_0, w_X12_whereIs_1, w_X12_whereIs_2, w_X12_whereIs_3, w_X12_whereIs_4, w_X12_whereIs_7, w_X12_whereIs_8, w_X12_whereIs_9, w_X12_whereIs_10, w_X12_whereIs_13, w_X12_whereIs_14, w_X12_whereIs_17, w_X12_whereIs_18, w_X12_whereIs_19, w_X12_whereIs_22, w_X12_whereIs_25, w_X12_whereIs_26, pm_1i_c, pm_2i_c, pm_1l_c, pm_2l_c, pm_1a_c, pm_ia_c, pm_iia_c, pm_va_c, pm_cp_c, pm_k0_c, pm_k1_c, pm_k2_c, pm_k3_c, pm_s1_c, pm_s2_c, pm_s3_c, pm_s4_c, pm_ri_c, pm_ra_c, pm_rn_c, pm_rk_i, pm_rk_z, pm_rk_a, pm_vk_i, pm_vk_z, pm_vk_a, pm_cti, pm_ctr, pm_ldi_z, pm_ldi_s, pm_lda_z, pm_lda_s, pm_cat_n, pm_cat_i, pm_cat_r, pm_cat_l, pm_obj, pm_arr, pm_opt, pm_ird, pm_aln, List.getElem?_cons_zero, List.getElem?_cons_succ, List.set_cons_zero, List.set_cons_succ, List.length_cons, List.length_nil, List.length_set, true_and, and_true, Nat.add_zero, Nat.zero_add, Nat.le_refl, Nat.reduceAdd, Nat.reduceLT, Nat.reduceLeDiff, Nat.zero_le, not_false_eq_true, not_true_eq_false, false_implies, implies_true, true_implies, Nat.zero_lt_succ, Nat.lt_add_one, H0, show ¬ (3 : Int32) < 1 by decide]
  refine PM_use (c_M_indexOf H2 (p := 1) (by omega) (by omega) key d) ?_
  rintro v hh ll ⟨rfl, rfl⟩
  unfold partN
  by_cases m1 : key ∈ li A 1
  · show W_X12_whereIs _ _ _ _ _ _ _ _ _
    simp only [w_X12_whereIs_0, w_X12_whereIs_1, w_X12_whereIs_2, w_X12_whereIs_3, w_X12_whereIs_4, w_X12_whereIs_7, w_X12_whereIs_8, w_X12_whereIs_9, w_X12_whereIs_10, w_X12_whereIs_13, w_X12_whereIs_14, w_X12_whereIs_17, w_X12_whereIs_18, w_X12_whereIs_19, w_X12_whereIs_22, w_X12_whereIs_25, w_X12_whereIs_26, pm_1i_c, pm_2i_c, pm_1l_c, pm_2l_c, pm_1a_c, pm_ia_c, pm_iia_c, pm_va_c, pm_cp_c, pm_k0_c, pm_k1_c, pm_k2_c, pm_k3_c, pm_s1_c, pm_s2_c, pm_s3_c, pm_s4_c, pm_ri_c, pm_ra_c, pm_rn_c, pm_rk_i, pm_rk_z, pm_rk_a, pm_vk_i, pm_vk_z, pm_vk_a, pm_cti, pm_ctr, pm_ldi_z, pm_ldi_s, pm_lda_z, pm_lda_s, pm_cat_n, pm_cat_i, pm_cat_r, pm_cat_l, pm_obj, pm_arr, pm_opt, pm_ird, pm_aln, List.getElem?_cons_zero, List.getElem?_cons_succ, List.set_cons_zero, List.set_cons_succ, List.length_cons, List.length_nil, List.length_set, true_and, and_true, Nat.add_zero, Nat.zero_add, Nat.le_refl, Nat.reduceAdd, Nat.reduceLT, Nat.reduceLeDiff, Nat.zero_le, not_false_eq_true, not_true_eq_false, false_implies, implies_true, true_implies, Nat.zero_lt_succ, Nat.lt_add_one, pm_tl_n, pm_tl_s, sc_uL, q1, m1]
    rfl
  · show W_X12_whereIs _ _ _ _ _ _ _ _ _
    simp only [w_X12_whereIs_0, w_X12_whereIs_1, w_X12_whereIs_2, w_X12_whereIs_3, w_X12_whereIs_4, w_X12_whereIs_7, w_X12_whereIs_8, w_X12_whereIs_9, w_X12_whereIs_10, w_X12_whereIs_13, w_X12_whereIs_14, w_X12_whereIs_17, w_X12_whereIs_18, w_X12_whereIs_19, w_X12_whereIs_22, w_X12_whereIs_25, w_X12_whereIs_26, pm_1i_c, pm_2i_c, pm_1l_c, pm_2l_c, pm_1a_c, pm_ia_c, pm_iia_c, pm_va_c, pm_cp_c, pm_k0_c, pm_k1_c, pm_k2_c, pm_k3_c, pm_s1_c, pm_s2_c, pm_s3_c, pm_s4_c, pm_ri_c, pm_ra_c, pm_rn_c, pm_rk_i, pm_rk_z, pm_rk_a, pm_vk_i, pm_vk_z, pm_vk_a, pm_cti, pm_ctr, pm_ldi_z, pm_ldi_s, pm_lda_z, pm_lda_s, pm_cat_n, pm_cat_i, pm_cat_r, pm_cat_l, pm_obj, pm_arr, pm_opt, pm_ird, pm_aln, List.getElem?_cons_zero, List.getElem?_cons_succ, List.set_cons_zero, List.set_cons_succ, List.length_cons, List.length_nil, List.length_set, true_and, and_true, Nat.add_zero, Nat.zero_add, Nat.le_refl, Nat.reduceAdd, Nat.reduceLT, Nat.reduceLeDiff, Nat.zero_le, not_false_eq_true, not_true_eq_false, false_implies, implies_true, true_implies, Nat.zero_lt_succ, Nat.lt_add_one, pm_tl_n, pm_tl_s, sc_uL, q1, m1, n1, H0, show ¬ (3 : Int32) < 2 by decide]
    refine PM_use (c_M_indexOf H2 (p := 2) (by omega) (by omega) key d) ?_
    rintro v hh ll ⟨rfl, rfl⟩
    by_cases m2 : key ∈ li A 2
    · show W_X12_whereIs _ _ _ _ _ _ _ _ _
      simp only [w_X12_whereIs_0, w_X12_whereIs_1, w_X12_whereIs_2, w_X12_whereIs_3, w_X12_whereIs_4, w_X12_whereIs_7, w_X12_whereIs_8, w_X12_whereIs_9, w_X12_whereIs_10, w_X12_whereIs_13, w_X12_whereIs_14, w_X12_whereIs_17, w_X12_whereIs_18, w_X12_whereIs_19, w_X12_whereIs_22, w_X12_whereIs_25, w_X12_whereIs_26, pm_1i_c, pm_2i_c, pm_1l_c, pm_2l_c, pm_1a_c, pm_ia_c, pm_iia_c, pm_va_c, pm_cp_c, pm_k0_c, pm_k1_c, pm_k2_c, pm_k3_c, pm_s1_c, pm_s2_c, pm_s3_c, pm_s4_c, pm_ri_c, pm_ra_c, pm_rn_c, pm_rk_i, pm_rk_z, pm_rk_a, pm_vk_i, pm_vk_z, pm_vk_a, pm_cti, pm_ctr, pm_ldi_z, pm_ldi_s, pm_lda_z, pm_lda_s, pm_cat_n, pm_cat_i, pm_cat_r, pm_cat_l, pm_obj, pm_arr, pm_opt, pm_ird, pm_aln, List.getElem?_cons_zero, List.getElem?_cons_succ, List.set_cons_zero, List.set_cons_succ, List.length_cons, List.length_nil, List.length_set, true_and, and_true, Nat.add_zero, Nat.zero_add, Nat.le_refl, Nat.reduceAdd, Nat.reduceLT, Nat.reduceLeDiff, Nat.zero_le, not_false_eq_true, not_true_eq_false, false_implies, implies_true, true_implies, Nat.zero_lt_succ, Nat.lt_add_one, pm_tl_n, pm_tl_s, sc_uL, q2, m2]
      rfl
    · show W_X12_whereIs _ _ _ _ _ _ _ _ _
      simp only [w_X12_whereIs_0, w_X12_whereIs_1, w_X12_whereIs_2, w_X12_whereIs_3, w_X12_whereIs_4, w_X12_whereIs_7, w_X12_whereIs_8, w_X12_whereIs_9, w_X12_whereIs_10, w_X12_whereIs_13, w_X12_whereIs_14, w_X12_whereIs_17, w_X12_whereIs_18, w_X12_whereIs_19, w_X12_whereIs_22, w_X12_whereIs_25, w_X12_whereIs_26, pm_1i_c, pm_2i_c, pm_1l_c, pm_2l_c, pm_1a_c, pm_ia_c, pm_iia_c, pm_va_c, pm_cp_c, pm_k0_c, pm_k1_c, pm_k2_c, pm_k3_c, pm_s1_c, pm_s2_c, pm_s3_c, pm_s4_c, pm_ri_c, pm_ra_c, pm_rn_c, pm_rk_i, pm_rk_z, pm_rk_a, pm_vk_i, pm_vk_z, pm_vk_a, pm_cti, pm_ctr, pm_ldi_z, pm_ldi_s, pm_lda_z, pm_lda_s, pm_cat_n, pm_cat_i, pm_cat_r, pm_cat_l, pm_obj, pm_arr, pm_opt, pm_ird, pm_aln, List.getElem?_cons_zero, List.getElem?_cons_succ, List.set_cons_zero, List.set_cons_succ, List.length_cons, List.length_nil, List.length_set, true_and, and_true, Nat.add_zero, Nat.zero_add, Nat.le_refl, Nat.reduceAdd, Nat.reduceLT, Nat.reduceLeDiff, Nat.zero_le, not_false_eq_true, not_true_eq_false, false_implies, implies_true, true_implies, Nat.zero_lt_succ, Nat.lt_add_one, pm_tl_n, pm_tl_s, sc_uL, q2, m2, n2, H0, show ¬ (3 : Int32) < 3 by decide]
      refine PM_use (c_M_indexOf H2 (p := 3) (by omega) (by omega) key d) ?_
      rintro v hh ll ⟨rfl, rfl⟩
      by_cases m3 : key ∈ li A 3
      · show W_X12_whereIs _ _ _ _ _ _ _ _ _
        simp only [w_X12_whereIs_0, w_X12_whereIs_1, w_X12_whereIs_2, w_X12_whereIs_3, w_X12_whereIs_4, w_X12_whereIs_7, w_X12_whereIs_8, w_X12_whereIs_9, w_X12_whereIs_10, w_X12_whereIs_13, w_X12_whereIs_14, w_X12_whereIs_17, w_X12_whereIs_18, w_X12_whereIs_19, w_X12_whereIs_22, w_X12_whereIs_25, w_X12_whereIs_26, pm_1i_c, pm_2i_c, pm_1l_c, pm_2l_c, pm_1a_c, pm_ia_c, pm_iia_c, pm_va_c, pm_cp_c, pm_k0_c, pm_k1_c, pm_k2_c, pm_k3_c, pm_s1_c, pm_s2_c, pm_s3_c, pm_s4_c, pm_ri_c, pm_ra_c, pm_rn_c, pm_rk_i, pm_rk_z, pm_rk_a, pm_vk_i, pm_vk_z, pm_vk_a, pm_cti, pm_ctr, pm_ldi_z, pm_ldi_s, pm_lda_z, pm_lda_s, pm_cat_n, pm_cat_i, pm_cat_r, pm_cat_l, pm_obj, pm_arr, pm_opt, pm_ird, pm_aln, List.getElem?_cons_zero, List.getElem?_cons_succ, List.set_cons_zero, List.set_cons_succ, List.length_cons, List.length_nil, List.length_set, true_and, and_true, Nat.add_zero, Nat.zero_add, Nat.le_refl, Nat.reduceAdd, Nat.reduceLT, Nat.reduceLeDiff, Nat.zero_le, not_false_eq_true, not_true_eq_false, false_implies, implies_true, true_implies, Nat.zero_lt_succ, Nat.lt_add_one, pm_tl_n, pm_tl_s, sc_uL, q3, m3]
        rfl
      · show W_X12_whereIs _ _ _ _ _ _ _ _ _
        simp only [w_X12_whereIs_0, w_X12_whereIs_1, w_X12_whereIs_2, w_X12_whereIs_3, w_X12_whereIs_4, w_X12_whereIs_7, w_X12_whereIs_8, w_X12_whereIs_9, w_X12_whereIs_10, w_X12_whereIs_13, w_X12_whereIs_14, w_X12_whereIs_17, w_X12_whereIs_18, w_X12_whereIs_19, w_X12_whereIs_22, w_X12_whereIs_25, w_X12_whereIs_26, pm_1i_c, pm_2i_c, pm_1l_c, pm_2l_c, pm_1a_c, pm_ia_c, pm_iia_c, pm_va_c, pm_cp_c, pm_k0_c, pm_k1_c, pm_k2_c, pm_k3_c, pm_s1_c, pm_s2_c, pm_s3_c, pm_s4_c, pm_ri_c, pm_ra_c, pm_rn_c, pm_rk_i, pm_rk_z, pm_rk_a, pm_vk_i, pm_vk_z, pm_vk_a, pm_cti, pm_ctr, pm_ldi_z, pm_ldi_s, pm_lda_z, pm_lda_s, pm_cat_n, pm_cat_i, pm_cat_r, pm_cat_l, pm_obj, pm_arr, pm_opt, pm_ird, pm_aln, List.getElem?_cons_zero, List.getElem?_cons_succ, List.set_cons_zero, List.set_cons_succ, List.length_cons, List.length_nil, List.length_set, true_and, and_true, Nat.add_zero, Nat.zero_add, Nat.le_refl, Nat.reduceAdd, Nat.reduceLT, Nat.reduceLeDiff, Nat.zero_le, not_false_eq_true, not_true_eq_false, false_implies, implies_true, true_implies, Nat.zero_lt_succ, Nat.lt_add_one, pm_tl_n, pm_tl_s, sc_uL, q3, m3, n3, show (3 : Int32) < 4 by decide]
        rfl
end MD
