/-! Sketch: its loops. -/
section SKG
variable {h : pmH} {a : Nat} {A : AD}
theorem skA_16 (V : wdV A) (key : Int32) {r : Nat} (hr : r < 4) (hl : h.length ≤ 1000000) (d : Nat) : PM (d + 1) 77 [.int key, .int (nI r), .int (16 * sc A 13)] h (fun v h' => v = some (.int (plA A key r)) ∧ h' = h) := by
  obtain ⟨m, j, q1, q2, q3, q4, q5⟩ := plA_in V key r
  have K := c_Sketch_mixed hl key hr (m := m) (by omega) (by omega) d
  rw [← q3] at K
  exact K
theorem c_Sketch_estimateOf (hl : h.length ≤ 1000000) (H : skA h a A) (V : skV A) (key : Int32) (d : Nat) : PM (d + 3) 83 [.ref a, .int key] h (fun v h' => v = some (.int (estF A key)) ∧ h' = h) := by
  have H0 := H
  obtain ⟨h1, -⟩ := H
  refine en_X8_estimateOf rfl rfl ?_
  have loop : ∀ n r, 4 - r = n → r ≤ 4 → ∀ x4, W_X8_estimateOf (d + 2) (h.length + 0) 0 (fun v h' => v = some (.int (estF A key)) ∧ h' = h) 5 [some (.ref a), some (.int key), some (.int (estL A key r)), some (.int (nI r)), x4] [] h 0 := by
    intro n
    induction n with
    | zero =>
      intro r hn hr x4
      have : r = 4 := by omega
      subst this
      have e1 : ¬ nI 4 < 4 := by decide
      rw [w_X8_estimateOf_5]
      simp only [w_X8_estimateOf_0, w_X8_estimateOf_2, w_X8_estimateOf_3, w_X8_estimateOf_4, w_X8_estimateOf_6, w_X8_estimateOf_7, w_X8_estimateOf_10, w_X8_estimateOf_11, w_X8_estimateOf_12, w_X8_estimateOf_13, w_X8_estimateOf_14, w_X8_estimateOf_16, w_X8_estimateOf_17, w_X8_estimateOf_20, w_X8_estimateOf_21, w_X8_estimateOf_24, w_X8_estimateOf_27, w_X8_estimateOf_29, w_X8_estimateOf_31, w_X8_estimateOf_32, w_X8_estimateOf_35, w_X8_estimateOf_37, w_X8_estimateOf_40, w_X8_estimateOf_41, w_X8_estimateOf_42, w_X8_estimateOf_45, w_X8_estimateOf_48, w_X8_estimateOf_49, w_X8_estimateOf_50, w_X8_estimateOf_53, w_X8_estimateOf_56, w_X8_estimateOf_57, w_X8_estimateOf_58, w_X8_estimateOf_59, w_X8_estimateOf_62, w_X8_estimateOf_63, pm_1i_c, pm_2i_c, pm_1l_c, pm_2l_c, pm_1a_c, pm_ia_c, pm_iia_c, pm_va_c, pm_cp_c, pm_k0_c, pm_k1_c, pm_k2_c, pm_k3_c, pm_s1_c, pm_s2_c, pm_s3_c, pm_s4_c, pm_ri_c, pm_ra_c, pm_rn_c, pm_rk_i, pm_rk_z, pm_rk_a, pm_vk_i, pm_vk_z, pm_vk_a, pm_cti, pm_ctr, pm_ldi_z, pm_ldi_s, pm_lda_z, pm_lda_s, pm_cat_n, pm_cat_i, pm_cat_r, pm_cat_l, pm_obj, pm_arr, pm_opt, pm_ird, pm_aln, List.getElem?_cons_zero, List.getElem?_cons_succ, List.set_cons_zero, List.set_cons_succ, List.length_cons, List.length_nil, List.length_set, true_and, and_true, Nat.add_zero, Nat.zero_add, Nat.le_refl, Nat.reduceAdd, Nat.reduceLT, Nat.reduceLeDiff, Nat.zero_le, not_false_eq_true, not_true_eq_false, false_implies, implies_true, true_implies, Nat.zero_lt_succ, Nat.lt_add_one, h1, e1]
      refine PM_use (c_Sketch_hasNoted hl H0 V key d) ?_
      rintro v h' - ⟨rfl, rfl⟩
      show W_X8_estimateOf _ _ _ _ _ _ _ _ _
      simp only [w_X8_estimateOf_0, w_X8_estimateOf_2, w_X8_estimateOf_3, w_X8_estimateOf_4, w_X8_estimateOf_6, w_X8_estimateOf_7, w_X8_estimateOf_10, w_X8_estimateOf_11, w_X8_estimateOf_12, w_X8_estimateOf_13, w_X8_estimateOf_14, w_X8_estimateOf_16, w_X8_estimateOf_17, w_X8_estimateOf_20, w_X8_estimateOf_21, w_X8_estimateOf_24, w_X8_estimateOf_27, w_X8_estimateOf_29, w_X8_estimateOf_31, w_X8_estimateOf_32, w_X8_estimateOf_35, w_X8_estimateOf_37, w_X8_estimateOf_40, w_X8_estimateOf_41, w_X8_estimateOf_42, w_X8_estimateOf_45, w_X8_estimateOf_48, w_X8_estimateOf_49, w_X8_estimateOf_50, w_X8_estimateOf_53, w_X8_estimateOf_56, w_X8_estimateOf_57, w_X8_estimateOf_58, w_X8_estimateOf_59, w_X8_estimateOf_62, w_X8_estimateOf_63, pm_1i_c, pm_2i_c, pm_1l_c, pm_2l_c, pm_1a_c, pm_ia_c, pm_iia_c, pm_va_c, pm_cp_c, pm_k0_c, pm_k1_c, pm_k2_c, pm_k3_c, pm_s1_c, pm_s2_c, pm_s3_c, pm_s4_c, pm_ri_c, pm_ra_c, pm_rn_c, pm_rk_i, pm_rk_z, pm_rk_a, pm_vk_i, pm_vk_z, pm_vk_a, pm_cti, pm_ctr, pm_ldi_z, pm_ldi_s, pm_lda_z, pm_lda_s, pm_cat_n, pm_cat_i, pm_cat_r, pm_cat_l, pm_obj, pm_arr, pm_opt, pm_ird, pm_aln, List.getElem?_cons_zero, List.getElem?_cons_succ, List.set_cons_zero, List.set_cons_succ, List.length_cons, List.length_nil, List.length_set, true_and, and_true, Nat.add_zero, Nat.zero_add, Nat.le_refl, Nat.reduceAdd, Nat.reduceLT, Nat.reduceLeDiff, Nat.zero_le, not_false_eq_true, not_true_eq_false, false_implies, implies_true, true_implies, Nat.zero_lt_succ, Nat.lt_add_one, pm_tl_s]
      unfold estF
      cases notd A key <;> simp
    | succ n ih =>
      intro r hn hr x4
      have e1 : nI r < 4 := nI_lt (a := r) (b := 4) (by omega) (by omega)
      rw [w_X8_estimateOf_5]
      simp only [w_X8_estimateOf_0, w_X8_estimateOf_2, w_X8_estimateOf_3, w_X8_estimateOf_4, w_X8_estimateOf_6, w_X8_estimateOf_7, w_X8_estimateOf_10, w_X8_estimateOf_11, w_X8_estimateOf_12, w_X8_estimateOf_13, w_X8_estimateOf_14, w_X8_estimateOf_16, w_X8_estimateOf_17, w_X8_estimateOf_20, w_X8_estimateOf_21, w_X8_estimateOf_24, w_X8_estimateOf_27, w_X8_estimateOf_29, w_X8_estimateOf_31, w_X8_estimateOf_32, w_X8_estimateOf_35, w_X8_estimateOf_37, w_X8_estimateOf_40, w_X8_estimateOf_41, w_X8_estimateOf_42, w_X8_estimateOf_45, w_X8_estimateOf_48, w_X8_estimateOf_49, w_X8_estimateOf_50, w_X8_estimateOf_53, w_X8_estimateOf_56, w_X8_estimateOf_57, w_X8_estimateOf_58, w_X8_estimateOf_59, w_X8_estimateOf_62, w_X8_estimateOf_63, pm_1i_c, pm_2i_c, pm_1l_c, pm_2l_c, pm_1a_c, pm_ia_c, pm_iia_c, pm_va_c, pm_cp_c, pm_k0_c, pm_k1_c, pm_k2_c, pm_k3_c, pm_s1_c, pm_s2_c, pm_s3_c, pm_s4_c, pm_ri_c, pm_ra_c, pm_rn_c, pm_rk_i, pm_rk_z, pm_rk_a, pm_vk_i, pm_vk_z, pm_vk_a, pm_cti, pm_ctr, pm_ldi_z, pm_ldi_s, pm_lda_z, pm_lda_s, pm_cat_n, pm_cat_i, pm_cat_r, pm_cat_l, pm_obj, pm_arr, pm_opt, pm_ird, pm_aln, List.getElem?_cons_zero, List.getElem?_cons_succ, List.set_cons_zero, List.set_cons_succ, List.length_cons, List.length_nil, List.length_set, true_and, and_true, Nat.add_zero, Nat.zero_add, Nat.le_refl, Nat.reduceAdd, Nat.reduceLT, Nat.reduceLeDiff, Nat.zero_le, not_false_eq_true, not_true_eq_false, false_implies, implies_true, true_implies, Nat.zero_lt_succ, Nat.lt_add_one, h1, e1]
      refine PM_use (skA_16 V.1 key (by omega) hl (d + 1)) ?_
      rintro v h' - ⟨rfl, rfl⟩
      show W_X8_estimateOf _ _ _ _ _ _ _ _ _
      simp only [w_X8_estimateOf_0, w_X8_estimateOf_2, w_X8_estimateOf_3, w_X8_estimateOf_4, w_X8_estimateOf_6, w_X8_estimateOf_7, w_X8_estimateOf_10, w_X8_estimateOf_11, w_X8_estimateOf_12, w_X8_estimateOf_13, w_X8_estimateOf_14, w_X8_estimateOf_16, w_X8_estimateOf_17, w_X8_estimateOf_20, w_X8_estimateOf_21, w_X8_estimateOf_24, w_X8_estimateOf_27, w_X8_estimateOf_29, w_X8_estimateOf_31, w_X8_estimateOf_32, w_X8_estimateOf_35, w_X8_estimateOf_37, w_X8_estimateOf_40, w_X8_estimateOf_41, w_X8_estimateOf_42, w_X8_estimateOf_45, w_X8_estimateOf_48, w_X8_estimateOf_49, w_X8_estimateOf_50, w_X8_estimateOf_53, w_X8_estimateOf_56, w_X8_estimateOf_57, w_X8_estimateOf_58, w_X8_estimateOf_59, w_X8_estimateOf_62, w_X8_estimateOf_63, pm_1i_c, pm_2i_c, pm_1l_c, pm_2l_c, pm_1a_c, pm_ia_c, pm_iia_c, pm_va_c, pm_cp_c, pm_k0_c, pm_k1_c, pm_k2_c, pm_k3_c, pm_s1_c, pm_s2_c, pm_s3_c, pm_s4_c, pm_ri_c, pm_ra_c, pm_rn_c, pm_rk_i, pm_rk_z, pm_rk_a, pm_vk_i, pm_vk_z, pm_vk_a, pm_cti, pm_ctr, pm_ldi_z, pm_ldi_s, pm_lda_z, pm_lda_s, pm_cat_n, pm_cat_i, pm_cat_r, pm_cat_l, pm_obj, pm_arr, pm_opt, pm_ird, pm_aln, List.getElem?_cons_zero, List.getElem?_cons_succ, List.set_cons_zero, List.set_cons_succ, List.length_cons, List.length_nil, List.length_set, true_and, and_true, Nat.add_zero, Nat.zero_add, Nat.le_refl, Nat.reduceAdd, Nat.reduceLT, Nat.reduceLeDiff, Nat.zero_le, not_false_eq_true, not_true_eq_false, false_implies, implies_true, true_implies, Nat.zero_lt_succ, Nat.lt_add_one, pm_tl_s, h1]
      refine PM_use (c_Sketch_counterOf H0 _ _ (cix_at V.1 key (by omega)) (cix_lt V.1 key (by omega)) (d + 1)) ?_
      rintro v h' - ⟨rfl, rfl⟩
      show W_X8_estimateOf _ _ _ _ _ _ _ _ _
      simp only [w_X8_estimateOf_0, w_X8_estimateOf_2, w_X8_estimateOf_3, w_X8_estimateOf_4, w_X8_estimateOf_6, w_X8_estimateOf_7, w_X8_estimateOf_10, w_X8_estimateOf_11, w_X8_estimateOf_12, w_X8_estimateOf_13, w_X8_estimateOf_14, w_X8_estimateOf_16, w_X8_estimateOf_17, w_X8_estimateOf_20, w_X8_estimateOf_21, w_X8_estimateOf_24, w_X8_estimateOf_27, w_X8_estimateOf_29, w_X8_estimateOf_31, w_X8_estimateOf_32, w_X8_estimateOf_35, w_X8_estimateOf_37, w_X8_estimateOf_40, w_X8_estimateOf_41, w_X8_estimateOf_42, w_X8_estimateOf_45, w_X8_estimateOf_48, w_X8_estimateOf_49, w_X8_estimateOf_50, w_X8_estimateOf_53, w_X8_estimateOf_56, w_X8_estimateOf_57, w_X8_estimateOf_58, w_X8_estimateOf_59, w_X8_estimateOf_62, w_X8_estimateOf_63, pm_1i_c, pm_2i_c, pm_1l_c, pm_2l_c, pm_1a_c, pm_ia_c, pm_iia_c, pm_va_c, pm_cp_c, pm_k0_c, pm_k1_c, pm_k2_c, pm_k3_c, pm_s1_c, pm_s2_c, pm_s3_c, pm_s4_c, pm_ri_c, pm_ra_c, pm_rn_c, pm_rk_i, pm_rk_z, pm_rk_a, pm_vk_i, pm_vk_z, pm_vk_a, pm_cti, pm_ctr, pm_ldi_z, pm_ldi_s, pm_lda_z, pm_lda_s, pm_cat_n, pm_cat_i, pm_cat_r, pm_cat_l, pm_obj, pm_arr, pm_opt, pm_ird, pm_aln, List.getElem?_cons_zero, List.getElem?_cons_succ, List.set_cons_zero, List.set_cons_succ, List.length_cons, List.length_nil, List.length_set, true_and, and_true, Nat.add_zero, Nat.zero_add, Nat.le_refl, Nat.reduceAdd, Nat.reduceLT, Nat.reduceLeDiff, Nat.zero_le, not_false_eq_true, not_true_eq_false, false_implies, implies_true, true_implies, Nat.zero_lt_succ, Nat.lt_add_one, pm_tl_s, nI_1]
      have K := ih (r + 1) (by omega) (by omega)
      refine ⟨fun c => ?_, fun c => ?_⟩
      · have e : estL A key (r + 1) = estL A key r := if_neg c
        rw [e] at K
        exact K _
      · have e : estL A key (r + 1) = cn A (cix A key r) := if_pos c
        rw [e] at K
        exact K _
  simp only [w_X8_estimateOf_0, w_X8_estimateOf_2, w_X8_estimateOf_3, w_X8_estimateOf_4, w_X8_estimateOf_6, w_X8_estimateOf_7, w_X8_estimateOf_10, w_X8_estimateOf_11, w_X8_estimateOf_12, w_X8_estimateOf_13, w_X8_estimateOf_14, w_X8_estimateOf_16, w_X8_estimateOf_17, w_X8_estimateOf_20, w_X8_estimateOf_21, w_X8_estimateOf_24, w_X8_estimateOf_27, w_X8_estimateOf_29, w_X8_estimateOf_31, w_X8_estimateOf_32, w_X8_estimateOf_35, w_X8_estimateOf_37, w_X8_estimateOf_40, w_X8_estimateOf_41, w_X8_estimateOf_42, w_X8_estimateOf_45, w_X8_estimateOf_48, w_X8_estimateOf_49, w_X8_estimateOf_50, w_X8_estimateOf_53, w_X8_estimateOf_56, w_X8_estimateOf_57, w_X8_estimateOf_58, w_X8_estimateOf_59, w_X8_estimateOf_62, w_X8_estimateOf_63, pm_1i_c, pm_2i_c, pm_1l_c, pm_2l_c, pm_1a_c, pm_ia_c, pm_iia_c, pm_va_c, pm_cp_c, pm_k0_c, pm_k1_c, pm_k2_c, pm_k3_c, pm_s1_c, pm_s2_c, pm_s3_c, pm_s4_c, pm_ri_c, pm_ra_c, pm_rn_c, pm_rk_i, pm_rk_z, pm_rk_a, pm_vk_i, pm_vk_z, pm_vk_a, pm_cti, pm_ctr, pm_ldi_z, pm_ldi_s, pm_lda_z, pm_lda_s, pm_cat_n, pm_cat_i, pm_cat_r, pm_cat_l, pm_obj, pm_arr, pm_opt, pm_ird, pm_aln, List.getElem?_cons_zero, List.getElem?_cons_succ, List.set_cons_zero, List.set_cons_succ, List.length_cons, List.length_nil, List.length_set, true_and, and_true, Nat.add_zero, Nat.zero_add, Nat.le_refl, Nat.reduceAdd, Nat.reduceLT, Nat.reduceLeDiff, Nat.zero_le, not_false_eq_true, not_true_eq_false, false_implies, implies_true, true_implies, Nat.zero_lt_succ, Nat.lt_add_one]
  exact loop 4 0 rfl (by omega) _
def shrF (A : AD) (k o : Int32) : Nat → Int32
  | 0 => 0
  | r + 1 => if plA A k r = plA A o r then shrF A k o r + 1 else shrF A k o r
theorem c_Sketch_sharedRows (hl : h.length ≤ 1000000) (H : skA h a A) (V : wdV A) (key other : Int32) (d : Nat) : PM (d + 3) 79 [.ref a, .int key, .int other] h (fun v h' => v = some (.int (shrF A key other 4)) ∧ h' = h) := by
  have H0 := H
  obtain ⟨h1, -⟩ := H
  refine en_X8_sharedRows rfl rfl rfl ?_
  have loop : ∀ n r, 4 - r = n → r ≤ 4 → W_X8_sharedRows (d + 2) (h.length + 0) 0 (fun v h' => v = some (.int (shrF A key other 4)) ∧ h' = h) 5 [some (.ref a), some (.int key), some (.int other), some (.int (shrF A key other r)), some (.int (nI r))] [] h 0 := by
    intro n
    induction n with
    | zero =>
      intro r hn hr
      have : r = 4 := by omega
      subst this
      have e1 : ¬ nI 4 < 4 := by decide
      rw [w_X8_sharedRows_5]
      simp only [w_X8_sharedRows_0, w_X8_sharedRows_1, w_X8_sharedRows_2, w_X8_sharedRows_3, w_X8_sharedRows_7, w_X8_sharedRows_8, w_X8_sharedRows_11, w_X8_sharedRows_12, w_X8_sharedRows_13, w_X8_sharedRows_15, w_X8_sharedRows_18, w_X8_sharedRows_19, w_X8_sharedRows_20, w_X8_sharedRows_22, w_X8_sharedRows_25, w_X8_sharedRows_28, w_X8_sharedRows_31, w_X8_sharedRows_34, w_X8_sharedRows_37, w_X8_sharedRows_38, pm_1i_c, pm_2i_c, pm_1l_c, pm_2l_c, pm_1a_c, pm_ia_c, pm_iia_c, pm_va_c, pm_cp_c, pm_k0_c, pm_k1_c, pm_k2_c, pm_k3_c, pm_s1_c, pm_s2_c, pm_s3_c, pm_s4_c, pm_ri_c, pm_ra_c, pm_rn_c, pm_rk_i, pm_rk_z, pm_rk_a, pm_vk_i, pm_vk_z, pm_vk_a, pm_cti, pm_ctr, pm_ldi_z, pm_ldi_s, pm_lda_z, pm_lda_s, pm_cat_n, pm_cat_i, pm_cat_r, pm_cat_l, pm_obj, pm_arr, pm_opt, pm_ird, pm_aln, List.getElem?_cons_zero, List.getElem?_cons_succ, List.set_cons_zero, List.set_cons_succ, List.length_cons, List.length_nil, List.length_set, true_and, and_true, Nat.add_zero, Nat.zero_add, Nat.le_refl, Nat.reduceAdd, Nat.reduceLT, Nat.reduceLeDiff, Nat.zero_le, not_false_eq_true, not_true_eq_false, false_implies, implies_true, true_implies, Nat.zero_lt_succ, Nat.lt_add_one, h1, e1]
    | succ n ih =>
      intro r hn hr
      have e1 : nI r < 4 := nI_lt (a := r) (b := 4) (by omega) (by omega)
      rw [w_X8_sharedRows_5]
      simp only [w_X8_sharedRows_0, w_X8_sharedRows_1, w_X8_sharedRows_2, w_X8_sharedRows_3, w_X8_sharedRows_7, w_X8_sharedRows_8, w_X8_sharedRows_11, w_X8_sharedRows_12, w_X8_sharedRows_13, w_X8_sharedRows_15, w_X8_sharedRows_18, w_X8_sharedRows_19, w_X8_sharedRows_20, w_X8_sharedRows_22, w_X8_sharedRows_25, w_X8_sharedRows_28, w_X8_sharedRows_31, w_X8_sharedRows_34, w_X8_sharedRows_37, w_X8_sharedRows_38, pm_1i_c, pm_2i_c, pm_1l_c, pm_2l_c, pm_1a_c, pm_ia_c, pm_iia_c, pm_va_c, pm_cp_c, pm_k0_c, pm_k1_c, pm_k2_c, pm_k3_c, pm_s1_c, pm_s2_c, pm_s3_c, pm_s4_c, pm_ri_c, pm_ra_c, pm_rn_c, pm_rk_i, pm_rk_z, pm_rk_a, pm_vk_i, pm_vk_z, pm_vk_a, pm_cti, pm_ctr, pm_ldi_z, pm_ldi_s, pm_lda_z, pm_lda_s, pm_cat_n, pm_cat_i, pm_cat_r, pm_cat_l, pm_obj, pm_arr, pm_opt, pm_ird, pm_aln, List.getElem?_cons_zero, List.getElem?_cons_succ, List.set_cons_zero, List.set_cons_succ, List.length_cons, List.length_nil, List.length_set, true_and, and_true, Nat.add_zero, Nat.zero_add, Nat.le_refl, Nat.reduceAdd, Nat.reduceLT, Nat.reduceLeDiff, Nat.zero_le, not_false_eq_true, not_true_eq_false, false_implies, implies_true, true_implies, Nat.zero_lt_succ, Nat.lt_add_one, h1, e1]
      refine PM_use (c_Sketch_placeOf hl H0 V key (by omega) d) ?_
      rintro v h' - ⟨rfl, rfl⟩
      show W_X8_sharedRows _ _ _ _ _ _ _ _ _
      simp only [w_X8_sharedRows_0, w_X8_sharedRows_1, w_X8_sharedRows_2, w_X8_sharedRows_3, w_X8_sharedRows_7, w_X8_sharedRows_8, w_X8_sharedRows_11, w_X8_sharedRows_12, w_X8_sharedRows_13, w_X8_sharedRows_15, w_X8_sharedRows_18, w_X8_sharedRows_19, w_X8_sharedRows_20, w_X8_sharedRows_22, w_X8_sharedRows_25, w_X8_sharedRows_28, w_X8_sharedRows_31, w_X8_sharedRows_34, w_X8_sharedRows_37, w_X8_sharedRows_38, pm_1i_c, pm_2i_c, pm_1l_c, pm_2l_c, pm_1a_c, pm_ia_c, pm_iia_c, pm_va_c, pm_cp_c, pm_k0_c, pm_k1_c, pm_k2_c, pm_k3_c, pm_s1_c, pm_s2_c, pm_s3_c, pm_s4_c, pm_ri_c, pm_ra_c, pm_rn_c, pm_rk_i, pm_rk_z, pm_rk_a, pm_vk_i, pm_vk_z, pm_vk_a, pm_cti, pm_ctr, pm_ldi_z, pm_ldi_s, pm_lda_z, pm_lda_s, pm_cat_n, pm_cat_i, pm_cat_r, pm_cat_l, pm_obj, pm_arr, pm_opt, pm_ird, pm_aln, List.getElem?_cons_zero, List.getElem?_cons_succ, List.set_cons_zero, List.set_cons_succ, List.length_cons, List.length_nil, List.length_set, true_and, and_true, Nat.add_zero, Nat.zero_add, Nat.le_refl, Nat.reduceAdd, Nat.reduceLT, Nat.reduceLeDiff, Nat.zero_le, not_false_eq_true, not_true_eq_false, false_implies, implies_true, true_implies, Nat.zero_lt_succ, Nat.lt_add_one, pm_tl_s, h1]
      refine PM_use (c_Sketch_placeOf hl H0 V other (by omega) d) ?_
      rintro v h' - ⟨rfl, rfl⟩
      show W_X8_sharedRows _ _ _ _ _ _ _ _ _
      simp only [w_X8_sharedRows_0, w_X8_sharedRows_1, w_X8_sharedRows_2, w_X8_sharedRows_3, w_X8_sharedRows_7, w_X8_sharedRows_8, w_X8_sharedRows_11, w_X8_sharedRows_12, w_X8_sharedRows_13, w_X8_sharedRows_15, w_X8_sharedRows_18, w_X8_sharedRows_19, w_X8_sharedRows_20, w_X8_sharedRows_22, w_X8_sharedRows_25, w_X8_sharedRows_28, w_X8_sharedRows_31, w_X8_sharedRows_34, w_X8_sharedRows_37, w_X8_sharedRows_38, pm_1i_c, pm_2i_c, pm_1l_c, pm_2l_c, pm_1a_c, pm_ia_c, pm_iia_c, pm_va_c, pm_cp_c, pm_k0_c, pm_k1_c, pm_k2_c, pm_k3_c, pm_s1_c, pm_s2_c, pm_s3_c, pm_s4_c, pm_ri_c, pm_ra_c, pm_rn_c, pm_rk_i, pm_rk_z, pm_rk_a, pm_vk_i, pm_vk_z, pm_vk_a, pm_cti, pm_ctr, pm_ldi_z, pm_ldi_s, pm_lda_z, pm_lda_s, pm_cat_n, pm_cat_i, pm_cat_r, pm_cat_l, pm_obj, pm_arr, pm_opt, pm_ird, pm_aln, List.getElem?_cons_zero, List.getElem?_cons_succ, List.set_cons_zero, List.set_cons_succ, List.length_cons, List.length_nil, List.length_set, true_and, and_true, Nat.add_zero, Nat.zero_add, Nat.le_refl, Nat.reduceAdd, Nat.reduceLT, Nat.reduceLeDiff, Nat.zero_le, not_false_eq_true, not_true_eq_false, false_implies, implies_true, true_implies, Nat.zero_lt_succ, Nat.lt_add_one, pm_tl_s, nI_1]
      have K := ih (r + 1) (by omega) (by omega)
      refine ⟨fun c => ?_, fun c => ?_⟩
      · have e : shrF A key other (r + 1) = shrF A key other r := if_neg c
        rw [e] at K
        exact K
      · have e : shrF A key other (r + 1) = shrF A key other r + 1 := if_pos c
        rw [e] at K
        exact K
  simp only [w_X8_sharedRows_0, w_X8_sharedRows_1, w_X8_sharedRows_2, w_X8_sharedRows_3, w_X8_sharedRows_7, w_X8_sharedRows_8, w_X8_sharedRows_11, w_X8_sharedRows_12, w_X8_sharedRows_13, w_X8_sharedRows_15, w_X8_sharedRows_18, w_X8_sharedRows_19, w_X8_sharedRows_20, w_X8_sharedRows_22, w_X8_sharedRows_25, w_X8_sharedRows_28, w_X8_sharedRows_31, w_X8_sharedRows_34, w_X8_sharedRows_37, w_X8_sharedRows_38, pm_1i_c, pm_2i_c, pm_1l_c, pm_2l_c, pm_1a_c, pm_ia_c, pm_iia_c, pm_va_c, pm_cp_c, pm_k0_c, pm_k1_c, pm_k2_c, pm_k3_c, pm_s1_c, pm_s2_c, pm_s3_c, pm_s4_c, pm_ri_c, pm_ra_c, pm_rn_c, pm_rk_i, pm_rk_z, pm_rk_a, pm_vk_i, pm_vk_z, pm_vk_a, pm_cti, pm_ctr, pm_ldi_z, pm_ldi_s, pm_lda_z, pm_lda_s, pm_cat_n, pm_cat_i, pm_cat_r, pm_cat_l, pm_obj, pm_arr, pm_opt, pm_ird, pm_aln, List.getElem?_cons_zero, List.getElem?_cons_succ, List.set_cons_zero, List.set_cons_succ, List.length_cons, List.length_nil, List.length_set, true_and, and_true, Nat.add_zero, Nat.zero_add, Nat.le_refl, Nat.reduceAdd, Nat.reduceLT, Nat.reduceLeDiff, Nat.zero_le, not_false_eq_true, not_true_eq_false, false_implies, implies_true, true_implies, Nat.zero_lt_succ, Nat.lt_add_one]
  exact loop 4 0 rfl (by omega)
theorem c_Sketch_forgetNotes (H : skA h a A) (d : Nat) : PM (d + 1) 87 [.ref a] h (fun v h' => v = none ∧ skA h' a (uN A (fun _ => 0)) ∧ fr3 h h' a) := by
  obtain ⟨h1, h4, fn, h2, h3⟩ := H
  refine en_X8_forgetNotes rfl ?_
  have loop : ∀ n k, 256 - k = n → k ≤ 256 → ∀ (hh : pmH) (f : Nat → Int32), hh[a]? = h[a]? → hh[a + 1]? = h[a + 1]? → hh[a + 2]? = some (.inl (2, 256, .inl f)) → (∀ j, j < k → f j = 0) → hh.length = h.length → fr3 h hh a → W_X8_forgetNotes d (h.length + 0) 0 (fun v h' => v = none ∧ skA h' a (uN A (fun _ => 0)) ∧ fr3 h h' a) 2 [some (.ref a), some (.int (nI k))] [] hh 0 := by
    intro n
    induction n with
    | zero =>
      intro k hn hk hh f q1 q2 q3 q4 q5 q6
      have : k = 256 := by omega
      subst this
      have e1 : ¬ nI 256 < nI 256 := by decide
      rw [w_X8_forgetNotes_2]
      simp only [w_X8_forgetNotes_0, w_X8_forgetNotes_1, w_X8_forgetNotes_3, w_X8_forgetNotes_4, w_X8_forgetNotes_7, w_X8_forgetNotes_8, w_X8_forgetNotes_11, w_X8_forgetNotes_12, w_X8_forgetNotes_15, w_X8_forgetNotes_16, w_X8_forgetNotes_17, w_X8_forgetNotes_18, w_X8_forgetNotes_21, w_X8_forgetNotes_24, pm_1i_c, pm_2i_c, pm_1l_c, pm_2l_c, pm_1a_c, pm_ia_c, pm_iia_c, pm_va_c, pm_cp_c, pm_k0_c, pm_k1_c, pm_k2_c, pm_k3_c, pm_s1_c, pm_s2_c, pm_s3_c, pm_s4_c, pm_ri_c, pm_ra_c, pm_rn_c, pm_rk_i, pm_rk_z, pm_rk_a, pm_vk_i, pm_vk_z, pm_vk_a, pm_cti, pm_ctr, pm_ldi_z, pm_ldi_s, pm_lda_z, pm_lda_s, pm_cat_n, pm_cat_i, pm_cat_r, pm_cat_l, pm_obj, pm_arr, pm_opt, pm_ird, pm_aln, List.getElem?_cons_zero, List.getElem?_cons_succ, List.set_cons_zero, List.set_cons_succ, List.length_cons, List.length_nil, List.length_set, true_and, and_true, Nat.add_zero, Nat.zero_add, Nat.le_refl, Nat.reduceAdd, Nat.reduceLT, Nat.reduceLeDiff, Nat.zero_le, not_false_eq_true, not_true_eq_false, false_implies, implies_true, true_implies, Nat.zero_lt_succ, Nat.lt_add_one, q1, q2, q3, h1, e1, q5]
      exact ⟨⟨by rw [q1]; exact h1, by rw [q2]; exact h4, f, q3, q4⟩, q6⟩
    | succ n ih =>
      intro k hn hk hh f q1 q2 q3 q4 q5 q6
      have e1 : nI k < nI 256 := nI_lt (by omega) (by omega)
      have e3 : vp_in (nI k) 256 := vp_in_nI (by omega) (by omega)
      have e4 : (nI k).toNatClampNeg = k := nI_clamp (by omega)
      rw [w_X8_forgetNotes_2]
      simp only [w_X8_forgetNotes_0, w_X8_forgetNotes_1, w_X8_forgetNotes_3, w_X8_forgetNotes_4, w_X8_forgetNotes_7, w_X8_forgetNotes_8, w_X8_forgetNotes_11, w_X8_forgetNotes_12, w_X8_forgetNotes_15, w_X8_forgetNotes_16, w_X8_forgetNotes_17, w_X8_forgetNotes_18, w_X8_forgetNotes_21, w_X8_forgetNotes_24, pm_1i_c, pm_2i_c, pm_1l_c, pm_2l_c, pm_1a_c, pm_ia_c, pm_iia_c, pm_va_c, pm_cp_c, pm_k0_c, pm_k1_c, pm_k2_c, pm_k3_c, pm_s1_c, pm_s2_c, pm_s3_c, pm_s4_c, pm_ri_c, pm_ra_c, pm_rn_c, pm_rk_i, pm_rk_z, pm_rk_a, pm_vk_i, pm_vk_z, pm_vk_a, pm_cti, pm_ctr, pm_ldi_z, pm_ldi_s, pm_lda_z, pm_lda_s, pm_cat_n, pm_cat_i, pm_cat_r, pm_cat_l, pm_obj, pm_arr, pm_opt, pm_ird, pm_aln, List.getElem?_cons_zero, List.getElem?_cons_succ, List.set_cons_zero, List.set_cons_succ, List.length_cons, List.length_nil, List.length_set, true_and, and_true, Nat.add_zero, Nat.zero_add, Nat.le_refl, Nat.reduceAdd, Nat.reduceLT, Nat.reduceLeDiff, Nat.zero_le, not_false_eq_true, not_true_eq_false, false_implies, implies_true, true_implies, Nat.zero_lt_succ, Nat.lt_add_one, q1, q2, q3, h1, e1, e3, e4, nI_1]
      refine ⟨Or.inr trivial, ih (k + 1) (by omega) (by omega) _ _ (by rw [hset_31]; exact q1) (by rw [hset_32]; exact q2) (by rw [hset_s, q3]; rfl) (fun j hj => ?_) (by rw [List.length_set]; exact q5) (q6.tr (fun i x y z => hset_n (Ne.symm z)))⟩
      unfold upd
      split
      · decide
      · exact q4 j (by omega)
  simp only [w_X8_forgetNotes_0, w_X8_forgetNotes_1, w_X8_forgetNotes_3, w_X8_forgetNotes_4, w_X8_forgetNotes_7, w_X8_forgetNotes_8, w_X8_forgetNotes_11, w_X8_forgetNotes_12, w_X8_forgetNotes_15, w_X8_forgetNotes_16, w_X8_forgetNotes_17, w_X8_forgetNotes_18, w_X8_forgetNotes_21, w_X8_forgetNotes_24, pm_1i_c, pm_2i_c, pm_1l_c, pm_2l_c, pm_1a_c, pm_ia_c, pm_iia_c, pm_va_c, pm_cp_c, pm_k0_c, pm_k1_c, pm_k2_c, pm_k3_c, pm_s1_c, pm_s2_c, pm_s3_c, pm_s4_c, pm_ri_c, pm_ra_c, pm_rn_c, pm_rk_i, pm_rk_z, pm_rk_a, pm_vk_i, pm_vk_z, pm_vk_a, pm_cti, pm_ctr, pm_ldi_z, pm_ldi_s, pm_lda_z, pm_lda_s, pm_cat_n, pm_cat_i, pm_cat_r, pm_cat_l, pm_obj, pm_arr, pm_opt, pm_ird, pm_aln, List.getElem?_cons_zero, List.getElem?_cons_succ, List.set_cons_zero, List.set_cons_succ, List.length_cons, List.length_nil, List.length_set, true_and, and_true, Nat.add_zero, Nat.zero_add, Nat.le_refl, Nat.reduceAdd, Nat.reduceLT, Nat.reduceLeDiff, Nat.zero_le, not_false_eq_true, not_true_eq_false, false_implies, implies_true, true_implies, Nat.zero_lt_succ, Nat.lt_add_one]
  exact loop 256 0 rfl (by omega) h fn rfl rfl h2 (fun j hj => by omega) rfl fr3.rf
theorem c_Sketch_halveAll (H : skA h a A) (d : Nat) : PM (d + 2) 86 [.ref a] h (fun v h' => v = none ∧ skA h' a (halF A) ∧ fr3 h h' a) := by
  obtain ⟨h1, ⟨fc, h2, h3⟩, h4⟩ := H
  refine en_X8_halveAll rfl ?_
  have loop : ∀ n k, 1024 - k = n → k ≤ 1024 → ∀ (hh : pmH) (f : Nat → Int32), hh[a]? = h[a]? → hh[a + 2]? = h[a + 2]? → hh[a + 1]? = some (.inl (0, 1024, .inl f)) → (∀ j, j < 1024 → f j = if j < k then cn A j / 2 else cn A j) → hh.length = h.length → fr3 h hh a → W_X8_halveAll (d + 1) (h.length + 0) 0 (fun v h' => v = none ∧ skA h' a (halF A) ∧ fr3 h h' a) 2 [some (.ref a), some (.int (nI k))] [] hh 0 := by
    intro n
    induction n with
    | zero =>
      intro k hn hk hh f q1 q2 q3 q4 q5 q6
      have : k = 1024 := by omega
      subst this
      have e1 : ¬ nI 1024 < nI 1024 := by decide
      have e2 : ¬ (2 : Int32) = 0 := by decide
      rw [w_X8_halveAll_2]
      simp only [w_X8_halveAll_0, w_X8_halveAll_1, w_X8_halveAll_3, w_X8_halveAll_4, w_X8_halveAll_7, w_X8_halveAll_8, w_X8_halveAll_11, w_X8_halveAll_12, w_X8_halveAll_15, w_X8_halveAll_16, w_X8_halveAll_17, w_X8_halveAll_20, w_X8_halveAll_21, w_X8_halveAll_22, w_X8_halveAll_23, w_X8_halveAll_24, w_X8_halveAll_25, w_X8_halveAll_28, w_X8_halveAll_31, w_X8_halveAll_32, w_X8_halveAll_33, w_X8_halveAll_36, w_X8_halveAll_37, w_X8_halveAll_38, w_X8_halveAll_41, w_X8_halveAll_42, w_X8_halveAll_43, w_X8_halveAll_46, w_X8_halveAll_47, w_X8_halveAll_48, w_X8_halveAll_51, w_X8_halveAll_52, w_X8_halveAll_55, pm_1i_c, pm_2i_c, pm_1l_c, pm_2l_c, pm_1a_c, pm_ia_c, pm_iia_c, pm_va_c, pm_cp_c, pm_k0_c, pm_k1_c, pm_k2_c, pm_k3_c, pm_s1_c, pm_s2_c, pm_s3_c, pm_s4_c, pm_ri_c, pm_ra_c, pm_rn_c, pm_rk_i, pm_rk_z, pm_rk_a, pm_vk_i, pm_vk_z, pm_vk_a, pm_cti, pm_ctr, pm_ldi_z, pm_ldi_s, pm_lda_z, pm_lda_s, pm_cat_n, pm_cat_i, pm_cat_r, pm_cat_l, pm_obj, pm_arr, pm_opt, pm_ird, pm_aln, List.getElem?_cons_zero, List.getElem?_cons_succ, List.set_cons_zero, List.set_cons_succ, List.length_cons, List.length_nil, List.length_set, true_and, and_true, Nat.add_zero, Nat.zero_add, Nat.le_refl, Nat.reduceAdd, Nat.reduceLT, Nat.reduceLeDiff, Nat.zero_le, not_false_eq_true, not_true_eq_false, false_implies, implies_true, true_implies, Nat.zero_lt_succ, Nat.lt_add_one, q1, q2, q3, h1, e1, e2, hset_s, Option.map_some, List.set_set, q5]
      have K := c_Sketch_forgetNotes (h := hh.set a (.inr (8, [.ref (a + 1), .ref (a + 2), .int (sc A 14), .int (sc A 0 / 2), .int (sc A 11), .int (sc A 13), .int (sc A 1 + 1)]))) (a := a) (A := uS (uS (uC A (fun k => cn A k / 2)) 0 (sc A 0 / 2)) 1 (sc A 1 + 1)) ⟨by rw [hset_s, q1, h1]; rfl, ⟨f, by rw [hset_r2]; exact q3, fun j hj => by rw [q4 j hj, if_pos hj]; rfl⟩, by rw [hset_34, q2]; exact h4⟩ d
      refine PM_use K ?_
      rintro v h' hlen ⟨rfl, K1, K2⟩
      show W_X8_halveAll _ _ _ _ _ _ _ _ _
      simp only [w_X8_halveAll_0, w_X8_halveAll_1, w_X8_halveAll_3, w_X8_halveAll_4, w_X8_halveAll_7, w_X8_halveAll_8, w_X8_halveAll_11, w_X8_halveAll_12, w_X8_halveAll_15, w_X8_halveAll_16, w_X8_halveAll_17, w_X8_halveAll_20, w_X8_halveAll_21, w_X8_halveAll_22, w_X8_halveAll_23, w_X8_halveAll_24, w_X8_halveAll_25, w_X8_halveAll_28, w_X8_halveAll_31, w_X8_halveAll_32, w_X8_halveAll_33, w_X8_halveAll_36, w_X8_halveAll_37, w_X8_halveAll_38, w_X8_halveAll_41, w_X8_halveAll_42, w_X8_halveAll_43, w_X8_halveAll_46, w_X8_halveAll_47, w_X8_halveAll_48, w_X8_halveAll_51, w_X8_halveAll_52, w_X8_halveAll_55, pm_1i_c, pm_2i_c, pm_1l_c, pm_2l_c, pm_1a_c, pm_ia_c, pm_iia_c, pm_va_c, pm_cp_c, pm_k0_c, pm_k1_c, pm_k2_c, pm_k3_c, pm_s1_c, pm_s2_c, pm_s3_c, pm_s4_c, pm_ri_c, pm_ra_c, pm_rn_c, pm_rk_i, pm_rk_z, pm_rk_a, pm_vk_i, pm_vk_z, pm_vk_a, pm_cti, pm_ctr, pm_ldi_z, pm_ldi_s, pm_lda_z, pm_lda_s, pm_cat_n, pm_cat_i, pm_cat_r, pm_cat_l, pm_obj, pm_arr, pm_opt, pm_ird, pm_aln, List.getElem?_cons_zero, List.getElem?_cons_succ, List.set_cons_zero, List.set_cons_succ, List.length_cons, List.length_nil, List.length_set, true_and, and_true, Nat.add_zero, Nat.zero_add, Nat.le_refl, Nat.reduceAdd, Nat.reduceLT, Nat.reduceLeDiff, Nat.zero_le, not_false_eq_true, not_true_eq_false, false_implies, implies_true, true_implies, Nat.zero_lt_succ, Nat.lt_add_one, pm_tl_n]
      refine ⟨by rw [hlen, List.length_set, q5]; rfl, K1, q6.tr (fr3.tr (fun i x y z => hset_n (Ne.symm x)) K2)⟩
    | succ n ih =>
      intro k hn hk hh f q1 q2 q3 q4 q5 q6
      have e1 : nI k < nI 1024 := nI_lt (by omega) (by omega)
      have e3 : vp_in (nI k) 1024 := vp_in_nI (by omega) (by omega)
      have e4 : (nI k).toNatClampNeg = k := nI_clamp (by omega)
      have e2 : ¬ (2 : Int32) = 0 := by decide
      rw [w_X8_halveAll_2]
      simp only [w_X8_halveAll_0, w_X8_halveAll_1, w_X8_halveAll_3, w_X8_halveAll_4, w_X8_halveAll_7, w_X8_halveAll_8, w_X8_halveAll_11, w_X8_halveAll_12, w_X8_halveAll_15, w_X8_halveAll_16, w_X8_halveAll_17, w_X8_halveAll_20, w_X8_halveAll_21, w_X8_halveAll_22, w_X8_halveAll_23, w_X8_halveAll_24, w_X8_halveAll_25, w_X8_halveAll_28, w_X8_halveAll_31, w_X8_halveAll_32, w_X8_halveAll_33, w_X8_halveAll_36, w_X8_halveAll_37, w_X8_halveAll_38, w_X8_halveAll_41, w_X8_halveAll_42, w_X8_halveAll_43, w_X8_halveAll_46, w_X8_halveAll_47, w_X8_halveAll_48, w_X8_halveAll_51, w_X8_halveAll_52, w_X8_halveAll_55, pm_1i_c, pm_2i_c, pm_1l_c, pm_2l_c, pm_1a_c, pm_ia_c, pm_iia_c, pm_va_c, pm_cp_c, pm_k0_c, pm_k1_c, pm_k2_c, pm_k3_c, pm_s1_c, pm_s2_c, pm_s3_c, pm_s4_c, pm_ri_c, pm_ra_c, pm_rn_c, pm_rk_i, pm_rk_z, pm_rk_a, pm_vk_i, pm_vk_z, pm_vk_a, pm_cti, pm_ctr, pm_ldi_z, pm_ldi_s, pm_lda_z, pm_lda_s, pm_cat_n, pm_cat_i, pm_cat_r, pm_cat_l, pm_obj, pm_arr, pm_opt, pm_ird, pm_aln, List.getElem?_cons_zero, List.getElem?_cons_succ, List.set_cons_zero, List.set_cons_succ, List.length_cons, List.length_nil, List.length_set, true_and, and_true, Nat.add_zero, Nat.zero_add, Nat.le_refl, Nat.reduceAdd, Nat.reduceLT, Nat.reduceLeDiff, Nat.zero_le, not_false_eq_true, not_true_eq_false, false_implies, implies_true, true_implies, Nat.zero_lt_succ, Nat.lt_add_one, q1, q2, q3, h1, e1, e2, e3, e4, nI_1]
      refine ih (k + 1) (by omega) (by omega) _ _ (by rw [hset_r1]; exact q1) (by rw [hset_33]; exact q2) (by rw [hset_s, q3]; rfl) (fun j hj => ?_) (by rw [List.length_set]; exact q5) (q6.tr (fun i x y z => hset_n (Ne.symm y)))
      unfold upd
      by_cases c : j = k
      · subst c
        rw [if_pos rfl, if_pos (by omega), q4 j hj, if_neg (by omega)]
      · rw [if_neg c, q4 j hj]
        by_cases c2 : j < k
        · rw [if_pos c2, if_pos (by omega)]
        · rw [if_neg c2, if_neg (by omega)]
  simp only [w_X8_halveAll_0, w_X8_halveAll_1, w_X8_halveAll_3, w_X8_halveAll_4, w_X8_halveAll_7, w_X8_halveAll_8, w_X8_halveAll_11, w_X8_halveAll_12, w_X8_halveAll_15, w_X8_halveAll_16, w_X8_halveAll_17, w_X8_halveAll_20, w_X8_halveAll_21, w_X8_halveAll_22, w_X8_halveAll_23, w_X8_halveAll_24, w_X8_halveAll_25, w_X8_halveAll_28, w_X8_halveAll_31, w_X8_halveAll_32, w_X8_halveAll_33, w_X8_halveAll_36, w_X8_halveAll_37, w_X8_halveAll_38, w_X8_halveAll_41, w_X8_halveAll_42, w_X8_halveAll_43, w_X8_halveAll_46, w_X8_halveAll_47, w_X8_halveAll_48, w_X8_halveAll_51, w_X8_halveAll_52, w_X8_halveAll_55, pm_1i_c, pm_2i_c, pm_1l_c, pm_2l_c, pm_1a_c, pm_ia_c, pm_iia_c, pm_va_c, pm_cp_c, pm_k0_c, pm_k1_c, pm_k2_c, pm_k3_c, pm_s1_c, pm_s2_c, pm_s3_c, pm_s4_c, pm_ri_c, pm_ra_c, pm_rn_c, pm_rk_i, pm_rk_z, pm_rk_a, pm_vk_i, pm_vk_z, pm_vk_a, pm_cti, pm_ctr, pm_ldi_z, pm_ldi_s, pm_lda_z, pm_lda_s, pm_cat_n, pm_cat_i, pm_cat_r, pm_cat_l, pm_obj, pm_arr, pm_opt, pm_ird, pm_aln, List.getElem?_cons_zero, List.getElem?_cons_succ, List.set_cons_zero, List.set_cons_succ, List.length_cons, List.length_nil, List.length_set, true_and, and_true, Nat.add_zero, Nat.zero_add, Nat.le_refl, Nat.reduceAdd, Nat.reduceLT, Nat.reduceLeDiff, Nat.zero_le, not_false_eq_true, not_true_eq_false, false_implies, implies_true, true_implies, Nat.zero_lt_succ, Nat.lt_add_one]
  exact loop 1024 0 rfl (by omega) h fc rfl rfl h2 (fun j hj => by rw [if_neg (by omega)]; exact h3 j hj) rfl fr3.rf
/-- as often as ADDED is the sample or more, n times at most -/
def halN (n : Nat) (A : AD) : AD := match n with
  | 0 => A
  | n + 1 => if sc A 0 < sc A 11 then A else halN n (halF A)
theorem c_Sketch_setSample (H : skA h a A) (n : Int32) (d : Nat) : PM (d + 3) 88 [.ref a, .int n] h (fun v h' => v = none ∧ skA h' a (halN 32 (uS A 11 n)) ∧ fr3 h h' a) := by
  obtain ⟨h1, h2, h4⟩ := H
  refine en_X8_setSample rfl rfl ?_
  have loop : ∀ j k, 32 - k = j → k ≤ 32 → ∀ (hh : pmH) (B : AD), skA hh a B → halN j B = halN 32 (uS A 11 n) → hh.length = h.length → fr3 h hh a → W_X8_setSample (d + 2) (h.length + 0) 0 (fun v h' => v = none ∧ skA h' a (halN 32 (uS A 11 n)) ∧ fr3 h h' a) 7 [some (.ref a), some (.int n), some (.int (nI k))] [] hh 0 := by
    intro j
    induction j with
    | zero =>
      intro k hn hk hh B q1 q2 q3 q4
      have : k = 32 := by omega
      subst this
      have e1 : ¬ nI 32 < 32 := by decide
      rw [w_X8_setSample_7]
      simp only [w_X8_setSample_0, w_X8_setSample_1, w_X8_setSample_2, w_X8_setSample_5, w_X8_setSample_6, w_X8_setSample_8, w_X8_setSample_10, w_X8_setSample_13, w_X8_setSample_14, w_X8_setSample_17, w_X8_setSample_18, w_X8_setSample_21, w_X8_setSample_24, w_X8_setSample_25, w_X8_setSample_28, w_X8_setSample_31, w_X8_setSample_34, pm_1i_c, pm_2i_c, pm_1l_c, pm_2l_c, pm_1a_c, pm_ia_c, pm_iia_c, pm_va_c, pm_cp_c, pm_k0_c, pm_k1_c, pm_k2_c, pm_k3_c, pm_s1_c, pm_s2_c, pm_s3_c, pm_s4_c, pm_ri_c, pm_ra_c, pm_rn_c, pm_rk_i, pm_rk_z, pm_rk_a, pm_vk_i, pm_vk_z, pm_vk_a, pm_cti, pm_ctr, pm_ldi_z, pm_ldi_s, pm_lda_z, pm_lda_s, pm_cat_n, pm_cat_i, pm_cat_r, pm_cat_l, pm_obj, pm_arr, pm_opt, pm_ird, pm_aln, List.getElem?_cons_zero, List.getElem?_cons_succ, List.set_cons_zero, List.set_cons_succ, List.length_cons, List.length_nil, List.length_set, true_and, and_true, Nat.add_zero, Nat.zero_add, Nat.le_refl, Nat.reduceAdd, Nat.reduceLT, Nat.reduceLeDiff, Nat.zero_le, not_false_eq_true, not_true_eq_false, false_implies, implies_true, true_implies, Nat.zero_lt_succ, Nat.lt_add_one, e1, q3]
      rw [← q2]
      exact ⟨q1, q4⟩
    | succ j ih =>
      intro k hn hk hh B q1 q2 q3 q4
      have e1 : nI k < 32 := nI_lt (a := k) (b := 32) (by omega) (by omega)
      have b1 := q1.1
      rw [w_X8_setSample_7]
      simp only [w_X8_setSample_0, w_X8_setSample_1, w_X8_setSample_2, w_X8_setSample_5, w_X8_setSample_6, w_X8_setSample_8, w_X8_setSample_10, w_X8_setSample_13, w_X8_setSample_14, w_X8_setSample_17, w_X8_setSample_18, w_X8_setSample_21, w_X8_setSample_24, w_X8_setSample_25, w_X8_setSample_28, w_X8_setSample_31, w_X8_setSample_34, pm_1i_c, pm_2i_c, pm_1l_c, pm_2l_c, pm_1a_c, pm_ia_c, pm_iia_c, pm_va_c, pm_cp_c, pm_k0_c, pm_k1_c, pm_k2_c, pm_k3_c, pm_s1_c, pm_s2_c, pm_s3_c, pm_s4_c, pm_ri_c, pm_ra_c, pm_rn_c, pm_rk_i, pm_rk_z, pm_rk_a, pm_vk_i, pm_vk_z, pm_vk_a, pm_cti, pm_ctr, pm_ldi_z, pm_ldi_s, pm_lda_z, pm_lda_s, pm_cat_n, pm_cat_i, pm_cat_r, pm_cat_l, pm_obj, pm_arr, pm_opt, pm_ird, pm_aln, List.getElem?_cons_zero, List.getElem?_cons_succ, List.set_cons_zero, List.set_cons_succ, List.length_cons, List.length_nil, List.length_set, true_and, and_true, Nat.add_zero, Nat.zero_add, Nat.le_refl, Nat.reduceAdd, Nat.reduceLT, Nat.reduceLeDiff, Nat.zero_le, not_false_eq_true, not_true_eq_false, false_implies, implies_true, true_implies, Nat.zero_lt_succ, Nat.lt_add_one, b1, e1, q3]
      refine ⟨fun c => ?_, fun c => ?_⟩
      · rw [← q2]
        show skA hh a (if sc B 0 < sc B 11 then B else halN j (halF B)) ∧ _
        rw [if_pos c]
        exact ⟨q1, q4⟩
      · refine PM_use (c_Sketch_halveAll q1 d) ?_
        rintro v h' hlen ⟨rfl, K1, K2⟩
        show W_X8_setSample _ _ _ _ _ _ _ _ _
        simp only [w_X8_setSample_0, w_X8_setSample_1, w_X8_setSample_2, w_X8_setSample_5, w_X8_setSample_6, w_X8_setSample_8, w_X8_setSample_10, w_X8_setSample_13, w_X8_setSample_14, w_X8_setSample_17, w_X8_setSample_18, w_X8_setSample_21, w_X8_setSample_24, w_X8_setSample_25, w_X8_setSample_28, w_X8_setSample_31, w_X8_setSample_34, pm_1i_c, pm_2i_c, pm_1l_c, pm_2l_c, pm_1a_c, pm_ia_c, pm_iia_c, pm_va_c, pm_cp_c, pm_k0_c, pm_k1_c, pm_k2_c, pm_k3_c, pm_s1_c, pm_s2_c, pm_s3_c, pm_s4_c, pm_ri_c, pm_ra_c, pm_rn_c, pm_rk_i, pm_rk_z, pm_rk_a, pm_vk_i, pm_vk_z, pm_vk_a, pm_cti, pm_ctr, pm_ldi_z, pm_ldi_s, pm_lda_z, pm_lda_s, pm_cat_n, pm_cat_i, pm_cat_r, pm_cat_l, pm_obj, pm_arr, pm_opt, pm_ird, pm_aln, List.getElem?_cons_zero, List.getElem?_cons_succ, List.set_cons_zero, List.set_cons_succ, List.length_cons, List.length_nil, List.length_set, true_and, and_true, Nat.add_zero, Nat.zero_add, Nat.le_refl, Nat.reduceAdd, Nat.reduceLT, Nat.reduceLeDiff, Nat.zero_le, not_false_eq_true, not_true_eq_false, false_implies, implies_true, true_implies, Nat.zero_lt_succ, Nat.lt_add_one, pm_tl_n, nI_1]
        refine ih (k + 1) (by omega) (by omega) h' (halF B) K1 ?_ (by rw [hlen, q3]; rfl) (q4.tr K2)
        rw [← q2]
        show _ = if sc B 0 < sc B 11 then B else halN j (halF B)
        rw [if_neg c]
  simp only [w_X8_setSample_0, w_X8_setSample_1, w_X8_setSample_2, w_X8_setSample_5, w_X8_setSample_6, w_X8_setSample_8, w_X8_setSample_10, w_X8_setSample_13, w_X8_setSample_14, w_X8_setSample_17, w_X8_setSample_18, w_X8_setSample_21, w_X8_setSample_24, w_X8_setSample_25, w_X8_setSample_28, w_X8_setSample_31, w_X8_setSample_34, pm_1i_c, pm_2i_c, pm_1l_c, pm_2l_c, pm_1a_c, pm_ia_c, pm_iia_c, pm_va_c, pm_cp_c, pm_k0_c, pm_k1_c, pm_k2_c, pm_k3_c, pm_s1_c, pm_s2_c, pm_s3_c, pm_s4_c, pm_ri_c, pm_ra_c, pm_rn_c, pm_rk_i, pm_rk_z, pm_rk_a, pm_vk_i, pm_vk_z, pm_vk_a, pm_cti, pm_ctr, pm_ldi_z, pm_ldi_s, pm_lda_z, pm_lda_s, pm_cat_n, pm_cat_i, pm_cat_r, pm_cat_l, pm_obj, pm_arr, pm_opt, pm_ird, pm_aln, List.getElem?_cons_zero, List.getElem?_cons_succ, List.set_cons_zero, List.set_cons_succ, List.length_cons, List.length_nil, List.length_set, true_and, and_true, Nat.add_zero, Nat.zero_add, Nat.le_refl, Nat.reduceAdd, Nat.reduceLT, Nat.reduceLeDiff, Nat.zero_le, not_false_eq_true, not_true_eq_false, false_implies, implies_true, true_implies, Nat.zero_lt_succ, Nat.lt_add_one, h1]
  exact loop 32 0 rfl (by omega) _ (uS A 11 n) ⟨by rw [hset_s, h1]; rfl, by rw [hset_r2]; exact h2, by rw [hset_34]; exact h4⟩ rfl (by rw [List.length_set]) (fun i x y z => hset_n (Ne.symm x))
end SKG
