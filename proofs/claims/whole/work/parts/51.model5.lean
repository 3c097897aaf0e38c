/-! AdmissionDeskModel: the contest by the law. -/
section MF
variable {h h' : pmH} {m : Nat} {o : Nat → Int32} {A A' : AD}
theorem md_.keep (H : md_ h m o A) (e0 : h'[m]? = h[m]?) (e1 : h'[m + 1]? = h[m + 1]?) : md_ h' m o A := by
  obtain ⟨H0, f, H1, R⟩ := H
  exact ⟨e0.trans H0, f, e1.trans H1, R⟩
/-- the pile is there -/
def pil (h : pmH) (m : Nat) : Prop := ∃ g, h[m + 7]? = some (.inl (0, 500, .inl g))
theorem pil.keep (P : pil h m) (e : h'[m + 7]? = h[m + 7]?) : pil h' m := by
  obtain ⟨g, hg⟩ := P
  exact ⟨g, e.trans hg⟩
/-- but the row of numbers and the pile nothing has changed -/
def frm (h h' : pmH) (m : Nat) : Prop := ∀ i, i ≠ m + 1 → i ≠ m + 7 → h'[i]? = h[i]?
theorem frm.rf : frm h h m := fun _ _ _ => rfl
theorem frm.tr {h2 : pmH} (x : frm h h' m) (y : frm h' h2 m) : frm h h2 m := fun i p q => (y i p q).trans (x i p q)
theorem fr1.tm (x : fr1 h h' (m + 1)) : frm h h' m := fun i p _ => x i p
theorem fr1.tp (x : fr1 h h' (m + 7)) : frm h h' m := fun i _ p => x i p
theorem pil.t1 (P : pil h m) (x : fr1 h h' (m + 1)) : pil h' m := P.keep (x _ (by omega))
theorem c_M_joined (c l r : Int32) (d : Nat) : PM (d + 1) 177 [.int c, .int l, .int r] h (fun v h' => v = some (.int (mjn c l r)) ∧ h' = h) := by
  refine en_X12_joined rfl rfl rfl ?_
  simp only [w_X12_joined_0, w_X12_joined_1, w_X12_joined_44, w_X12_joined_45, w_X12_joined_46, w_X12_joined_47, w_X12_joined_48, w_X12_joined_49, w_X12_joined_50, w_X12_joined_51, w_X12_joined_52, w_X12_joined_53, w_X12_joined_54, w_X12_joined_57, w_X12_joined_58, w_X12_joined_61, w_X12_joined_62, w_X12_joined_63, w_X12_joined_64, w_X12_joined_65, w_X12_joined_68, w_X12_joined_69, w_X12_joined_72, w_X12_joined_73, w_X12_joined_74, w_X12_joined_75, w_X12_joined_76, w_X12_joined_79, w_X12_joined_80, w_X12_joined_83, w_X12_joined_84, w_X12_joined_85, w_X12_joined_86, w_X12_joined_87, w_X12_joined_88, w_X12_joined_89, w_X12_joined_90, w_X12_joined_91, w_X12_joined_92, pm_1i_c, pm_2i_c, pm_1l_c, pm_2l_c, pm_1a_c, pm_ia_c, pm_iia_c, pm_va_c, pm_cp_c, pm_k0_c, pm_k1_c, pm_k2_c, pm_k3_c, pm_s1_c, pm_s2_c, pm_s3_c, pm_s4_c, pm_ri_c, pm_ra_c, pm_rn_c, pm_rk_i, pm_rk_z, pm_rk_a, pm_vk_i, pm_vk_z, pm_vk_a, pm_cti, pm_ctr, pm_ldi_z, pm_ldi_s, pm_lda_z, pm_lda_s, pm_cat_n, pm_cat_i, pm_cat_r, pm_cat_l, pm_obj, pm_arr, pm_opt, pm_ird, pm_aln, List.getElem?_cons_zero, List.getElem?_cons_succ, List.set_cons_zero, List.set_cons_succ, List.length_cons, List.length_nil, List.length_set, true_and, and_true, Nat.add_zero, Nat.zero_add, Nat.le_refl, Nat.reduceAdd, Nat.reduceLT, Nat.reduceLeDiff, Nat.zero_le, not_false_eq_true, not_true_eq_false, false_implies, implies_true, true_implies, Nat.zero_lt_succ, Nat.lt_add_one, pm_sw_c, pm_sw_n, Int32.reduceAdd]
  unfold mjn
  by_cases e8 : c = 20
  · simp [e8]
  by_cases e9 : c = 21
  · simp [e9]
  by_cases e10 : c = 22
  · by_cases q : l < r <;> simp [e10, q]
  by_cases e11 : c = 23
  · by_cases q : l = r <;> simp [e11, q]
  by_cases e12 : c = 24
  · by_cases q : r < l <;> simp [e12, q]
  by_cases e13 : c = 25
  · simp [e13]
  by_cases e14 : c = 26
  · simp [e14]
  simp [e8, e9, e10, e11, e12, e13, e14]
theorem c_M_factOf (H : md_ h m o A) (V : wdV A) (q c v : Int32) (d : Nat) : PM (d + 5) 175 [.ref m, .int q, .int c, .int v] h (fun x h' => x = some (.int (mfc (fcF A c v) q)) ∧ h' = h) := by
  have H2 := H
  obtain ⟨H0, f, H1, R⟩ := H
  unfold mO at H0
  have s2 : f 1672 = sc A 2 := R.s (i := 2) (by omega)
  have s3 : f 1673 = sc A 3 := R.s (i := 3) (by omega)
  have s4 : f 1674 = sc A 4 := R.s (i := 4) (by omega)
  have s9 : f 1679 = sc A 9 := R.s (i := 9) (by omega)
  have s8 : f 1678 = sc A 8 := R.s (i := 8) (by omega)
  have ten : ¬ (10 : Int32) = 0 := by decide
  refine en_X12_factOf rfl rfl rfl rfl ?_
  simp only [w_X12_factOf_0, w_X12_factOf_1, pm_1i_c, pm_2i_c, pm_1l_c, pm_2l_c, pm_1a_c, pm_ia_c, pm_iia_c, pm_va_c, pm_cp_c, pm_k0_c, pm_k1_c, pm_k2_c, pm_k3_c, pm_s1_c, pm_s2_c, pm_s3_c, pm_s4_c, pm_ri_c, pm_ra_c, pm_rn_c, pm_rk_i, pm_rk_z, pm_rk_a, pm_vk_i, pm_vk_z, pm_vk_a, pm_cti, pm_ctr, pm_ldi_z, pm_ldi_s, pm_lda_z, pm_lda_s, pm_cat_n, pm_cat_i, pm_cat_r, pm_cat_l, pm_obj, pm_arr, pm_opt, pm_ird, pm_aln, List.getElem?_cons_zero, List.getElem?_cons_succ, List.set_cons_zero, List.set_cons_succ, List.length_cons, List.length_nil, List.length_set, true_and, and_true, Nat.add_zero, Nat.zero_add, Nat.le_refl, Nat.reduceAdd, Nat.reduceLT, Nat.reduceLeDiff, Nat.zero_le, not_false_eq_true, not_true_eq_false, false_implies, implies_true, true_implies, Nat.zero_lt_succ, Nat.lt_add_one, pm_sw_c, pm_sw_n, Int32.reduceAdd]
  unfold mfc
  refine ⟨fun e => ?_, fun e0 => ⟨fun e => ?_, fun e1 => ⟨fun e => ?_, fun e2 => ⟨fun e => ?_, fun e3 => ⟨fun e => ?_, fun e4 => ⟨fun e => ?_, fun e5 => ⟨fun e => ?_, fun e6 => ?_⟩⟩⟩⟩⟩⟩⟩
  · rw [if_pos e]
    simp only [w_X12_factOf_44, w_X12_factOf_45, w_X12_factOf_46, pm_1i_c, pm_2i_c, pm_1l_c, pm_2l_c, pm_1a_c, pm_ia_c, pm_iia_c, pm_va_c, pm_cp_c, pm_k0_c, pm_k1_c, pm_k2_c, pm_k3_c, pm_s1_c, pm_s2_c, pm_s3_c, pm_s4_c, pm_ri_c, pm_ra_c, pm_rn_c, pm_rk_i, pm_rk_z, pm_rk_a, pm_vk_i, pm_vk_z, pm_vk_a, pm_cti, pm_ctr, pm_ldi_z, pm_ldi_s, pm_lda_z, pm_lda_s, pm_cat_n, pm_cat_i, pm_cat_r, pm_cat_l, pm_obj, pm_arr, pm_opt, pm_ird, pm_aln, List.getElem?_cons_zero, List.getElem?_cons_succ, List.set_cons_zero, List.set_cons_succ, List.length_cons, List.length_nil, List.length_set, true_and, and_true, Nat.add_zero, Nat.zero_add, Nat.le_refl, Nat.reduceAdd, Nat.reduceLT, Nat.reduceLeDiff, Nat.zero_le, not_false_eq_true, not_true_eq_false, false_implies, implies_true, true_implies, Nat.zero_lt_succ, Nat.lt_add_one, H0]
    refine PM_use (c_M_estimateOf H2 V c d) ?_
    rintro x hh ll ⟨rfl, rfl⟩
    show W_X12_factOf _ _ _ _ _ _ _ _ _
    simp only [w_X12_factOf_49, pm_1i_c, pm_2i_c, pm_1l_c, pm_2l_c, pm_1a_c, pm_ia_c, pm_iia_c, pm_va_c, pm_cp_c, pm_k0_c, pm_k1_c, pm_k2_c, pm_k3_c, pm_s1_c, pm_s2_c, pm_s3_c, pm_s4_c, pm_ri_c, pm_ra_c, pm_rn_c, pm_rk_i, pm_rk_z, pm_rk_a, pm_vk_i, pm_vk_z, pm_vk_a, pm_cti, pm_ctr, pm_ldi_z, pm_ldi_s, pm_lda_z, pm_lda_s, pm_cat_n, pm_cat_i, pm_cat_r, pm_cat_l, pm_obj, pm_arr, pm_opt, pm_ird, pm_aln, List.getElem?_cons_zero, List.getElem?_cons_succ, List.set_cons_zero, List.set_cons_succ, List.length_cons, List.length_nil, List.length_set, true_and, and_true, Nat.add_zero, Nat.zero_add, Nat.le_refl, Nat.reduceAdd, Nat.reduceLT, Nat.reduceLeDiff, Nat.zero_le, not_false_eq_true, not_true_eq_false, false_implies, implies_true, true_implies, Nat.zero_lt_succ, Nat.lt_add_one, pm_tl_n, pm_tl_s, sc_uL]
    rfl
  · rw [if_neg e0, if_pos e]
    simp only [w_X12_factOf_50, w_X12_factOf_51, w_X12_factOf_52, pm_1i_c, pm_2i_c, pm_1l_c, pm_2l_c, pm_1a_c, pm_ia_c, pm_iia_c, pm_va_c, pm_cp_c, pm_k0_c, pm_k1_c, pm_k2_c, pm_k3_c, pm_s1_c, pm_s2_c, pm_s3_c, pm_s4_c, pm_ri_c, pm_ra_c, pm_rn_c, pm_rk_i, pm_rk_z, pm_rk_a, pm_vk_i, pm_vk_z, pm_vk_a, pm_cti, pm_ctr, pm_ldi_z, pm_ldi_s, pm_lda_z, pm_lda_s, pm_cat_n, pm_cat_i, pm_cat_r, pm_cat_l, pm_obj, pm_arr, pm_opt, pm_ird, pm_aln, List.getElem?_cons_zero, List.getElem?_cons_succ, List.set_cons_zero, List.set_cons_succ, List.length_cons, List.length_nil, List.length_set, true_and, and_true, Nat.add_zero, Nat.zero_add, Nat.le_refl, Nat.reduceAdd, Nat.reduceLT, Nat.reduceLeDiff, Nat.zero_le, not_false_eq_true, not_true_eq_false, false_implies, implies_true, true_implies, Nat.zero_lt_succ, Nat.lt_add_one, H0]
    refine PM_use (c_M_estimateOf H2 V v d) ?_
    rintro x hh ll ⟨rfl, rfl⟩
    show W_X12_factOf _ _ _ _ _ _ _ _ _
    simp only [w_X12_factOf_55, pm_1i_c, pm_2i_c, pm_1l_c, pm_2l_c, pm_1a_c, pm_ia_c, pm_iia_c, pm_va_c, pm_cp_c, pm_k0_c, pm_k1_c, pm_k2_c, pm_k3_c, pm_s1_c, pm_s2_c, pm_s3_c, pm_s4_c, pm_ri_c, pm_ra_c, pm_rn_c, pm_rk_i, pm_rk_z, pm_rk_a, pm_vk_i, pm_vk_z, pm_vk_a, pm_cti, pm_ctr, pm_ldi_z, pm_ldi_s, pm_lda_z, pm_lda_s, pm_cat_n, pm_cat_i, pm_cat_r, pm_cat_l, pm_obj, pm_arr, pm_opt, pm_ird, pm_aln, List.getElem?_cons_zero, List.getElem?_cons_succ, List.set_cons_zero, List.set_cons_succ, List.length_cons, List.length_nil, List.length_set, true_and, and_true, Nat.add_zero, Nat.zero_add, Nat.le_refl, Nat.reduceAdd, Nat.reduceLT, Nat.reduceLeDiff, Nat.zero_le, not_false_eq_true, not_true_eq_false, false_implies, implies_true, true_implies, Nat.zero_lt_succ, Nat.lt_add_one, pm_tl_n, pm_tl_s, sc_uL]
    rfl
  · rw [if_neg e0, if_neg e1, if_pos e]
    simp only [w_X12_factOf_56, w_X12_factOf_57, w_X12_factOf_60, w_X12_factOf_63, w_X12_factOf_64, pm_1i_c, pm_2i_c, pm_1l_c, pm_2l_c, pm_1a_c, pm_ia_c, pm_iia_c, pm_va_c, pm_cp_c, pm_k0_c, pm_k1_c, pm_k2_c, pm_k3_c, pm_s1_c, pm_s2_c, pm_s3_c, pm_s4_c, pm_ri_c, pm_ra_c, pm_rn_c, pm_rk_i, pm_rk_z, pm_rk_a, pm_vk_i, pm_vk_z, pm_vk_a, pm_cti, pm_ctr, pm_ldi_z, pm_ldi_s, pm_lda_z, pm_lda_s, pm_cat_n, pm_cat_i, pm_cat_r, pm_cat_l, pm_obj, pm_arr, pm_opt, pm_ird, pm_aln, List.getElem?_cons_zero, List.getElem?_cons_succ, List.set_cons_zero, List.set_cons_succ, List.length_cons, List.length_nil, List.length_set, true_and, and_true, Nat.add_zero, Nat.zero_add, Nat.le_refl, Nat.reduceAdd, Nat.reduceLT, Nat.reduceLeDiff, Nat.zero_le, not_false_eq_true, not_true_eq_false, false_implies, implies_true, true_implies, Nat.zero_lt_succ, Nat.lt_add_one, H0, H1, ix_1673, vi_1673, s3]
    rfl
  · rw [if_neg e0, if_neg e1, if_neg e2, if_pos e]
    simp only [w_X12_factOf_65, w_X12_factOf_66, w_X12_factOf_69, w_X12_factOf_72, w_X12_factOf_73, pm_1i_c, pm_2i_c, pm_1l_c, pm_2l_c, pm_1a_c, pm_ia_c, pm_iia_c, pm_va_c, pm_cp_c, pm_k0_c, pm_k1_c, pm_k2_c, pm_k3_c, pm_s1_c, pm_s2_c, pm_s3_c, pm_s4_c, pm_ri_c, pm_ra_c, pm_rn_c, pm_rk_i, pm_rk_z, pm_rk_a, pm_vk_i, pm_vk_z, pm_vk_a, pm_cti, pm_ctr, pm_ldi_z, pm_ldi_s, pm_lda_z, pm_lda_s, pm_cat_n, pm_cat_i, pm_cat_r, pm_cat_l, pm_obj, pm_arr, pm_opt, pm_ird, pm_aln, List.getElem?_cons_zero, List.getElem?_cons_succ, List.set_cons_zero, List.set_cons_succ, List.length_cons, List.length_nil, List.length_set, true_and, and_true, Nat.add_zero, Nat.zero_add, Nat.le_refl, Nat.reduceAdd, Nat.reduceLT, Nat.reduceLeDiff, Nat.zero_le, not_false_eq_true, not_true_eq_false, false_implies, implies_true, true_implies, Nat.zero_lt_succ, Nat.lt_add_one, H0, H1, ix_1672, vi_1672, s2]
    rfl
  · rw [if_neg e0, if_neg e1, if_neg e2, if_neg e3, if_pos e]
    simp only [w_X12_factOf_74, w_X12_factOf_75, w_X12_factOf_78, w_X12_factOf_81, w_X12_factOf_82, pm_1i_c, pm_2i_c, pm_1l_c, pm_2l_c, pm_1a_c, pm_ia_c, pm_iia_c, pm_va_c, pm_cp_c, pm_k0_c, pm_k1_c, pm_k2_c, pm_k3_c, pm_s1_c, pm_s2_c, pm_s3_c, pm_s4_c, pm_ri_c, pm_ra_c, pm_rn_c, pm_rk_i, pm_rk_z, pm_rk_a, pm_vk_i, pm_vk_z, pm_vk_a, pm_cti, pm_ctr, pm_ldi_z, pm_ldi_s, pm_lda_z, pm_lda_s, pm_cat_n, pm_cat_i, pm_cat_r, pm_cat_l, pm_obj, pm_arr, pm_opt, pm_ird, pm_aln, List.getElem?_cons_zero, List.getElem?_cons_succ, List.set_cons_zero, List.set_cons_succ, List.length_cons, List.length_nil, List.length_set, true_and, and_true, Nat.add_zero, Nat.zero_add, Nat.le_refl, Nat.reduceAdd, Nat.reduceLT, Nat.reduceLeDiff, Nat.zero_le, not_false_eq_true, not_true_eq_false, false_implies, implies_true, true_implies, Nat.zero_lt_succ, Nat.lt_add_one, H0, H1, ix_1674, vi_1674, s4]
    rfl
  · rw [if_neg e0, if_neg e1, if_neg e2, if_neg e3, if_neg e4, if_pos e]
    simp only [w_X12_factOf_83, w_X12_factOf_84, w_X12_factOf_87, w_X12_factOf_90, w_X12_factOf_91, pm_1i_c, pm_2i_c, pm_1l_c, pm_2l_c, pm_1a_c, pm_ia_c, pm_iia_c, pm_va_c, pm_cp_c, pm_k0_c, pm_k1_c, pm_k2_c, pm_k3_c, pm_s1_c, pm_s2_c, pm_s3_c, pm_s4_c, pm_ri_c, pm_ra_c, pm_rn_c, pm_rk_i, pm_rk_z, pm_rk_a, pm_vk_i, pm_vk_z, pm_vk_a, pm_cti, pm_ctr, pm_ldi_z, pm_ldi_s, pm_lda_z, pm_lda_s, pm_cat_n, pm_cat_i, pm_cat_r, pm_cat_l, pm_obj, pm_arr, pm_opt, pm_ird, pm_aln, List.getElem?_cons_zero, List.getElem?_cons_succ, List.set_cons_zero, List.set_cons_succ, List.length_cons, List.length_nil, List.length_set, true_and, and_true, Nat.add_zero, Nat.zero_add, Nat.le_refl, Nat.reduceAdd, Nat.reduceLT, Nat.reduceLeDiff, Nat.zero_le, not_false_eq_true, not_true_eq_false, false_implies, implies_true, true_implies, Nat.zero_lt_succ, Nat.lt_add_one, H0, H1, ix_1679, vi_1679, s9]
    rfl
  · rw [if_neg e0, if_neg e1, if_neg e2, if_neg e3, if_neg e4, if_neg e5, if_pos e]
    simp only [w_X12_factOf_92, w_X12_factOf_93, w_X12_factOf_96, w_X12_factOf_99, w_X12_factOf_100, pm_1i_c, pm_2i_c, pm_1l_c, pm_2l_c, pm_1a_c, pm_ia_c, pm_iia_c, pm_va_c, pm_cp_c, pm_k0_c, pm_k1_c, pm_k2_c, pm_k3_c, pm_s1_c, pm_s2_c, pm_s3_c, pm_s4_c, pm_ri_c, pm_ra_c, pm_rn_c, pm_rk_i, pm_rk_z, pm_rk_a, pm_vk_i, pm_vk_z, pm_vk_a, pm_cti, pm_ctr, pm_ldi_z, pm_ldi_s, pm_lda_z, pm_lda_s, pm_cat_n, pm_cat_i, pm_cat_r, pm_cat_l, pm_obj, pm_arr, pm_opt, pm_ird, pm_aln, List.getElem?_cons_zero, List.getElem?_cons_succ, List.set_cons_zero, List.set_cons_succ, List.length_cons, List.length_nil, List.length_set, true_and, and_true, Nat.add_zero, Nat.zero_add, Nat.le_refl, Nat.reduceAdd, Nat.reduceLT, Nat.reduceLeDiff, Nat.zero_le, not_false_eq_true, not_true_eq_false, false_implies, implies_true, true_implies, Nat.zero_lt_succ, Nat.lt_add_one, H0, H1, ix_1678, vi_1678, s8]
    rfl
  · rw [if_neg e0, if_neg e1, if_neg e2, if_neg e3, if_neg e4, if_neg e5, if_neg e6]
    simp only [w_X12_factOf_101, w_X12_factOf_102, w_X12_factOf_104, w_X12_factOf_105, pm_1i_c, pm_2i_c, pm_1l_c, pm_2l_c, pm_1a_c, pm_ia_c, pm_iia_c, pm_va_c, pm_cp_c, pm_k0_c, pm_k1_c, pm_k2_c, pm_k3_c, pm_s1_c, pm_s2_c, pm_s3_c, pm_s4_c, pm_ri_c, pm_ra_c, pm_rn_c, pm_rk_i, pm_rk_z, pm_rk_a, pm_vk_i, pm_vk_z, pm_vk_a, pm_cti, pm_ctr, pm_ldi_z, pm_ldi_s, pm_lda_z, pm_lda_s, pm_cat_n, pm_cat_i, pm_cat_r, pm_cat_l, pm_obj, pm_arr, pm_opt, pm_ird, pm_aln, List.getElem?_cons_zero, List.getElem?_cons_succ, List.set_cons_zero, List.set_cons_succ, List.length_cons, List.length_nil, List.length_set, true_and, and_true, Nat.add_zero, Nat.zero_add, Nat.le_refl, Nat.reduceAdd, Nat.reduceLT, Nat.reduceLeDiff, Nat.zero_le, not_false_eq_true, not_true_eq_false, false_implies, implies_true, true_implies, Nat.zero_lt_succ, Nat.lt_add_one, ten]
    rfl
theorem getD_app_lt {xs ys : List Int32} {j : Nat} (hj : j < xs.length) : (xs ++ ys).getD j (-1) = xs.getD j (-1) := by
  rw [List.getD_eq_getElem?_getD, List.getD_eq_getElem?_getD, List.getElem?_append_left hj]
theorem getD_app_eq {xs : List Int32} {y : Int32} {j : Nat} (hj : j = xs.length) : (xs ++ [y]).getD j (-1) = y := by
  rw [List.getD_eq_getElem?_getD, List.getElem?_append_right (by omega), hj, Nat.sub_self]
  rfl
theorem getD_drop_lt {xs : List Int32} {j : Nat} (hj : j + 1 < xs.length) : xs.dropLast.getD j (-1) = xs.getD j (-1) := by
  rw [List.getD_eq_getElem?_getD, List.getD_eq_getElem?_getD, List.getElem?_dropLast, if_pos (by omega)]
theorem getLast_at {xs : List Int32} : xs.getLastD (-1) = xs.getD (xs.length - 1) (-1) := by
  rw [List.getLastD_eq_getLast?, List.getLast?_eq_getElem?, List.getD_eq_getElem?_getD]
theorem c_M_doesWin (H : md_ h m o A) (P : pil h m) (V : wdV A) (c v : Int32) (d : Nat) : PM (d + 6) 176 [.ref m, .int c, .int v] h (fun x h' => x = some (.int (if beF A c v then 1 else 0)) ∧ md_ h' m o A ∧ pil h' m ∧ fr1 h h' (m + 7)) := by
  have H2 := H
  obtain ⟨H0, f, H1, R⟩ := H
  unfold mO at H0
  have s23 : f 1693 = sc A 23 := R.s (i := 23) (by omega)
  refine en_X12_doesWin rfl rfl rfl ?_
  by_cases z : sc A 23 = -1
  · simp only [w_X12_doesWin_0, w_X12_doesWin_1, w_X12_doesWin_4, w_X12_doesWin_7, w_X12_doesWin_8, w_X12_doesWin_9, w_X12_doesWin_12, w_X12_doesWin_13, w_X12_doesWin_14, pm_1i_c, pm_2i_c, pm_1l_c, pm_2l_c, pm_1a_c, pm_ia_c, pm_iia_c, pm_va_c, pm_cp_c, pm_k0_c, pm_k1_c, pm_k2_c, pm_k3_c, pm_s1_c, pm_s2_c, pm_s3_c, pm_s4_c, pm_ri_c, pm_ra_c, pm_rn_c, pm_rk_i, pm_rk_z, pm_rk_a, pm_vk_i, pm_vk_z, pm_vk_a, pm_cti, pm_ctr, pm_ldi_z, pm_ldi_s, pm_lda_z, pm_lda_s, pm_cat_n, pm_cat_i, pm_cat_r, pm_cat_l, pm_obj, pm_arr, pm_opt, pm_ird, pm_aln, List.getElem?_cons_zero, List.getElem?_cons_succ, List.set_cons_zero, List.set_cons_succ, List.length_cons, List.length_nil, List.length_set, true_and, and_true, Nat.add_zero, Nat.zero_add, Nat.le_refl, Nat.reduceAdd, Nat.reduceLT, Nat.reduceLeDiff, Nat.zero_le, not_false_eq_true, not_true_eq_false, false_implies, implies_true, true_implies, Nat.zero_lt_succ, Nat.lt_add_one, H0, H1, ix_1693, vi_1693, s23, z]
    refine PM_use (c_M_estimateOf H2 V c (d + 1)) ?_
    rintro x hh ll ⟨rfl, rfl⟩
    show W_X12_doesWin _ _ _ _ _ _ _ _ _
    simp only [w_X12_doesWin_17, w_X12_doesWin_18, w_X12_doesWin_19, pm_1i_c, pm_2i_c, pm_1l_c, pm_2l_c, pm_1a_c, pm_ia_c, pm_iia_c, pm_va_c, pm_cp_c, pm_k0_c, pm_k1_c, pm_k2_c, pm_k3_c, pm_s1_c, pm_s2_c, pm_s3_c, pm_s4_c, pm_ri_c, pm_ra_c, pm_rn_c, pm_rk_i, pm_rk_z, pm_rk_a, pm_vk_i, pm_vk_z, pm_vk_a, pm_cti, pm_ctr, pm_ldi_z, pm_ldi_s, pm_lda_z, pm_lda_s, pm_cat_n, pm_cat_i, pm_cat_r, pm_cat_l, pm_obj, pm_arr, pm_opt, pm_ird, pm_aln, List.getElem?_cons_zero, List.getElem?_cons_succ, List.set_cons_zero, List.set_cons_succ, List.length_cons, List.length_nil, List.length_set, true_and, and_true, Nat.add_zero, Nat.zero_add, Nat.le_refl, Nat.reduceAdd, Nat.reduceLT, Nat.reduceLeDiff, Nat.zero_le, not_false_eq_true, not_true_eq_false, false_implies, implies_true, true_implies, Nat.zero_lt_succ, Nat.lt_add_one, pm_tl_n, pm_tl_s, sc_uL, H0]
    refine PM_use (c_M_estimateOf H2 V v (d + 1)) ?_
    rintro x hh ll ⟨rfl, rfl⟩
    have hb : beF A c v = decide (estF A v < estF A c) := if_pos z
    rw [hb]
    by_cases q : estF A v < estF A c
    · show W_X12_doesWin _ _ _ _ _ _ _ _ _
      simp only [w_X12_doesWin_22, w_X12_doesWin_25, w_X12_doesWin_26, w_X12_doesWin_29, w_X12_doesWin_30, pm_1i_c, pm_2i_c, pm_1l_c, pm_2l_c, pm_1a_c, pm_ia_c, pm_iia_c, pm_va_c, pm_cp_c, pm_k0_c, pm_k1_c, pm_k2_c, pm_k3_c, pm_s1_c, pm_s2_c, pm_s3_c, pm_s4_c, pm_ri_c, pm_ra_c, pm_rn_c, pm_rk_i, pm_rk_z, pm_rk_a, pm_vk_i, pm_vk_z, pm_vk_a, pm_cti, pm_ctr, pm_ldi_z, pm_ldi_s, pm_lda_z, pm_lda_s, pm_cat_n, pm_cat_i, pm_cat_r, pm_cat_l, pm_obj, pm_arr, pm_opt, pm_ird, pm_aln, List.getElem?_cons_zero, List.getElem?_cons_succ, List.set_cons_zero, List.set_cons_succ, List.length_cons, List.length_nil, List.length_set, true_and, and_true, Nat.add_zero, Nat.zero_add, Nat.le_refl, Nat.reduceAdd, Nat.reduceLT, Nat.reduceLeDiff, Nat.zero_le, not_false_eq_true, not_true_eq_false, false_implies, implies_true, true_implies, Nat.zero_lt_succ, Nat.lt_add_one, pm_tl_n, pm_tl_s, sc_uL, q]
      exact ⟨by simp, by simp, H2, P, fr1.rf⟩
    · show W_X12_doesWin _ _ _ _ _ _ _ _ _
      simp only [w_X12_doesWin_22, w_X12_doesWin_25, w_X12_doesWin_26, w_X12_doesWin_29, w_X12_doesWin_30, pm_1i_c, pm_2i_c, pm_1l_c, pm_2l_c, pm_1a_c, pm_ia_c, pm_iia_c, pm_va_c, pm_cp_c, pm_k0_c, pm_k1_c, pm_k2_c, pm_k3_c, pm_s1_c, pm_s2_c, pm_s3_c, pm_s4_c, pm_ri_c, pm_ra_c, pm_rn_c, pm_rk_i, pm_rk_z, pm_rk_a, pm_vk_i, pm_vk_z, pm_vk_a, pm_cti, pm_ctr, pm_ldi_z, pm_ldi_s, pm_lda_z, pm_lda_s, pm_cat_n, pm_cat_i, pm_cat_r, pm_cat_l, pm_obj, pm_arr, pm_opt, pm_ird, pm_aln, List.getElem?_cons_zero, List.getElem?_cons_succ, List.set_cons_zero, List.set_cons_succ, List.length_cons, List.length_nil, List.length_set, true_and, and_true, Nat.add_zero, Nat.zero_add, Nat.le_refl, Nat.reduceAdd, Nat.reduceLT, Nat.reduceLeDiff, Nat.zero_le, not_false_eq_true, not_true_eq_false, false_implies, implies_true, true_implies, Nat.zero_lt_succ, Nat.lt_add_one, pm_tl_n, pm_tl_s, sc_uL, q]
      exact ⟨by simp, by simp, H2, P, fr1.rf⟩
  · obtain ⟨cs, w1, w2, w3, w4, w5⟩ : mlw f (lw A) := (R.w).resolve_left z
    have hb : beF A c v = lw A (fcF A c v) := if_neg z
    rw [hb]
    have mo : ∀ hh, fr1 h hh (m + 7) → hh[m]? = h[m]? ∧ hh[m + 1]? = h[m + 1]? := fun hh q => ⟨q m (by omega), q (m + 1) (by omega)⟩
    have loop : ∀ n k, cs.length - k = n → k ≤ cs.length → ∀ (st : List Int32) (hh : pmH) (g : Nat → Int32) (x5 : Option Value), hh[m + 7]? = some (.inl (0, 500, .inl g)) → st = (cs.take k).foldl (mst (fcF A c v)) [] → st.length ≤ k → mdp st.length (cs.drop k) = some 1 → (∀ j, j < st.length → g j = st.getD j (-1)) → hh.length = h.length → fr1 h hh (m + 7) → W_X12_doesWin (d + 5) (h.length + 0) 0 (fun x h' => x = some (.int (if lw A (fcF A c v) then 1 else 0)) ∧ md_ h' m o A ∧ pil h' m ∧ fr1 h h' (m + 7)) 36 [some (.ref m), some (.int c), some (.int v), some (.int (nI st.length)), some (.int (nI k)), x5] [] hh 0 := by
      intro n
      induction n with
      | zero =>
        intro k hn hk st hh g x5 q1 q2 q3 q4 q5 q6 q7
        have : k = cs.length := by omega
        subst this
        have e1 : ¬ nI cs.length < nI cs.length := nI_nlt (by omega) (by omega)
        obtain ⟨hm0, hm1⟩ := mo hh q7
        rw [List.drop_length] at q4
        have l1 : st.length = 1 := Option.some.inj q4
        have g0 := q5 0 (by omega)
        have v0 : vp_in 0 500 := vp_in_nI (n := 0) (by omega) (by omega)
        have x0 : (0 : Int32).toNatClampNeg = 0 := rfl
        rw [List.take_length] at q2
        have hw := w5 (fcF A c v)
        rw [← q2] at hw
        rw [w_X12_doesWin_36]
        simp only [w_X12_doesWin_38, w_X12_doesWin_39, w_X12_doesWin_42, w_X12_doesWin_45, w_X12_doesWin_46, pm_1i_c, pm_2i_c, pm_1l_c, pm_2l_c, pm_1a_c, pm_ia_c, pm_iia_c, pm_va_c, pm_cp_c, pm_k0_c, pm_k1_c, pm_k2_c, pm_k3_c, pm_s1_c, pm_s2_c, pm_s3_c, pm_s4_c, pm_ri_c, pm_ra_c, pm_rn_c, pm_rk_i, pm_rk_z, pm_rk_a, pm_vk_i, pm_vk_z, pm_vk_a, pm_cti, pm_ctr, pm_ldi_z, pm_ldi_s, pm_lda_z, pm_lda_s, pm_cat_n, pm_cat_i, pm_cat_r, pm_cat_l, pm_obj, pm_arr, pm_opt, pm_ird, pm_aln, List.getElem?_cons_zero, List.getElem?_cons_succ, List.set_cons_zero, List.set_cons_succ, List.length_cons, List.length_nil, List.length_set, true_and, and_true, Nat.add_zero, Nat.zero_add, Nat.le_refl, Nat.reduceAdd, Nat.reduceLT, Nat.reduceLeDiff, Nat.zero_le, not_false_eq_true, not_true_eq_false, false_implies, implies_true, true_implies, Nat.zero_lt_succ, Nat.lt_add_one, hm0, hm1, H0, H1, ix_1694, vi_1694, w1, e1]
        rw [← hw]
        have K : md_ hh m o A := H2.keep hm0 hm1
        by_cases y : st.getD 0 (-1) = 1
        · simp only [w_X12_doesWin_178, w_X12_doesWin_179, w_X12_doesWin_182, w_X12_doesWin_183, w_X12_doesWin_184, w_X12_doesWin_185, w_X12_doesWin_188, w_X12_doesWin_189, w_X12_doesWin_192, w_X12_doesWin_193, pm_1i_c, pm_2i_c, pm_1l_c, pm_2l_c, pm_1a_c, pm_ia_c, pm_iia_c, pm_va_c, pm_cp_c, pm_k0_c, pm_k1_c, pm_k2_c, pm_k3_c, pm_s1_c, pm_s2_c, pm_s3_c, pm_s4_c, pm_ri_c, pm_ra_c, pm_rn_c, pm_rk_i, pm_rk_z, pm_rk_a, pm_vk_i, pm_vk_z, pm_vk_a, pm_cti, pm_ctr, pm_ldi_z, pm_ldi_s, pm_lda_z, pm_lda_s, pm_cat_n, pm_cat_i, pm_cat_r, pm_cat_l, pm_obj, pm_arr, pm_opt, pm_ird, pm_aln, List.getElem?_cons_zero, List.getElem?_cons_succ, List.set_cons_zero, List.set_cons_succ, List.length_cons, List.length_nil, List.length_set, true_and, and_true, Nat.add_zero, Nat.zero_add, Nat.le_refl, Nat.reduceAdd, Nat.reduceLT, Nat.reduceLeDiff, Nat.zero_le, not_false_eq_true, not_true_eq_false, false_implies, implies_true, true_implies, Nat.zero_lt_succ, Nat.lt_add_one, hm0, H0, q1, v0, x0, g0, y, q6]
          exact ⟨by simp, by simp, K, ⟨g, q1⟩, q7⟩
        · simp only [w_X12_doesWin_178, w_X12_doesWin_179, w_X12_doesWin_182, w_X12_doesWin_183, w_X12_doesWin_184, w_X12_doesWin_185, w_X12_doesWin_188, w_X12_doesWin_189, w_X12_doesWin_192, w_X12_doesWin_193, pm_1i_c, pm_2i_c, pm_1l_c, pm_2l_c, pm_1a_c, pm_ia_c, pm_iia_c, pm_va_c, pm_cp_c, pm_k0_c, pm_k1_c, pm_k2_c, pm_k3_c, pm_s1_c, pm_s2_c, pm_s3_c, pm_s4_c, pm_ri_c, pm_ra_c, pm_rn_c, pm_rk_i, pm_rk_z, pm_rk_a, pm_vk_i, pm_vk_z, pm_vk_a, pm_cti, pm_ctr, pm_ldi_z, pm_ldi_s, pm_lda_z, pm_lda_s, pm_cat_n, pm_cat_i, pm_cat_r, pm_cat_l, pm_obj, pm_arr, pm_opt, pm_ird, pm_aln, List.getElem?_cons_zero, List.getElem?_cons_succ, List.set_cons_zero, List.set_cons_succ, List.length_cons, List.length_nil, List.length_set, true_and, and_true, Nat.add_zero, Nat.zero_add, Nat.le_refl, Nat.reduceAdd, Nat.reduceLT, Nat.reduceLeDiff, Nat.zero_le, not_false_eq_true, not_true_eq_false, false_implies, implies_true, true_implies, Nat.zero_lt_succ, Nat.lt_add_one, hm0, H0, q1, v0, x0, g0, y, q6]
          exact ⟨by simp, by simp, K, ⟨g, q1⟩, q7⟩
      | succ n ih =>
        intro k hn hk st hh g x5 q1 q2 q3 q4 q5 q6 q7
        have hk2 : k < cs.length := by omega
        have e1 : nI k < nI cs.length := nI_lt hk2 (by omega)
        obtain ⟨hm0, hm1⟩ := mo hh q7
        have ak := w3 k hk2
        have v1 : vp_in (nI (1695 + k)) 2195 := vp_in_nI (by omega) (by omega)
        have c1 : (nI (1695 + k)).toNatClampNeg = 1695 + k := nI_clamp (by omega)
        have n1 : (1695 : Int32) + nI k = nI (1695 + k) := nI_add 1695 k
        have vp : vp_in (nI st.length) 500 := vp_in_nI (by omega) (by omega)
        have cp : (nI st.length).toNatClampNeg = st.length := nI_clamp (by omega)
        have K : md_ hh m o A := H2.keep hm0 hm1
        have dk : cs.drop k = cs.getD k (-1) :: cs.drop (k + 1) := by
          rw [List.drop_eq_getElem_cons hk2, List.getD_eq_getElem?_getD, List.getElem?_eq_getElem hk2]
          rfl
        rw [dk] at q4
        have fe := take_foldA (f := mst (fcF A c v)) (s := []) hk2
        rw [← q2] at fe
        generalize hx : cs.getD k (-1) = x at q4 ak fe
        rw [w_X12_doesWin_36]
        simp only [w_X12_doesWin_38, w_X12_doesWin_39, w_X12_doesWin_42, w_X12_doesWin_45, w_X12_doesWin_46, w_X12_doesWin_49, w_X12_doesWin_50, w_X12_doesWin_53, w_X12_doesWin_56, w_X12_doesWin_58, w_X12_doesWin_59, w_X12_doesWin_60, w_X12_doesWin_62, pm_1i_c, pm_2i_c, pm_1l_c, pm_2l_c, pm_1a_c, pm_ia_c, pm_iia_c, pm_va_c, pm_cp_c, pm_k0_c, pm_k1_c, pm_k2_c, pm_k3_c, pm_s1_c, pm_s2_c, pm_s3_c, pm_s4_c, pm_ri_c, pm_ra_c, pm_rn_c, pm_rk_i, pm_rk_z, pm_rk_a, pm_vk_i, pm_vk_z, pm_vk_a, pm_cti, pm_ctr, pm_ldi_z, pm_ldi_s, pm_lda_z, pm_lda_s, pm_cat_n, pm_cat_i, pm_cat_r, pm_cat_l, pm_obj, pm_arr, pm_opt, pm_ird, pm_aln, List.getElem?_cons_zero, List.getElem?_cons_succ, List.set_cons_zero, List.set_cons_succ, List.length_cons, List.length_nil, List.length_set, true_and, and_true, Nat.add_zero, Nat.zero_add, Nat.le_refl, Nat.reduceAdd, Nat.reduceLT, Nat.reduceLeDiff, Nat.zero_le, not_false_eq_true, not_true_eq_false, false_implies, implies_true, true_implies, Nat.zero_lt_succ, Nat.lt_add_one, hm0, hm1, H0, H1, ix_1694, vi_1694, w1, e1, n1, v1, c1, ak]
        -- behind a step
        have go : ∀ (st2 : List Int32) (g2 : Nat → Int32) (h2 : pmH), st2 = mst (fcF A c v) st x → st2.length ≤ k + 1 → mdp st2.length (cs.drop (k + 1)) = some 1 → (∀ j, j < st2.length → g2 j = st2.getD j (-1)) → h2[m + 7]? = some (.inl (0, 500, .inl g2)) → h2.length = h.length → fr1 h h2 (m + 7) → W_X12_doesWin (d + 5) (h.length + 0) 0 (fun x h' => x = some (.int (if lw A (fcF A c v) then 1 else 0)) ∧ md_ h' m o A ∧ pil h' m ∧ fr1 h h' (m + 7)) 172 [some (.ref m), some (.int c), some (.int v), some (.int (nI st2.length)), some (.int (nI k)), some (.int x)] [] h2 0 := by
          intro st2 g2 h2 r1 r2 r3 r4 r5 r6 r7
          simp only [w_X12_doesWin_172, w_X12_doesWin_175, pm_1i_c, pm_2i_c, pm_1l_c, pm_2l_c, pm_1a_c, pm_ia_c, pm_iia_c, pm_va_c, pm_cp_c, pm_k0_c, pm_k1_c, pm_k2_c, pm_k3_c, pm_s1_c, pm_s2_c, pm_s3_c, pm_s4_c, pm_ri_c, pm_ra_c, pm_rn_c, pm_rk_i, pm_rk_z, pm_rk_a, pm_vk_i, pm_vk_z, pm_vk_a, pm_cti, pm_ctr, pm_ldi_z, pm_ldi_s, pm_lda_z, pm_lda_s, pm_cat_n, pm_cat_i, pm_cat_r, pm_cat_l, pm_obj, pm_arr, pm_opt, pm_ird, pm_aln, List.getElem?_cons_zero, List.getElem?_cons_succ, List.set_cons_zero, List.set_cons_succ, List.length_cons, List.length_nil, List.length_set, true_and, and_true, Nat.add_zero, Nat.zero_add, Nat.le_refl, Nat.reduceAdd, Nat.reduceLT, Nat.reduceLeDiff, Nat.zero_le, not_false_eq_true, not_true_eq_false, false_implies, implies_true, true_implies, Nat.zero_lt_succ, Nat.lt_add_one, nI_1]
          exact ih (k + 1) (by omega) (by omega) st2 h2 g2 _ r5 (r1.trans fe.symm) r2 r3 r4 r6 r7
        have push : ∀ y, (mst (fcF A c v) st x = st ++ [y]) → mdp (st.length + 1) (cs.drop (k + 1)) = some 1 → W_X12_doesWin (d + 5) (h.length + 0) 0 (fun x h' => x = some (.int (if lw A (fcF A c v) then 1 else 0)) ∧ md_ h' m o A ∧ pil h' m ∧ fr1 h h' (m + 7)) 107 [some (.ref m), some (.int c), some (.int v), some (.int (nI st.length)), some (.int (nI k)), some (.int x)] [.int y, .int (nI st.length), .ref (m + 7)] hh 0 := by
          intro y r1 r3
          simp only [w_X12_doesWin_107, w_X12_doesWin_108, w_X12_doesWin_111, pm_1i_c, pm_2i_c, pm_1l_c, pm_2l_c, pm_1a_c, pm_ia_c, pm_iia_c, pm_va_c, pm_cp_c, pm_k0_c, pm_k1_c, pm_k2_c, pm_k3_c, pm_s1_c, pm_s2_c, pm_s3_c, pm_s4_c, pm_ri_c, pm_ra_c, pm_rn_c, pm_rk_i, pm_rk_z, pm_rk_a, pm_vk_i, pm_vk_z, pm_vk_a, pm_cti, pm_ctr, pm_ldi_z, pm_ldi_s, pm_lda_z, pm_lda_s, pm_cat_n, pm_cat_i, pm_cat_r, pm_cat_l, pm_obj, pm_arr, pm_opt, pm_ird, pm_aln, List.getElem?_cons_zero, List.getElem?_cons_succ, List.set_cons_zero, List.set_cons_succ, List.length_cons, List.length_nil, List.length_set, true_and, and_true, Nat.add_zero, Nat.zero_add, Nat.le_refl, Nat.reduceAdd, Nat.reduceLT, Nat.reduceLeDiff, Nat.zero_le, not_false_eq_true, not_true_eq_false, false_implies, implies_true, true_implies, Nat.zero_lt_succ, Nat.lt_add_one, q1, vp, cp, nI_1]
          have := go (st ++ [y]) (upd g st.length y) (hh.set (m + 7) (.inl (0, 500, .inl (upd g st.length y)))) r1.symm (by rw [List.length_append, List.length_singleton]; omega) (by rw [List.length_append, List.length_singleton]; exact r3) (fun j hj => by
            rw [List.length_append, List.length_singleton] at hj
            by_cases e : j = st.length
            · rw [getD_app_eq e, e, upd_e]
            · rw [getD_app_lt (by omega), upd_n e]
              exact q5 j (by omega)) (by rw [hset_s, q1]; rfl) (by rw [List.length_set]; exact q6) (q7.tr (fun i hi => hset_n (Ne.symm hi)))
          rw [List.length_append, List.length_singleton] at this
          exact this
        by_cases b1 : x < 1000
        · by_cases b2 : x < 20
          · have r1 : mst (fcF A c v) st x = st ++ [mfc (fcF A c v) x] := by
              unfold mst
              rw [if_pos (Or.inr b2), if_pos b1]
            have r3 : mdp (st.length + 1) (cs.drop (k + 1)) = some 1 := by
              unfold mdp at q4
              rw [if_pos (Or.inr b2)] at q4
              exact q4
            simp only [w_X12_doesWin_64, w_X12_doesWin_67, w_X12_doesWin_70, w_X12_doesWin_72, w_X12_doesWin_74, w_X12_doesWin_77, w_X12_doesWin_78, w_X12_doesWin_81, w_X12_doesWin_82, w_X12_doesWin_84, w_X12_doesWin_87, w_X12_doesWin_90, w_X12_doesWin_92, w_X12_doesWin_95, w_X12_doesWin_96, w_X12_doesWin_99, w_X12_doesWin_100, w_X12_doesWin_102, w_X12_doesWin_103, w_X12_doesWin_104, pm_1i_c, pm_2i_c, pm_1l_c, pm_2l_c, pm_1a_c, pm_ia_c, pm_iia_c, pm_va_c, pm_cp_c, pm_k0_c, pm_k1_c, pm_k2_c, pm_k3_c, pm_s1_c, pm_s2_c, pm_s3_c, pm_s4_c, pm_ri_c, pm_ra_c, pm_rn_c, pm_rk_i, pm_rk_z, pm_rk_a, pm_vk_i, pm_vk_z, pm_vk_a, pm_cti, pm_ctr, pm_ldi_z, pm_ldi_s, pm_lda_z, pm_lda_s, pm_cat_n, pm_cat_i, pm_cat_r, pm_cat_l, pm_obj, pm_arr, pm_opt, pm_ird, pm_aln, List.getElem?_cons_zero, List.getElem?_cons_succ, List.set_cons_zero, List.set_cons_succ, List.length_cons, List.length_nil, List.length_set, true_and, and_true, Nat.add_zero, Nat.zero_add, Nat.le_refl, Nat.reduceAdd, Nat.reduceLT, Nat.reduceLeDiff, Nat.zero_le, not_false_eq_true, not_true_eq_false, false_implies, implies_true, true_implies, Nat.zero_lt_succ, Nat.lt_add_one, b1, b2, hm0, H0, q6]
            refine PM_use (c_M_factOf K V x c v d) ?_
            rintro y h2 l2 ⟨rfl, rfl⟩
            show W_X12_doesWin _ _ _ _ _ _ _ _ _
            simp only [pm_tl_s]
            exact push _ r1 r3
          · by_cases b3 : x = 25
            · have nr : ¬ (¬ x < 1000 ∨ x < 20) := fun q => q.elim (fun q => q b1) b2
              have q4' := q4
              unfold mdp at q4'
              rw [if_neg nr, if_pos b3] at q4'
              have l1 : 1 ≤ st.length := by
                by_cases w : 1 ≤ st.length
                · exact w
                · rw [if_neg w] at q4'
                  cases q4'
              rw [if_pos l1] at q4'
              have n2 : nI st.length - 1 = nI (st.length - 1) := by rw [nI_one, pk_sub l1]
              have vq : vp_in (nI (st.length - 1)) 500 := vp_in_nI (by omega) (by omega)
              have cq : (nI (st.length - 1)).toNatClampNeg = st.length - 1 := nI_clamp (by omega)
              have gq := q5 (st.length - 1) (by omega)
              have r1 : st.dropLast ++ [1 - st.getLastD (-1)] = mst (fcF A c v) st x := by
                unfold mst
                rw [if_neg nr, if_pos b3]
              have len : (st.dropLast ++ [1 - st.getLastD (-1)]).length = st.length := by
                rw [List.length_append, List.length_singleton, List.length_dropLast]
                omega
              rw [← getLast_at] at gq
              simp only [w_X12_doesWin_64, w_X12_doesWin_67, w_X12_doesWin_70, w_X12_doesWin_72, w_X12_doesWin_74, w_X12_doesWin_114, w_X12_doesWin_116, w_X12_doesWin_118, w_X12_doesWin_121, w_X12_doesWin_122, w_X12_doesWin_125, w_X12_doesWin_126, w_X12_doesWin_127, w_X12_doesWin_128, w_X12_doesWin_129, w_X12_doesWin_130, w_X12_doesWin_133, w_X12_doesWin_134, w_X12_doesWin_135, w_X12_doesWin_136, w_X12_doesWin_137, w_X12_doesWin_138, w_X12_doesWin_139, pm_1i_c, pm_2i_c, pm_1l_c, pm_2l_c, pm_1a_c, pm_ia_c, pm_iia_c, pm_va_c, pm_cp_c, pm_k0_c, pm_k1_c, pm_k2_c, pm_k3_c, pm_s1_c, pm_s2_c, pm_s3_c, pm_s4_c, pm_ri_c, pm_ra_c, pm_rn_c, pm_rk_i, pm_rk_z, pm_rk_a, pm_vk_i, pm_vk_z, pm_vk_a, pm_cti, pm_ctr, pm_ldi_z, pm_ldi_s, pm_lda_z, pm_lda_s, pm_cat_n, pm_cat_i, pm_cat_r, pm_cat_l, pm_obj, pm_arr, pm_opt, pm_ird, pm_aln, List.getElem?_cons_zero, List.getElem?_cons_succ, List.set_cons_zero, List.set_cons_succ, List.length_cons, List.length_nil, List.length_set, true_and, and_true, Nat.add_zero, Nat.zero_add, Nat.le_refl, Nat.reduceAdd, Nat.reduceLT, Nat.reduceLeDiff, Nat.zero_le, not_false_eq_true, not_true_eq_false, false_implies, implies_true, true_implies, Nat.zero_lt_succ, Nat.lt_add_one, b3, show (25 : Int32) < 1000 by decide, show ¬ (25 : Int32) < 20 by decide, hm0, H0, q1, n2, vq, cq, gq]
              have G := go _ (upd g (st.length - 1) (1 - st.getLastD (-1))) (hh.set (m + 7) (.inl (0, 500, .inl (upd g (st.length - 1) (1 - st.getLastD (-1)))))) r1 (by omega) (by rw [len]; exact q4') (fun j hj => by
                rw [len] at hj
                by_cases e : j = st.length - 1
                · rw [getD_app_eq (by rw [List.length_dropLast]; exact e), e, upd_e]
                · rw [getD_app_lt (by rw [List.length_dropLast]; omega), upd_n e, getD_drop_lt (by omega)]
                  exact q5 j (by omega)) (by rw [hset_s, q1]; rfl) (by rw [List.length_set]; exact q6) (q7.tr (fun i hi => hset_n (Ne.symm hi)))
              rw [len, b3] at G
              exact G
            · have nr : ¬ (¬ x < 1000 ∨ x < 20) := fun q => q.elim (fun q => q b1) b2
              have q4' := q4
              unfold mdp at q4'
              rw [if_neg nr, if_neg b3] at q4'
              have l2 : 2 ≤ st.length := by
                by_cases w : 2 ≤ st.length
                · exact w
                · rw [if_neg w] at q4'
                  cases q4'
              rw [if_pos l2] at q4'
              have n1' : nI st.length + -1 = nI (st.length - 1) := by rw [nIinc, nI_one, pk_sub (by omega)]
              have n2 : nI (st.length - 1) - 1 = nI (st.length - 2) := by
                rw [nI_one, pk_sub (by omega)]
                congr 1
              have vq : vp_in (nI (st.length - 1)) 500 := vp_in_nI (by omega) (by omega)
              have cq : (nI (st.length - 1)).toNatClampNeg = st.length - 1 := nI_clamp (by omega)
              have vr : vp_in (nI (st.length - 2)) 500 := vp_in_nI (by omega) (by omega)
              have cr : (nI (st.length - 2)).toNatClampNeg = st.length - 2 := nI_clamp (by omega)
              have gq := q5 (st.length - 1) (by omega)
              have gr := q5 (st.length - 2) (by omega)
              rw [← getLast_at] at gq
              have gr2 : g (st.length - 2) = st.dropLast.getLastD (-1) := by
                rw [gr, getLast_at, List.length_dropLast, getD_drop_lt (by omega)]
                congr 1
              have r1 : st.dropLast.dropLast ++ [mjn x (st.dropLast.getLastD (-1)) (st.getLastD (-1))] = mst (fcF A c v) st x := by
                unfold mst
                rw [if_neg nr, if_neg b3]
              have len : (st.dropLast.dropLast ++ [mjn x (st.dropLast.getLastD (-1)) (st.getLastD (-1))]).length = st.length - 1 := by
                rw [List.length_append, List.length_singleton, List.length_dropLast, List.length_dropLast]
                omega
              simp only [w_X12_doesWin_64, w_X12_doesWin_67, w_X12_doesWin_70, w_X12_doesWin_72, w_X12_doesWin_74, w_X12_doesWin_114, w_X12_doesWin_116, w_X12_doesWin_118, w_X12_doesWin_121, w_X12_doesWin_122, w_X12_doesWin_125, w_X12_doesWin_126, w_X12_doesWin_127, w_X12_doesWin_128, w_X12_doesWin_129, w_X12_doesWin_130, w_X12_doesWin_133, w_X12_doesWin_134, w_X12_doesWin_135, w_X12_doesWin_136, w_X12_doesWin_137, w_X12_doesWin_138, w_X12_doesWin_139, w_X12_doesWin_142, w_X12_doesWin_145, w_X12_doesWin_146, w_X12_doesWin_149, w_X12_doesWin_150, w_X12_doesWin_151, w_X12_doesWin_152, w_X12_doesWin_154, w_X12_doesWin_155, w_X12_doesWin_158, w_X12_doesWin_159, w_X12_doesWin_160, w_X12_doesWin_161, w_X12_doesWin_162, w_X12_doesWin_163, w_X12_doesWin_166, w_X12_doesWin_167, w_X12_doesWin_168, pm_1i_c, pm_2i_c, pm_1l_c, pm_2l_c, pm_1a_c, pm_ia_c, pm_iia_c, pm_va_c, pm_cp_c, pm_k0_c, pm_k1_c, pm_k2_c, pm_k3_c, pm_s1_c, pm_s2_c, pm_s3_c, pm_s4_c, pm_ri_c, pm_ra_c, pm_rn_c, pm_rk_i, pm_rk_z, pm_rk_a, pm_vk_i, pm_vk_z, pm_vk_a, pm_cti, pm_ctr, pm_ldi_z, pm_ldi_s, pm_lda_z, pm_lda_s, pm_cat_n, pm_cat_i, pm_cat_r, pm_cat_l, pm_obj, pm_arr, pm_opt, pm_ird, pm_aln, List.getElem?_cons_zero, List.getElem?_cons_succ, List.set_cons_zero, List.set_cons_succ, List.length_cons, List.length_nil, List.length_set, true_and, and_true, Nat.add_zero, Nat.zero_add, Nat.le_refl, Nat.reduceAdd, Nat.reduceLT, Nat.reduceLeDiff, Nat.zero_le, not_false_eq_true, not_true_eq_false, false_implies, implies_true, true_implies, Nat.zero_lt_succ, Nat.lt_add_one, b1, b2, b3, hm0, H0, q1, n1', n2, vq, cq, vr, cr, gq, gr2, q6]
              refine PM_use (c_M_joined x _ _ (d + 4)) ?_
              rintro y h2 l2' ⟨rfl, rfl⟩
              show W_X12_doesWin _ _ _ _ _ _ _ _ _
              simp only [w_X12_doesWin_171, pm_1i_c, pm_2i_c, pm_1l_c, pm_2l_c, pm_1a_c, pm_ia_c, pm_iia_c, pm_va_c, pm_cp_c, pm_k0_c, pm_k1_c, pm_k2_c, pm_k3_c, pm_s1_c, pm_s2_c, pm_s3_c, pm_s4_c, pm_ri_c, pm_ra_c, pm_rn_c, pm_rk_i, pm_rk_z, pm_rk_a, pm_vk_i, pm_vk_z, pm_vk_a, pm_cti, pm_ctr, pm_ldi_z, pm_ldi_s, pm_lda_z, pm_lda_s, pm_cat_n, pm_cat_i, pm_cat_r, pm_cat_l, pm_obj, pm_arr, pm_opt, pm_ird, pm_aln, List.getElem?_cons_zero, List.getElem?_cons_succ, List.set_cons_zero, List.set_cons_succ, List.length_cons, List.length_nil, List.length_set, true_and, and_true, Nat.add_zero, Nat.zero_add, Nat.le_refl, Nat.reduceAdd, Nat.reduceLT, Nat.reduceLeDiff, Nat.zero_le, not_false_eq_true, not_true_eq_false, false_implies, implies_true, true_implies, Nat.zero_lt_succ, Nat.lt_add_one, pm_tl_n, pm_tl_s, sc_uL, q1, vr, cr]
              have G := go _ (upd g (st.length - 2) (mjn x (st.dropLast.getLastD (-1)) (st.getLastD (-1)))) (h2.set (m + 7) (.inl (0, 500, .inl (upd g (st.length - 2) (mjn x (st.dropLast.getLastD (-1)) (st.getLastD (-1))))))) r1 (by omega) (by rw [len]; exact q4') (fun j hj => by
                rw [len] at hj
                by_cases e : j = st.length - 2
                · rw [getD_app_eq (by rw [List.length_dropLast, List.length_dropLast]; omega), e, upd_e]
                · rw [getD_app_lt (by rw [List.length_dropLast, List.length_dropLast]; omega), upd_n e, getD_drop_lt (by rw [List.length_dropLast]; omega), getD_drop_lt (by omega)]
                  exact q5 j (by omega)) (by rw [hset_s, q1]; rfl) (by rw [List.length_set]; exact q6) (q7.tr (fun i hi => hset_n (Ne.symm hi)))
              rw [len] at G
              exact G
        · have r1 : mst (fcF A c v) st x = st ++ [x - 1000] := by
            unfold mst
            rw [if_pos (Or.inl b1), if_neg b1]
          have r3 : mdp (st.length + 1) (cs.drop (k + 1)) = some 1 := by
            unfold mdp at q4
            rw [if_pos (Or.inl b1)] at q4
            exact q4
          simp only [w_X12_doesWin_64, w_X12_doesWin_67, w_X12_doesWin_77, w_X12_doesWin_78, w_X12_doesWin_81, w_X12_doesWin_82, w_X12_doesWin_84, w_X12_doesWin_87, w_X12_doesWin_90, w_X12_doesWin_92, w_X12_doesWin_95, w_X12_doesWin_96, pm_1i_c, pm_2i_c, pm_1l_c, pm_2l_c, pm_1a_c, pm_ia_c, pm_iia_c, pm_va_c, pm_cp_c, pm_k0_c, pm_k1_c, pm_k2_c, pm_k3_c, pm_s1_c, pm_s2_c, pm_s3_c, pm_s4_c, pm_ri_c, pm_ra_c, pm_rn_c, pm_rk_i, pm_rk_z, pm_rk_a, pm_vk_i, pm_vk_z, pm_vk_a, pm_cti, pm_ctr, pm_ldi_z, pm_ldi_s, pm_lda_z, pm_lda_s, pm_cat_n, pm_cat_i, pm_cat_r, pm_cat_l, pm_obj, pm_arr, pm_opt, pm_ird, pm_aln, List.getElem?_cons_zero, List.getElem?_cons_succ, List.set_cons_zero, List.set_cons_succ, List.length_cons, List.length_nil, List.length_set, true_and, and_true, Nat.add_zero, Nat.zero_add, Nat.le_refl, Nat.reduceAdd, Nat.reduceLT, Nat.reduceLeDiff, Nat.zero_le, not_false_eq_true, not_true_eq_false, false_implies, implies_true, true_implies, Nat.zero_lt_succ, Nat.lt_add_one, b1, hm0, H0]
          exact push _ r1 r3
    obtain ⟨g, hg⟩ := P
    simp only [w_X12_doesWin_0, w_X12_doesWin_1, w_X12_doesWin_4, w_X12_doesWin_7, w_X12_doesWin_8, w_X12_doesWin_9, w_X12_doesWin_31, w_X12_doesWin_32, w_X12_doesWin_33, w_X12_doesWin_34, pm_1i_c, pm_2i_c, pm_1l_c, pm_2l_c, pm_1a_c, pm_ia_c, pm_iia_c, pm_va_c, pm_cp_c, pm_k0_c, pm_k1_c, pm_k2_c, pm_k3_c, pm_s1_c, pm_s2_c, pm_s3_c, pm_s4_c, pm_ri_c, pm_ra_c, pm_rn_c, pm_rk_i, pm_rk_z, pm_rk_a, pm_vk_i, pm_vk_z, pm_vk_a, pm_cti, pm_ctr, pm_ldi_z, pm_ldi_s, pm_lda_z, pm_lda_s, pm_cat_n, pm_cat_i, pm_cat_r, pm_cat_l, pm_obj, pm_arr, pm_opt, pm_ird, pm_aln, List.getElem?_cons_zero, List.getElem?_cons_succ, List.set_cons_zero, List.set_cons_succ, List.length_cons, List.length_nil, List.length_set, true_and, and_true, Nat.add_zero, Nat.zero_add, Nat.le_refl, Nat.reduceAdd, Nat.reduceLT, Nat.reduceLeDiff, Nat.zero_le, not_false_eq_true, not_true_eq_false, false_implies, implies_true, true_implies, Nat.zero_lt_succ, Nat.lt_add_one, H0, H1, ix_1693, vi_1693, s23, z]
    exact loop _ 0 rfl (Nat.zero_le _) [] h g _ hg rfl (Nat.le_refl _) w4 (fun j hj => absurd hj (Nat.not_lt_zero _)) rfl fr1.rf
end MF
