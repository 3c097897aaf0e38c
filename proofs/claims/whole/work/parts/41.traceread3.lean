/-! TraceReader: items, the whole text. -/
section XT
variable {h h' : pmH} {R : Nat} {t : TS} {tb : Int32} {s : XZ}
set_option maxHeartbeats 2000000 in
theorem c_X_readItem (L : tr_ h R t tb s) (V : NV t.1 t.2.2) {dp : Nat} (hdp : dp ≤ 6) {top : Bool} (ht : top = decide (6 ≤ dp)) {E : XZ → XZ} (hE : grw E) {D : Nat} (HE : dp < 6 → ∀ (h : pmH) (s : XZ), tr_ h R t tb s → PM (D + 4) 114 [.ref R, .int (nI (dp + 1))] h (fun v h' => v = none ∧ tr_ h' R t tb (E s) ∧ frX h h' R)) : PM (D + 5) 115 [.ref R, .int (nI dp)] h (fun v h' => v = none ∧ tr_ h' R t tb (itF t.1 t.2.2 top E s) ∧ frX h h' R) := by
  have ro := L.o
  have to := L.to
  have i4 := L.i4
  have st : nI s.1.1 ≠ -1 := nI_ne1 (by omega)
  refine en_X10_readItem rfl rfl ?_
  unfold itF
  -- not too deep
  have rest : ¬ (kiF t.1 s.1 = 40 ∧ top = true) → W_X10_readItem (D + 4) (h.length + 0) 0 (fun v h' => v = none ∧ tr_ h' R t tb (itB t.1 t.2.2 top E (nI s.1.1) s) ∧ frX h h' R) 37 [some (.ref R), some (.int (nI dp)), some (.int (nI s.1.1)), none] [] h 0 := by
    intro c
    unfold itB
    rw [if_neg c]
    simp only [w_X10_readItem_37, w_X10_readItem_38, w_X10_readItem_41, w_X10_readItem_43, pm_1i_c, pm_2i_c, pm_1l_c, pm_2l_c, pm_1a_c, pm_ia_c, pm_iia_c, pm_va_c, pm_cp_c, pm_k0_c, pm_k1_c, pm_k2_c, pm_k3_c, pm_s1_c, pm_s2_c, pm_s3_c, pm_s4_c, pm_ri_c, pm_ra_c, pm_rn_c, pm_rk_i, pm_rk_z, pm_rk_a, pm_vk_i, pm_vk_z, pm_vk_a, pm_cti, pm_ctr, pm_ldi_z, pm_ldi_s, pm_lda_z, pm_lda_s, pm_cat_n, pm_cat_i, pm_cat_r, pm_cat_l, pm_obj, pm_arr, pm_opt, pm_ird, pm_aln, List.getElem?_cons_zero, List.getElem?_cons_succ, List.set_cons_zero, List.set_cons_succ, List.length_cons, List.length_nil, List.length_set, true_and, and_true, Nat.add_zero, Nat.zero_add, Nat.le_refl, Nat.reduceAdd, Nat.reduceLT, Nat.reduceLeDiff, Nat.zero_le, not_false_eq_true, not_true_eq_false, false_implies, implies_true, true_implies, Nat.zero_lt_succ, Nat.lt_add_one, ro, to]
    refine PM_use (c_X_takes L 40 (by decide) (D + 2)) ?_
    rintro v h2 l2 ⟨rfl, L2, f2⟩
    have ro2 := L2.o
    rcases Bool.eq_false_or_eq_true (taB t.1 40 s.1) with c2 | c2
    · have hd6 : dp < 6 := by
        rcases Nat.lt_or_ge dp 6 with z | z
        · exact z
        · refine absurd ⟨?_, by rw [ht]; exact decide_eq_true z⟩ c
          unfold taB at c2
          rw [decide_eq_true_eq] at c2
          unfold kiF
          rw [if_pos c2.1]
          exact c2.2
      have ko2 := L2.ko
      simp only [c2, if_true]
      show W_X10_readItem _ _ _ _ _ _ _ _ _
      simp only [w_X10_readItem_46, w_X10_readItem_57, w_X10_readItem_58, w_X10_readItem_61, pm_1i_c, pm_2i_c, pm_1l_c, pm_2l_c, pm_1a_c, pm_ia_c, pm_iia_c, pm_va_c, pm_cp_c, pm_k0_c, pm_k1_c, pm_k2_c, pm_k3_c, pm_s1_c, pm_s2_c, pm_s3_c, pm_s4_c, pm_ri_c, pm_ra_c, pm_rn_c, pm_rk_i, pm_rk_z, pm_rk_a, pm_vk_i, pm_vk_z, pm_vk_a, pm_cti, pm_ctr, pm_ldi_z, pm_ldi_s, pm_lda_z, pm_lda_s, pm_cat_n, pm_cat_i, pm_cat_r, pm_cat_l, pm_obj, pm_arr, pm_opt, pm_ird, pm_aln, List.getElem?_cons_zero, List.getElem?_cons_succ, List.set_cons_zero, List.set_cons_succ, List.length_cons, List.length_nil, List.length_set, true_and, and_true, Nat.add_zero, Nat.zero_add, Nat.le_refl, Nat.reduceAdd, Nat.reduceLT, Nat.reduceLeDiff, Nat.zero_le, not_false_eq_true, not_true_eq_false, false_implies, implies_true, true_implies, Nat.zero_lt_succ, Nat.lt_add_one, pm_tl_n, pm_tl_s, sc_uL, l2, ro2, ko2, show ¬ (1 : Int32) = 0 by decide]
      refine PM_use (c_Row_size L2.2.2.1 (D + 3)) ?_
      rintro v h3 l3 ⟨rfl, rfl⟩
      show W_X10_readItem _ _ _ _ _ _ _ _ _
      simp only [w_X10_readItem_64, w_X10_readItem_65, w_X10_readItem_66, w_X10_readItem_67, w_X10_readItem_68, w_X10_readItem_69, pm_1i_c, pm_2i_c, pm_1l_c, pm_2l_c, pm_1a_c, pm_ia_c, pm_iia_c, pm_va_c, pm_cp_c, pm_k0_c, pm_k1_c, pm_k2_c, pm_k3_c, pm_s1_c, pm_s2_c, pm_s3_c, pm_s4_c, pm_ri_c, pm_ra_c, pm_rn_c, pm_rk_i, pm_rk_z, pm_rk_a, pm_vk_i, pm_vk_z, pm_vk_a, pm_cti, pm_ctr, pm_ldi_z, pm_ldi_s, pm_lda_z, pm_lda_s, pm_cat_n, pm_cat_i, pm_cat_r, pm_cat_l, pm_obj, pm_arr, pm_opt, pm_ird, pm_aln, List.getElem?_cons_zero, List.getElem?_cons_succ, List.set_cons_zero, List.set_cons_succ, List.length_cons, List.length_nil, List.length_set, true_and, and_true, Nat.add_zero, Nat.zero_add, Nat.le_refl, Nat.reduceAdd, Nat.reduceLT, Nat.reduceLeDiff, Nat.zero_le, not_false_eq_true, not_true_eq_false, false_implies, implies_true, true_implies, Nat.zero_lt_succ, Nat.lt_add_one, pm_tl_n, pm_tl_s, sc_uL, l2, ro2, nI_1]
      refine PM_use (HE hd6 h3 _ L2) ?_
      rintro v h4 l4 ⟨rfl, L4, f4⟩
      have ro4 := L4.o
      have to4 := L4.to
      show W_X10_readItem _ _ _ _ _ _ _ _ _
      simp only [w_X10_readItem_72, w_X10_readItem_73, w_X10_readItem_76, w_X10_readItem_78, pm_1i_c, pm_2i_c, pm_1l_c, pm_2l_c, pm_1a_c, pm_ia_c, pm_iia_c, pm_va_c, pm_cp_c, pm_k0_c, pm_k1_c, pm_k2_c, pm_k3_c, pm_s1_c, pm_s2_c, pm_s3_c, pm_s4_c, pm_ri_c, pm_ra_c, pm_rn_c, pm_rk_i, pm_rk_z, pm_rk_a, pm_vk_i, pm_vk_z, pm_vk_a, pm_cti, pm_ctr, pm_ldi_z, pm_ldi_s, pm_lda_z, pm_lda_s, pm_cat_n, pm_cat_i, pm_cat_r, pm_cat_l, pm_obj, pm_arr, pm_opt, pm_ird, pm_aln, List.getElem?_cons_zero, List.getElem?_cons_succ, List.set_cons_zero, List.set_cons_succ, List.length_cons, List.length_nil, List.length_set, true_and, and_true, Nat.add_zero, Nat.zero_add, Nat.le_refl, Nat.reduceAdd, Nat.reduceLT, Nat.reduceLeDiff, Nat.zero_le, not_false_eq_true, not_true_eq_false, false_implies, implies_true, true_implies, Nat.zero_lt_succ, Nat.lt_add_one, pm_tl_n, pm_tl_s, sc_uL, ro4, to4, l4, l2]
      refine PM_use (c_X_need L4 41 (by decide) (D + 2)) ?_
      rintro v h5 l5 ⟨rfl, L5, f5⟩
      have ro5 := L5.o
      show W_X10_readItem _ _ _ _ _ _ _ _ _
      simp only [w_X10_readItem_81, w_X10_readItem_82, w_X10_readItem_83, w_X10_readItem_84, pm_1i_c, pm_2i_c, pm_1l_c, pm_2l_c, pm_1a_c, pm_ia_c, pm_iia_c, pm_va_c, pm_cp_c, pm_k0_c, pm_k1_c, pm_k2_c, pm_k3_c, pm_s1_c, pm_s2_c, pm_s3_c, pm_s4_c, pm_ri_c, pm_ra_c, pm_rn_c, pm_rk_i, pm_rk_z, pm_rk_a, pm_vk_i, pm_vk_z, pm_vk_a, pm_cti, pm_ctr, pm_ldi_z, pm_ldi_s, pm_lda_z, pm_lda_s, pm_cat_n, pm_cat_i, pm_cat_r, pm_cat_l, pm_obj, pm_arr, pm_opt, pm_ird, pm_aln, List.getElem?_cons_zero, List.getElem?_cons_succ, List.set_cons_zero, List.set_cons_succ, List.length_cons, List.length_nil, List.length_set, true_and, and_true, Nat.add_zero, Nat.zero_add, Nat.le_refl, Nat.reduceAdd, Nat.reduceLT, Nat.reduceLeDiff, Nat.zero_le, not_false_eq_true, not_true_eq_false, false_implies, implies_true, true_implies, Nat.zero_lt_succ, Nat.lt_add_one, pm_tl_n, pm_tl_s, sc_uL, ro5, l5, l4, l2]
      have len : s.2.length ≤ (xNd t.1 41 (E (xTk t.1 40 s))).2.length := (hE (xTk t.1 40 s)).length_le
      refine PM_use (c_X_repeatFrom L5 V len (nI s.1.1) st D) ?_
      rintro v h6 l6 ⟨rfl, L6, f6⟩
      show W_X10_readItem _ _ _ _ _ _ _ _ _
      simp only [w_X10_readItem_87, pm_1i_c, pm_2i_c, pm_1l_c, pm_2l_c, pm_1a_c, pm_ia_c, pm_iia_c, pm_va_c, pm_cp_c, pm_k0_c, pm_k1_c, pm_k2_c, pm_k3_c, pm_s1_c, pm_s2_c, pm_s3_c, pm_s4_c, pm_ri_c, pm_ra_c, pm_rn_c, pm_rk_i, pm_rk_z, pm_rk_a, pm_vk_i, pm_vk_z, pm_vk_a, pm_cti, pm_ctr, pm_ldi_z, pm_ldi_s, pm_lda_z, pm_lda_s, pm_cat_n, pm_cat_i, pm_cat_r, pm_cat_l, pm_obj, pm_arr, pm_opt, pm_ird, pm_aln, List.getElem?_cons_zero, List.getElem?_cons_succ, List.set_cons_zero, List.set_cons_succ, List.length_cons, List.length_nil, List.length_set, true_and, and_true, Nat.add_zero, Nat.zero_add, Nat.le_refl, Nat.reduceAdd, Nat.reduceLT, Nat.reduceLeDiff, Nat.zero_le, not_false_eq_true, not_true_eq_false, false_implies, implies_true, true_implies, Nat.zero_lt_succ, Nat.lt_add_one, pm_tl_n, pm_tl_s, sc_uL, l6, l5, l4, l2]
      exact ⟨L6, ((f2.tr f4).tr f5).tr f6⟩
    · rw [xTk_no c2] at L2
      simp only [c2, Bool.false_eq_true, if_false]
      show W_X10_readItem _ _ _ _ _ _ _ _ _
      simp only [w_X10_readItem_46, w_X10_readItem_49, w_X10_readItem_50, w_X10_readItem_51, pm_1i_c, pm_2i_c, pm_1l_c, pm_2l_c, pm_1a_c, pm_ia_c, pm_iia_c, pm_va_c, pm_cp_c, pm_k0_c, pm_k1_c, pm_k2_c, pm_k3_c, pm_s1_c, pm_s2_c, pm_s3_c, pm_s4_c, pm_ri_c, pm_ra_c, pm_rn_c, pm_rk_i, pm_rk_z, pm_rk_a, pm_vk_i, pm_vk_z, pm_vk_a, pm_cti, pm_ctr, pm_ldi_z, pm_ldi_s, pm_lda_z, pm_lda_s, pm_cat_n, pm_cat_i, pm_cat_r, pm_cat_l, pm_obj, pm_arr, pm_opt, pm_ird, pm_aln, List.getElem?_cons_zero, List.getElem?_cons_succ, List.set_cons_zero, List.set_cons_succ, List.length_cons, List.length_nil, List.length_set, true_and, and_true, Nat.add_zero, Nat.zero_add, Nat.le_refl, Nat.reduceAdd, Nat.reduceLT, Nat.reduceLeDiff, Nat.zero_le, not_false_eq_true, not_true_eq_false, false_implies, implies_true, true_implies, Nat.zero_lt_succ, Nat.lt_add_one, pm_tl_n, pm_tl_s, sc_uL, l2, ro2]
      refine PM_use (c_X_readRange L2 V (nI s.1.1) st D) ?_
      rintro v h6 l6 ⟨rfl, L6, f6⟩
      show W_X10_readItem _ _ _ _ _ _ _ _ _
      simp only [w_X10_readItem_54, w_X10_readItem_87, pm_1i_c, pm_2i_c, pm_1l_c, pm_2l_c, pm_1a_c, pm_ia_c, pm_iia_c, pm_va_c, pm_cp_c, pm_k0_c, pm_k1_c, pm_k2_c, pm_k3_c, pm_s1_c, pm_s2_c, pm_s3_c, pm_s4_c, pm_ri_c, pm_ra_c, pm_rn_c, pm_rk_i, pm_rk_z, pm_rk_a, pm_vk_i, pm_vk_z, pm_vk_a, pm_cti, pm_ctr, pm_ldi_z, pm_ldi_s, pm_lda_z, pm_lda_s, pm_cat_n, pm_cat_i, pm_cat_r, pm_cat_l, pm_obj, pm_arr, pm_opt, pm_ird, pm_aln, List.getElem?_cons_zero, List.getElem?_cons_succ, List.set_cons_zero, List.set_cons_succ, List.length_cons, List.length_nil, List.length_set, true_and, and_true, Nat.add_zero, Nat.zero_add, Nat.le_refl, Nat.reduceAdd, Nat.reduceLT, Nat.reduceLeDiff, Nat.zero_le, not_false_eq_true, not_true_eq_false, false_implies, implies_true, true_implies, Nat.zero_lt_succ, Nat.lt_add_one, pm_tl_n, pm_tl_s, sc_uL, l6, l2]
      exact ⟨L6, f2.tr f6⟩
  simp only [w_X10_readItem_0, w_X10_readItem_1, w_X10_readItem_4, w_X10_readItem_7, w_X10_readItem_8, w_X10_readItem_9, w_X10_readItem_12, pm_1i_c, pm_2i_c, pm_1l_c, pm_2l_c, pm_1a_c, pm_ia_c, pm_iia_c, pm_va_c, pm_cp_c, pm_k0_c, pm_k1_c, pm_k2_c, pm_k3_c, pm_s1_c, pm_s2_c, pm_s3_c, pm_s4_c, pm_ri_c, pm_ra_c, pm_rn_c, pm_rk_i, pm_rk_z, pm_rk_a, pm_vk_i, pm_vk_z, pm_vk_a, pm_cti, pm_ctr, pm_ldi_z, pm_ldi_s, pm_lda_z, pm_lda_s, pm_cat_n, pm_cat_i, pm_cat_r, pm_cat_l, pm_obj, pm_arr, pm_opt, pm_ird, pm_aln, List.getElem?_cons_zero, List.getElem?_cons_succ, List.set_cons_zero, List.set_cons_succ, List.length_cons, List.length_nil, List.length_set, true_and, and_true, Nat.add_zero, Nat.zero_add, Nat.le_refl, Nat.reduceAdd, Nat.reduceLT, Nat.reduceLeDiff, Nat.zero_le, not_false_eq_true, not_true_eq_false, false_implies, implies_true, true_implies, Nat.zero_lt_succ, Nat.lt_add_one, ro, to]
  refine PM_use (c_T_kind L.2.1 i4 (D + 2)) ?_
  rintro v h1 l1 ⟨rfl, rfl⟩
  show W_X10_readItem _ _ _ _ _ _ _ _ _
  simp only [w_X10_readItem_15, w_X10_readItem_17, w_X10_readItem_20, w_X10_readItem_21, w_X10_readItem_23, w_X10_readItem_26, w_X10_readItem_27, w_X10_readItem_30, w_X10_readItem_31, pm_1i_c, pm_2i_c, pm_1l_c, pm_2l_c, pm_1a_c, pm_ia_c, pm_iia_c, pm_va_c, pm_cp_c, pm_k0_c, pm_k1_c, pm_k2_c, pm_k3_c, pm_s1_c, pm_s2_c, pm_s3_c, pm_s4_c, pm_ri_c, pm_ra_c, pm_rn_c, pm_rk_i, pm_rk_z, pm_rk_a, pm_vk_i, pm_vk_z, pm_vk_a, pm_cti, pm_ctr, pm_ldi_z, pm_ldi_s, pm_lda_z, pm_lda_s, pm_cat_n, pm_cat_i, pm_cat_r, pm_cat_l, pm_obj, pm_arr, pm_opt, pm_ird, pm_aln, List.getElem?_cons_zero, List.getElem?_cons_succ, List.set_cons_zero, List.set_cons_succ, List.length_cons, List.length_nil, List.length_set, true_and, and_true, Nat.add_zero, Nat.zero_add, Nat.le_refl, Nat.reduceAdd, Nat.reduceLT, Nat.reduceLeDiff, Nat.zero_le, not_false_eq_true, not_true_eq_false, false_implies, implies_true, true_implies, Nat.zero_lt_succ, Nat.lt_add_one, pm_tl_n, pm_tl_s, sc_uL, ro, to]
  refine ⟨fun c => rest (fun z => c z.1), fun c => ⟨fun c2 => ?_, fun c2 => ?_⟩⟩
  · refine rest (fun z => ?_)
    have z2 := z.2
    rw [ht, decide_eq_true_eq] at z2
    exact absurd c2 (nI_nlt (a := dp) (b := 6) z2 (by omega))
  · have c3 : top = true := by
      rw [ht]
      refine decide_eq_true ?_
      rcases Nat.lt_or_ge dp 6 with z | z
      · exact absurd (nI_lt (a := dp) (b := 6) z (by omega)) c2
      · exact z
    refine PM_use (c_X_fail L (nI s.1.1) (D + 3)) ?_
    rintro v h2 l2 ⟨rfl, L2, f2⟩
    show W_X10_readItem _ _ _ _ _ _ _ _ _
    simp only [w_X10_readItem_34, w_X10_readItem_87, pm_1i_c, pm_2i_c, pm_1l_c, pm_2l_c, pm_1a_c, pm_ia_c, pm_iia_c, pm_va_c, pm_cp_c, pm_k0_c, pm_k1_c, pm_k2_c, pm_k3_c, pm_s1_c, pm_s2_c, pm_s3_c, pm_s4_c, pm_ri_c, pm_ra_c, pm_rn_c, pm_rk_i, pm_rk_z, pm_rk_a, pm_vk_i, pm_vk_z, pm_vk_a, pm_cti, pm_ctr, pm_ldi_z, pm_ldi_s, pm_lda_z, pm_lda_s, pm_cat_n, pm_cat_i, pm_cat_r, pm_cat_l, pm_obj, pm_arr, pm_opt, pm_ird, pm_aln, List.getElem?_cons_zero, List.getElem?_cons_succ, List.set_cons_zero, List.set_cons_succ, List.length_cons, List.length_nil, List.length_set, true_and, and_true, Nat.add_zero, Nat.zero_add, Nat.le_refl, Nat.reduceAdd, Nat.reduceLT, Nat.reduceLeDiff, Nat.zero_le, not_false_eq_true, not_true_eq_false, false_implies, implies_true, true_implies, Nat.zero_lt_succ, Nat.lt_add_one, pm_tl_n, pm_tl_s, sc_uL, l2]
    unfold itB
    rw [if_pos ⟨c, c3⟩]
    exact ⟨L2, f2⟩
theorem c_X_readItems (L : tr_ h R t tb s) {dp : Nat} {A : XZ → XZ} {D : Nat} (HA : ∀ (h : pmH) (s : XZ), tr_ h R t tb s → PM (D + 5) 115 [.ref R, .int (nI dp)] h (fun v h' => v = none ∧ tr_ h' R t tb (A s) ∧ frX h h' R)) : PM (D + 6) 114 [.ref R, .int (nI dp)] h (fun v h' => v = none ∧ tr_ h' R t tb (imF t.1 A s) ∧ frX h h' R) := by
  refine en_X10_readItems rfl rfl ?_
  have loop : ∀ f n, 400 - n = f → n ≤ 400 → ∀ (hh : pmH) (q : XZ), tr_ hh R t tb q → imG t.1 A f q = imF t.1 A s → hh.length = h.length → frX h hh R → W_X10_readItems (D + 5) (h.length + 0) 0 (fun v h' => v = none ∧ tr_ h' R t tb (imF t.1 A s) ∧ frX h h' R) 7 [some (.ref R), some (.int (nI dp)), some (.int (nI n))] [] hh 0 := by
    intro f
    induction f with
    | zero =>
      intro n hn hn2 hh q L1 e q1 q2
      have e1 : ¬ nI n < 400 := nI_nlt (b := 400) (by omega) (by omega)
      rw [w_X10_readItems_7]
      simp only [w_X10_readItems_8, w_X10_readItems_11, w_X10_readItems_14, w_X10_readItems_15, w_X10_readItems_18, w_X10_readItems_21, w_X10_readItems_24, w_X10_readItems_27, w_X10_readItems_28, w_X10_readItems_31, w_X10_readItems_34, w_X10_readItems_36, w_X10_readItems_39, w_X10_readItems_40, w_X10_readItems_41, w_X10_readItems_44, w_X10_readItems_47, w_X10_readItems_50, pm_1i_c, pm_2i_c, pm_1l_c, pm_2l_c, pm_1a_c, pm_ia_c, pm_iia_c, pm_va_c, pm_cp_c, pm_k0_c, pm_k1_c, pm_k2_c, pm_k3_c, pm_s1_c, pm_s2_c, pm_s3_c, pm_s4_c, pm_ri_c, pm_ra_c, pm_rn_c, pm_rk_i, pm_rk_z, pm_rk_a, pm_vk_i, pm_vk_z, pm_vk_a, pm_cti, pm_ctr, pm_ldi_z, pm_ldi_s, pm_lda_z, pm_lda_s, pm_cat_n, pm_cat_i, pm_cat_r, pm_cat_l, pm_obj, pm_arr, pm_opt, pm_ird, pm_aln, List.getElem?_cons_zero, List.getElem?_cons_succ, List.set_cons_zero, List.set_cons_succ, List.length_cons, List.length_nil, List.length_set, true_and, and_true, Nat.add_zero, Nat.zero_add, Nat.le_refl, Nat.reduceAdd, Nat.reduceLT, Nat.reduceLeDiff, Nat.zero_le, not_false_eq_true, not_true_eq_false, false_implies, implies_true, true_implies, Nat.zero_lt_succ, Nat.lt_add_one, e1, q1]
      rw [← e]
      exact ⟨L1, q2⟩
    | succ f ih =>
      intro n hn hn2 hh q L1 e q1 q2
      have e1 : nI n < 400 := nI_lt (b := 400) (by omega) (by omega)
      have ro := L1.o
      have to := L1.to
      rw [imG_s] at e
      -- one item more
      have more : (kiF t.1 q.1 = 267 ∨ kiF t.1 q.1 = 40) → W_X10_readItems (D + 5) (h.length + 0) 0 (fun v h' => v = none ∧ tr_ h' R t tb (imF t.1 A s) ∧ frX h h' R) 39 [some (.ref R), some (.int (nI dp)), some (.int (nI n))] [] hh 0 := by
        intro c
        rw [if_pos c] at e
        simp only [w_X10_readItems_39, w_X10_readItems_40, w_X10_readItems_41, pm_1i_c, pm_2i_c, pm_1l_c, pm_2l_c, pm_1a_c, pm_ia_c, pm_iia_c, pm_va_c, pm_cp_c, pm_k0_c, pm_k1_c, pm_k2_c, pm_k3_c, pm_s1_c, pm_s2_c, pm_s3_c, pm_s4_c, pm_ri_c, pm_ra_c, pm_rn_c, pm_rk_i, pm_rk_z, pm_rk_a, pm_vk_i, pm_vk_z, pm_vk_a, pm_cti, pm_ctr, pm_ldi_z, pm_ldi_s, pm_lda_z, pm_lda_s, pm_cat_n, pm_cat_i, pm_cat_r, pm_cat_l, pm_obj, pm_arr, pm_opt, pm_ird, pm_aln, List.getElem?_cons_zero, List.getElem?_cons_succ, List.set_cons_zero, List.set_cons_succ, List.length_cons, List.length_nil, List.length_set, true_and, and_true, Nat.add_zero, Nat.zero_add, Nat.le_refl, Nat.reduceAdd, Nat.reduceLT, Nat.reduceLeDiff, Nat.zero_le, not_false_eq_true, not_true_eq_false, false_implies, implies_true, true_implies, Nat.zero_lt_succ, Nat.lt_add_one, ro, q1]
        refine PM_use (HA hh _ L1) ?_
        rintro v h3 l3 ⟨rfl, L3, f3⟩
        show W_X10_readItems _ _ _ _ _ _ _ _ _
        simp only [w_X10_readItems_44, w_X10_readItems_47, pm_1i_c, pm_2i_c, pm_1l_c, pm_2l_c, pm_1a_c, pm_ia_c, pm_iia_c, pm_va_c, pm_cp_c, pm_k0_c, pm_k1_c, pm_k2_c, pm_k3_c, pm_s1_c, pm_s2_c, pm_s3_c, pm_s4_c, pm_ri_c, pm_ra_c, pm_rn_c, pm_rk_i, pm_rk_z, pm_rk_a, pm_vk_i, pm_vk_z, pm_vk_a, pm_cti, pm_ctr, pm_ldi_z, pm_ldi_s, pm_lda_z, pm_lda_s, pm_cat_n, pm_cat_i, pm_cat_r, pm_cat_l, pm_obj, pm_arr, pm_opt, pm_ird, pm_aln, List.getElem?_cons_zero, List.getElem?_cons_succ, List.set_cons_zero, List.set_cons_succ, List.length_cons, List.length_nil, List.length_set, true_and, and_true, Nat.add_zero, Nat.zero_add, Nat.le_refl, Nat.reduceAdd, Nat.reduceLT, Nat.reduceLeDiff, Nat.zero_le, not_false_eq_true, not_true_eq_false, false_implies, implies_true, true_implies, Nat.zero_lt_succ, Nat.lt_add_one, pm_tl_n, pm_tl_s, sc_uL, nI_1]
        exact ih (n + 1) (by omega) (by omega) h3 _ L3 e (by rw [l3, q1]; rfl) (q2.tr f3)
      rw [w_X10_readItems_7]
      simp only [w_X10_readItems_8, w_X10_readItems_11, w_X10_readItems_14, w_X10_readItems_15, w_X10_readItems_18, pm_1i_c, pm_2i_c, pm_1l_c, pm_2l_c, pm_1a_c, pm_ia_c, pm_iia_c, pm_va_c, pm_cp_c, pm_k0_c, pm_k1_c, pm_k2_c, pm_k3_c, pm_s1_c, pm_s2_c, pm_s3_c, pm_s4_c, pm_ri_c, pm_ra_c, pm_rn_c, pm_rk_i, pm_rk_z, pm_rk_a, pm_vk_i, pm_vk_z, pm_vk_a, pm_cti, pm_ctr, pm_ldi_z, pm_ldi_s, pm_lda_z, pm_lda_s, pm_cat_n, pm_cat_i, pm_cat_r, pm_cat_l, pm_obj, pm_arr, pm_opt, pm_ird, pm_aln, List.getElem?_cons_zero, List.getElem?_cons_succ, List.set_cons_zero, List.set_cons_succ, List.length_cons, List.length_nil, List.length_set, true_and, and_true, Nat.add_zero, Nat.zero_add, Nat.le_refl, Nat.reduceAdd, Nat.reduceLT, Nat.reduceLeDiff, Nat.zero_le, not_false_eq_true, not_true_eq_false, false_implies, implies_true, true_implies, Nat.zero_lt_succ, Nat.lt_add_one, e1, ro, to, q1]
      refine PM_use (c_T_kind L1.2.1 L1.i4 (D + 3)) ?_
      rintro v h2 l2 ⟨rfl, rfl⟩
      show W_X10_readItems _ _ _ _ _ _ _ _ _
      simp only [w_X10_readItems_21, w_X10_readItems_24, w_X10_readItems_27, w_X10_readItems_28, w_X10_readItems_31, pm_1i_c, pm_2i_c, pm_1l_c, pm_2l_c, pm_1a_c, pm_ia_c, pm_iia_c, pm_va_c, pm_cp_c, pm_k0_c, pm_k1_c, pm_k2_c, pm_k3_c, pm_s1_c, pm_s2_c, pm_s3_c, pm_s4_c, pm_ri_c, pm_ra_c, pm_rn_c, pm_rk_i, pm_rk_z, pm_rk_a, pm_vk_i, pm_vk_z, pm_vk_a, pm_cti, pm_ctr, pm_ldi_z, pm_ldi_s, pm_lda_z, pm_lda_s, pm_cat_n, pm_cat_i, pm_cat_r, pm_cat_l, pm_obj, pm_arr, pm_opt, pm_ird, pm_aln, List.getElem?_cons_zero, List.getElem?_cons_succ, List.set_cons_zero, List.set_cons_succ, List.length_cons, List.length_nil, List.length_set, true_and, and_true, Nat.add_zero, Nat.zero_add, Nat.le_refl, Nat.reduceAdd, Nat.reduceLT, Nat.reduceLeDiff, Nat.zero_le, not_false_eq_true, not_true_eq_false, false_implies, implies_true, true_implies, Nat.zero_lt_succ, Nat.lt_add_one, pm_tl_n, pm_tl_s, sc_uL, ro, to, q1]
      refine ⟨fun c => more (Or.inl c), fun c => ?_⟩
      refine PM_use (c_T_kind L1.2.1 L1.i4 (D + 3)) ?_
      rintro v h3 l3 ⟨rfl, rfl⟩
      show W_X10_readItems _ _ _ _ _ _ _ _ _
      simp only [w_X10_readItems_34, w_X10_readItems_36, w_X10_readItems_50, pm_1i_c, pm_2i_c, pm_1l_c, pm_2l_c, pm_1a_c, pm_ia_c, pm_iia_c, pm_va_c, pm_cp_c, pm_k0_c, pm_k1_c, pm_k2_c, pm_k3_c, pm_s1_c, pm_s2_c, pm_s3_c, pm_s4_c, pm_ri_c, pm_ra_c, pm_rn_c, pm_rk_i, pm_rk_z, pm_rk_a, pm_vk_i, pm_vk_z, pm_vk_a, pm_cti, pm_ctr, pm_ldi_z, pm_ldi_s, pm_lda_z, pm_lda_s, pm_cat_n, pm_cat_i, pm_cat_r, pm_cat_l, pm_obj, pm_arr, pm_opt, pm_ird, pm_aln, List.getElem?_cons_zero, List.getElem?_cons_succ, List.set_cons_zero, List.set_cons_succ, List.length_cons, List.length_nil, List.length_set, true_and, and_true, Nat.add_zero, Nat.zero_add, Nat.le_refl, Nat.reduceAdd, Nat.reduceLT, Nat.reduceLeDiff, Nat.zero_le, not_false_eq_true, not_true_eq_false, false_implies, implies_true, true_implies, Nat.zero_lt_succ, Nat.lt_add_one, pm_tl_n, pm_tl_s, sc_uL, q1]
      refine ⟨fun c2 => ?_, fun c2 => more (Or.inr c2)⟩
      rw [if_neg (fun z => z.elim c c2)] at e
      rw [← e]
      exact ⟨L1, q2⟩
  have ro := L.o
  simp only [w_X10_readItems_0, w_X10_readItems_1, w_X10_readItems_2, pm_1i_c, pm_2i_c, pm_1l_c, pm_2l_c, pm_1a_c, pm_ia_c, pm_iia_c, pm_va_c, pm_cp_c, pm_k0_c, pm_k1_c, pm_k2_c, pm_k3_c, pm_s1_c, pm_s2_c, pm_s3_c, pm_s4_c, pm_ri_c, pm_ra_c, pm_rn_c, pm_rk_i, pm_rk_z, pm_rk_a, pm_vk_i, pm_vk_z, pm_vk_a, pm_cti, pm_ctr, pm_ldi_z, pm_ldi_s, pm_lda_z, pm_lda_s, pm_cat_n, pm_cat_i, pm_cat_r, pm_cat_l, pm_obj, pm_arr, pm_opt, pm_ird, pm_aln, List.getElem?_cons_zero, List.getElem?_cons_succ, List.set_cons_zero, List.set_cons_succ, List.length_cons, List.length_nil, List.length_set, true_and, and_true, Nat.add_zero, Nat.zero_add, Nat.le_refl, Nat.reduceAdd, Nat.reduceLT, Nat.reduceLeDiff, Nat.zero_le, not_false_eq_true, not_true_eq_false, false_implies, implies_true, true_implies, Nat.zero_lt_succ, Nat.lt_add_one, ro]
  refine PM_use (HA h s L) ?_
  rintro v h1 l1 ⟨rfl, L1, f1⟩
  show W_X10_readItems _ _ _ _ _ _ _ _ _
  simp only [w_X10_readItems_5, w_X10_readItems_6, pm_1i_c, pm_2i_c, pm_1l_c, pm_2l_c, pm_1a_c, pm_ia_c, pm_iia_c, pm_va_c, pm_cp_c, pm_k0_c, pm_k1_c, pm_k2_c, pm_k3_c, pm_s1_c, pm_s2_c, pm_s3_c, pm_s4_c, pm_ri_c, pm_ra_c, pm_rn_c, pm_rk_i, pm_rk_z, pm_rk_a, pm_vk_i, pm_vk_z, pm_vk_a, pm_cti, pm_ctr, pm_ldi_z, pm_ldi_s, pm_lda_z, pm_lda_s, pm_cat_n, pm_cat_i, pm_cat_r, pm_cat_l, pm_obj, pm_arr, pm_opt, pm_ird, pm_aln, List.getElem?_cons_zero, List.getElem?_cons_succ, List.set_cons_zero, List.set_cons_succ, List.length_cons, List.length_nil, List.length_set, true_and, and_true, Nat.add_zero, Nat.zero_add, Nat.le_refl, Nat.reduceAdd, Nat.reduceLT, Nat.reduceLeDiff, Nat.zero_le, not_false_eq_true, not_true_eq_false, false_implies, implies_true, true_implies, Nat.zero_lt_succ, Nat.lt_add_one, pm_tl_n, pm_tl_s, sc_uL]
  exact loop 400 0 rfl (by omega) h1 _ L1 rfl (by rw [l1]; rfl) f1
theorem c_X_XE (V : NV t.1 t.2.2) (d : Nat) : ∀ e, e ≤ 6 → ∀ (h : pmH) (s : XZ), tr_ h R t tb s → PM (d + 2 * e + 6) 114 [.ref R, .int (nI (6 - e))] h (fun v h' => v = none ∧ tr_ h' R t tb (XE t.1 t.2.2 e s) ∧ frX h h' R)
  | 0, _, h, s, L => c_X_readItems L (D := d) (fun h s L => c_X_readItem L V (dp := 6) (by omega) (top := true) (by decide) (E := id) (fun s => List.prefix_refl _) (fun z => absurd z (by omega)))
  | e + 1, he, h, s, L => by
    have I := c_X_XE V d e (by omega)
    have e6 : 6 - (e + 1) + 1 = 6 - e := by omega
    have K := c_X_readItems L (D := d + 2 * e + 2) (dp := 6 - (e + 1)) (fun h s L => c_X_readItem L V (dp := 6 - (e + 1)) (by omega) (top := false) (by rw [eq_comm, decide_eq_false_iff_not]; omega) (E := XE t.1 t.2.2 e) (XE_g _ _ e) (fun z h s L => by
      rw [e6]
      exact I h s L))
    have ed : d + 2 * (e + 1) + 6 = d + 2 * e + 2 + 6 := by omega
    rw [ed]
    exact K
def tr0 (h : pmH) (R : Nat) (ks : List Int32) : Prop := h[R]? = some (.inr (10, [.ref (R + 1), .ref (R + 8)])) ∧ (∃ t tb ix ft, tk_ h (R + 1) t tb ix ft) ∧ rw_ h (R + 8) 500 ks
def trS (bs : List Int32) : XZ := XE (cuF bs 5).1 (cuF bs 5).2.2 6 ((0, -1), [])
def trV (bs : List Int32) : Int32 := fbF (cuF bs 5).2.1 (nI bs.length) (neF (cuF bs 5).1 (-1) (trS bs).1).2
theorem c_X_read {ks bs : List Int32} {P : Nat} (L : tr0 h R ks) (T : rw_ h P 400 bs) (nd : P + 1 < R ∨ R + 9 < P) (V : NV (cuF bs 5).1 (cuF bs 5).2.2) (d : Nat) : PM (d + 19) 113 [.ref R, .ref P] h (fun v h' => v = some (.int (trV bs)) ∧ tr0 h' R (trS bs).2 ∧ frX h h' R) := by
  obtain ⟨ro, ⟨t0, tb0, ix0, ft0, T0⟩, so⟩ := L
  refine en_X10_read rfl rfl ?_
  have to := T0.1
  simp only [w_X10_read_0, w_X10_read_1, w_X10_read_4, w_X10_read_5, w_X10_read_6, pm_1i_c, pm_2i_c, pm_1l_c, pm_2l_c, pm_1a_c, pm_ia_c, pm_iia_c, pm_va_c, pm_cp_c, pm_k0_c, pm_k1_c, pm_k2_c, pm_k3_c, pm_s1_c, pm_s2_c, pm_s3_c, pm_s4_c, pm_ri_c, pm_ra_c, pm_rn_c, pm_rk_i, pm_rk_z, pm_rk_a, pm_vk_i, pm_vk_z, pm_vk_a, pm_cti, pm_ctr, pm_ldi_z, pm_ldi_s, pm_lda_z, pm_lda_s, pm_cat_n, pm_cat_i, pm_cat_r, pm_cat_l, pm_obj, pm_arr, pm_opt, pm_ird, pm_aln, List.getElem?_cons_zero, List.getElem?_cons_succ, List.set_cons_zero, List.set_cons_succ, List.length_cons, List.length_nil, List.length_set, true_and, and_true, Nat.add_zero, Nat.zero_add, Nat.le_refl, Nat.reduceAdd, Nat.reduceLT, Nat.reduceLeDiff, Nat.zero_le, not_false_eq_true, not_true_eq_false, false_implies, implies_true, true_implies, Nat.zero_lt_succ, Nat.lt_add_one, ro, to]
  refine PM_use (c_T_cutUp T0 T (by omega) 5 (d + 13)) ?_
  rintro v h1 l1 ⟨rfl, T1, f1⟩
  have ro1 := (f1 R (by omega)).trans ro
  have S1 : rw_ h1 (R + 8) 500 ks := so.kept (f1 _ (by omega)) (f1 _ (by omega))
  have so1 := S1.o
  show W_X10_read _ _ _ _ _ _ _ _ _
  simp only [w_X10_read_9, w_X10_read_10, w_X10_read_13, w_X10_read_14, pm_1i_c, pm_2i_c, pm_1l_c, pm_2l_c, pm_1a_c, pm_ia_c, pm_iia_c, pm_va_c, pm_cp_c, pm_k0_c, pm_k1_c, pm_k2_c, pm_k3_c, pm_s1_c, pm_s2_c, pm_s3_c, pm_s4_c, pm_ri_c, pm_ra_c, pm_rn_c, pm_rk_i, pm_rk_z, pm_rk_a, pm_vk_i, pm_vk_z, pm_vk_a, pm_cti, pm_ctr, pm_ldi_z, pm_ldi_s, pm_lda_z, pm_lda_s, pm_cat_n, pm_cat_i, pm_cat_r, pm_cat_l, pm_obj, pm_arr, pm_opt, pm_ird, pm_aln, List.getElem?_cons_zero, List.getElem?_cons_succ, List.set_cons_zero, List.set_cons_succ, List.length_cons, List.length_nil, List.length_set, true_and, and_true, Nat.add_zero, Nat.zero_add, Nat.le_refl, Nat.reduceAdd, Nat.reduceLT, Nat.reduceLeDiff, Nat.zero_le, not_false_eq_true, not_true_eq_false, false_implies, implies_true, true_implies, Nat.zero_lt_succ, Nat.lt_add_one, pm_tl_n, pm_tl_s, sc_uL, ro1, so1, l1]
  refine PM_use (c_Row_cut0 S1 (d + 17)) ?_
  rintro v h2 l2 ⟨rfl, S2, f2⟩
  have L2 : tr_ h2 R (cuF bs 5) (nI bs.length) ((0, -1), []) := ⟨(f2 R (by omega) (by omega)).trans ro1, T1.kept2 (fun i a b => f2 i (by omega) (by omega)), S2, Nat.zero_le _⟩
  have ro2 := L2.o
  show W_X10_read _ _ _ _ _ _ _ _ _
  simp only [w_X10_read_17, w_X10_read_18, w_X10_read_19, pm_1i_c, pm_2i_c, pm_1l_c, pm_2l_c, pm_1a_c, pm_ia_c, pm_iia_c, pm_va_c, pm_cp_c, pm_k0_c, pm_k1_c, pm_k2_c, pm_k3_c, pm_s1_c, pm_s2_c, pm_s3_c, pm_s4_c, pm_ri_c, pm_ra_c, pm_rn_c, pm_rk_i, pm_rk_z, pm_rk_a, pm_vk_i, pm_vk_z, pm_vk_a, pm_cti, pm_ctr, pm_ldi_z, pm_ldi_s, pm_lda_z, pm_lda_s, pm_cat_n, pm_cat_i, pm_cat_r, pm_cat_l, pm_obj, pm_arr, pm_opt, pm_ird, pm_aln, List.getElem?_cons_zero, List.getElem?_cons_succ, List.set_cons_zero, List.set_cons_succ, List.length_cons, List.length_nil, List.length_set, true_and, and_true, Nat.add_zero, Nat.zero_add, Nat.le_refl, Nat.reduceAdd, Nat.reduceLT, Nat.reduceLeDiff, Nat.zero_le, not_false_eq_true, not_true_eq_false, false_implies, implies_true, true_implies, Nat.zero_lt_succ, Nat.lt_add_one, pm_tl_n, pm_tl_s, sc_uL, ro2, l2, l1]
  have I := c_X_XE V d 6 (by omega) h2 _ L2
  refine PM_use (I) ?_
  rintro v h4 l4 ⟨rfl, L4, f4⟩
  have ro4 := L4.o
  have to4 := L4.to
  show W_X10_read _ _ _ _ _ _ _ _ _
  simp only [w_X10_read_22, w_X10_read_23, w_X10_read_26, w_X10_read_27, pm_1i_c, pm_2i_c, pm_1l_c, pm_2l_c, pm_1a_c, pm_ia_c, pm_iia_c, pm_va_c, pm_cp_c, pm_k0_c, pm_k1_c, pm_k2_c, pm_k3_c, pm_s1_c, pm_s2_c, pm_s3_c, pm_s4_c, pm_ri_c, pm_ra_c, pm_rn_c, pm_rk_i, pm_rk_z, pm_rk_a, pm_vk_i, pm_vk_z, pm_vk_a, pm_cti, pm_ctr, pm_ldi_z, pm_ldi_s, pm_lda_z, pm_lda_s, pm_cat_n, pm_cat_i, pm_cat_r, pm_cat_l, pm_obj, pm_arr, pm_opt, pm_ird, pm_aln, List.getElem?_cons_zero, List.getElem?_cons_succ, List.set_cons_zero, List.set_cons_succ, List.length_cons, List.length_nil, List.length_set, true_and, and_true, Nat.add_zero, Nat.zero_add, Nat.le_refl, Nat.reduceAdd, Nat.reduceLT, Nat.reduceLeDiff, Nat.zero_le, not_false_eq_true, not_true_eq_false, false_implies, implies_true, true_implies, Nat.zero_lt_succ, Nat.lt_add_one, pm_tl_n, pm_tl_s, sc_uL, ro4, to4, l4, l2, l1]
  have i4 := L4.i4
  refine PM_use (c_T_need L4.2.1 i4 (-1) (d + 16)) ?_
  rintro v h5 l5 ⟨rfl, T5, f5⟩
  have ro5 := (f5 R (by omega)).trans ro4
  have to5 := T5.1
  show W_X10_read _ _ _ _ _ _ _ _ _
  simp only [w_X10_read_30, w_X10_read_31, w_X10_read_34, pm_1i_c, pm_2i_c, pm_1l_c, pm_2l_c, pm_1a_c, pm_ia_c, pm_iia_c, pm_va_c, pm_cp_c, pm_k0_c, pm_k1_c, pm_k2_c, pm_k3_c, pm_s1_c, pm_s2_c, pm_s3_c, pm_s4_c, pm_ri_c, pm_ra_c, pm_rn_c, pm_rk_i, pm_rk_z, pm_rk_a, pm_vk_i, pm_vk_z, pm_vk_a, pm_cti, pm_ctr, pm_ldi_z, pm_ldi_s, pm_lda_z, pm_lda_s, pm_cat_n, pm_cat_i, pm_cat_r, pm_cat_l, pm_obj, pm_arr, pm_opt, pm_ird, pm_aln, List.getElem?_cons_zero, List.getElem?_cons_succ, List.set_cons_zero, List.set_cons_succ, List.length_cons, List.length_nil, List.length_set, true_and, and_true, Nat.add_zero, Nat.zero_add, Nat.le_refl, Nat.reduceAdd, Nat.reduceLT, Nat.reduceLeDiff, Nat.zero_le, not_false_eq_true, not_true_eq_false, false_implies, implies_true, true_implies, Nat.zero_lt_succ, Nat.lt_add_one, pm_tl_n, pm_tl_s, sc_uL, ro5, to5, l5, l4, l2, l1]
  refine PM_use (c_T_faultByte T5 (d + 16)) ?_
  rintro v h6 l6 ⟨rfl, rfl⟩
  show W_X10_read _ _ _ _ _ _ _ _ _
  simp only [w_X10_read_37, pm_1i_c, pm_2i_c, pm_1l_c, pm_2l_c, pm_1a_c, pm_ia_c, pm_iia_c, pm_va_c, pm_cp_c, pm_k0_c, pm_k1_c, pm_k2_c, pm_k3_c, pm_s1_c, pm_s2_c, pm_s3_c, pm_s4_c, pm_ri_c, pm_ra_c, pm_rn_c, pm_rk_i, pm_rk_z, pm_rk_a, pm_vk_i, pm_vk_z, pm_vk_a, pm_cti, pm_ctr, pm_ldi_z, pm_ldi_s, pm_lda_z, pm_lda_s, pm_cat_n, pm_cat_i, pm_cat_r, pm_cat_l, pm_obj, pm_arr, pm_opt, pm_ird, pm_aln, List.getElem?_cons_zero, List.getElem?_cons_succ, List.set_cons_zero, List.set_cons_succ, List.length_cons, List.length_nil, List.length_set, true_and, and_true, Nat.add_zero, Nat.zero_add, Nat.le_refl, Nat.reduceAdd, Nat.reduceLT, Nat.reduceLeDiff, Nat.zero_le, not_false_eq_true, not_true_eq_false, false_implies, implies_true, true_implies, Nat.zero_lt_succ, Nat.lt_add_one, pm_tl_n, pm_tl_s, sc_uL, l5, l4, l2, l1]
  exact ⟨rfl, ⟨ro5, ⟨_, _, _, _, T5⟩, L4.2.2.1.kept (f5 _ (by omega)) (f5 _ (by omega))⟩, fun i hi => by rw [f5 i (by omega), f4 i (by omega), f2 i (by omega) (by omega), f1 i (by omega)]⟩
/-! the numbers of a text cut up with five digits at most -/
theorem isD_nI {x : Int32} (c : isD x = true) : ∃ m, m ≤ 9 ∧ x = nI (48 + m) := by
  unfold isD at c
  rw [decide_eq_true_eq] at c
  have h0 : ¬ x < 0 := fun z => c.1 (Int32.lt_trans z (by decide))
  obtain ⟨n, hn, rfl⟩ := nI_of h0
  have a1 : ¬ n < 48 := fun z => c.1 (nI_lt (b := 48) z (by omega))
  have a2 : ¬ 57 < n := fun z => c.2 (nI_lt (a := 57) z (by omega))
  exact ⟨n - 48, by omega, by rw [show 48 + (n - 48) = n by omega]⟩
theorem nuG_ok {bs : List Int32} : ∀ (f k v : Nat), (∀ j, k ≤ j → j < k + f → isD (bs.getD j (-1)) = true) → ∃ m, m < (v + 1) * 10 ^ f ∧ nuG bs f k (nI v) = nI m
  | 0, k, v, _ => ⟨v, by simp, rfl⟩
  | f + 1, k, v, h => by
    obtain ⟨m, hm, e⟩ := isD_nI (h k (by omega) (by omega))
    have e2 : nI v * 10 + bs.getD k (-1) - 48 = nI (v * 10 + m) := by
      rw [e, show (10 : Int32) = nI 10 from rfl, pk_mul, nI_add, show (48 : Int32) = nI 48 from rfl, pk_sub (by omega)]
      congr 1
      omega
    obtain ⟨m2, h2, e3⟩ := nuG_ok f (k + 1) (v * 10 + m) (fun j a b => h j (by omega) (by omega))
    refine ⟨m2, Nat.lt_of_lt_of_le h2 ?_, ?_⟩
    · rw [Nat.pow_succ, Nat.mul_comm (10 ^ f), ← Nat.mul_assoc]
      exact Nat.mul_le_mul_right _ (by omega)
    · show nuG bs f (k + 1) (nI v * 10 + bs.getD k (-1) - 48) = _
      rw [e2, e3]
theorem beG_all {p : Int32 → Bool} {bs : List Int32} : ∀ (f k j : Nat), k ≤ j → j < beG p bs f k → p (bs.getD j (-1)) = true
  | 0, k, j, a, b => by
    have : beG p bs 0 k = k := rfl
    omega
  | f + 1, k, j, a, b => by
    have e : beG p bs (f + 1) k = if p (bs.getD k (-1)) = true then beG p bs f (k + 1) else k := rfl
    rw [e] at b
    by_cases c : p (bs.getD k (-1)) = true
    · rw [if_pos c] at b
      by_cases z : j = k
      · rw [z]
        exact c
      · exact beG_all f (k + 1) j (by omega) b
    · rw [if_neg c] at b
      omega
theorem NV_app {K N : List Int32} (V : NV K N) (hl : K.length = N.length) {k n : Int32} (h : k = 267 → ∃ m, m < 100000 ∧ n = nI m) : NV (K ++ [k]) (N ++ [n]) := by
  intro i e
  rw [List.getD_eq_getElem?_getD, List.getElem?_append] at e
  rw [List.getD_eq_getElem?_getD, List.getElem?_append]
  by_cases c : i < K.length
  · rw [if_pos c] at e
    rw [if_pos (by omega)]
    rw [← List.getD_eq_getElem?_getD] at e ⊢
    exact V i e
  · rw [if_neg c] at e
    rw [if_neg (by omega)]
    by_cases z : i = K.length
    · rw [z, Nat.sub_self] at e
      rw [z, hl, Nat.sub_self]
      exact h e
    · obtain ⟨u, hu⟩ : ∃ u, i - K.length = u + 1 := ⟨i - K.length - 1, by omega⟩
      rw [hu, show ([k] : List Int32)[u + 1]? = none from rfl] at e
      exact absurd e (by decide)
theorem coF_NV {bs : List Int32} {k : Nat} {t : TS} (h4 : bs.length ≤ 400) (hk : k < bs.length) (hb : ∀ j, bs.getD j (-1) ≠ 267) (hw : ∀ a b, woF bs a b ≠ 267) (V : NV t.1 t.2.2) (hl : t.1.length = t.2.2.length) : NV (coF bs 5 k t).2.1 (coF bs 5 k t).2.2.2 ∧ (coF bs 5 k t).2.1.length = (coF bs 5 k t).2.2.2.length := by
  have a : ∀ x n s, (tkA t x n s).1.length = (tkA t x n s).2.2.length := fun x n s => by
    show (t.1 ++ [x]).length = (t.2.2 ++ [n]).length
    rw [List.length_append, List.length_append, hl]
    rfl
  unfold coF
  dsimp only
  split
  · exact ⟨V, hl⟩
  · split
    · split
      · exact ⟨NV_app V hl (fun z => absurd z (by decide)), a _ _ _⟩
      · rename_i cd cm
        refine ⟨NV_app V hl (fun _ => ?_), a _ _ _⟩
        have be := beR_le (bs := bs) isD hk
        have l5 : beR isD bs k - k ≤ 5 := by
          rcases Nat.lt_or_ge 5 (beR isD bs k - k) with z | z
          · refine absurd ?_ cm
            exact (nI_ltI (a := 5) (b := beR isD bs k - k) (by omega) (by omega)).mpr z
          · exact z
        obtain ⟨m, hm, e⟩ := nuG_ok (bs := bs) (beR isD bs k - k) k 0 (fun j x y => beG_all (p := isD) (bs := bs) (bs.length - k) k j x (by show j < beR isD bs k; omega))
        refine ⟨m, Nat.lt_of_lt_of_le hm ?_, e⟩
        rw [Nat.zero_add, Nat.one_mul]
        exact Nat.pow_le_pow_right (by omega) l5
    · split
      · exact ⟨NV_app V hl (fun z => absurd z (hw _ _)), a _ _ _⟩
      · exact ⟨NV_app V hl (fun z => absurd z (hb _)), a _ _ _⟩
theorem woG_ne (bs : List Int32) (a b : Nat) : ∀ f i, f + i ≤ 11 → woG bs a b f i ≠ 267
  | 0, i, _ => show (268 : Int32) ≠ 267 by decide
  | f + 1, i, h => by
    have es : woG bs a b (f + 1) i = if iwG bs (5 * i) a b 5 0 = true then nI (256 + i) else woG bs a b f (i + 1) := rfl
    rw [es]
    split
    · intro e
      have := (nI_inj (a := 256 + i) (b := 267) (by omega) (by omega)).mp e
      omega
    · exact woG_ne bs a b f (i + 1) (by omega)
def byts (bs : List Int32) : Prop := ∀ x ∈ bs, ∃ m, m < 256 ∧ x = nI m
theorem byts_ne {bs : List Int32} (H : byts bs) (j : Nat) : bs.getD j (-1) ≠ 267 := by
  rw [List.getD_eq_getElem?_getD]
  rcases Nat.lt_or_ge j bs.length with c | c
  · rw [List.getElem?_eq_getElem c]
    obtain ⟨m, hm, e⟩ := H _ (List.getElem_mem c)
    intro z
    have z2 : bs[j] = 267 := z
    rw [e] at z2
    have := (nI_inj (a := m) (b := 267) (by omega) (by omega)).mp z2
    omega
  · rw [List.getElem?_eq_none c]
    decide
theorem cuG_NV {bs : List Int32} (h4 : bs.length ≤ 400) (H : byts bs) : ∀ (f k : Nat) (t : TS), NV t.1 t.2.2 → t.1.length = t.2.2.length → NV (cuG bs 5 f k t).1 (cuG bs 5 f k t).2.2
  | 0, k, t, V, hl => V
  | f + 1, k, t, V, hl => by
    rw [cuG_s]
    split
    · rename_i c
      obtain ⟨a, b⟩ := coF_NV h4 c (byts_ne H) (fun a b => woG_ne bs a b 11 0 (by omega)) V hl
      exact cuG_NV h4 H f _ _ a b
    · exact V
theorem cuF_NV {bs : List Int32} (h4 : bs.length ≤ 400) (H : byts bs) : NV (cuF bs 5).1 (cuF bs 5).2.2 := cuG_NV h4 H 400 0 _ (fun i e => absurd e (by
  show ¬ ([] : List Int32).getD i (-1) = 267
  rw [List.getD_eq_getElem?_getD]
  simp)) rfl
end XT
