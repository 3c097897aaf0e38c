/-! AdmissionDeskModel: heat, the doorman, settings. -/
section MQ_
variable {h h' : pmH} {m : Nat} {o : Nat → Int32} {A A' K K' B : AD} {bs ws bs' ws' : List Int32} {ik ft : Int32}
theorem c_P_heat (C : mm_ h m o A K bs ws) (W : wdV A) (n : Int32) (d : Nat) : PM (d + 5) 248 [.ref m, .int n] h (rq_ h m A K bs ws (o 0) (o 7) true (nI (kwN A n))) := by
  have H0 := C.ob
  unfold mO at H0
  obtain ⟨h1, e1, l1, F1, C1, H1⟩ := C.th 0
  refine en_X12_heat rfl rfl ?_
  have inner : ∀ p, 1 ≤ p → p ≤ 3 → ∀ (bse : Nat), bse ≤ 1000 → (∀ x4, W_X12_heat (d + 4) (h.length + 0) 0 (rq_ h m A K bs ws (o 0) (o 7) true (nI (kwN A n))) 9 [some (.ref m), some (.int n), some (.int (nI (bse + (li A p).countP (kwP A n)))), some (.int (nI (p + 1))), x4] [] h1 0) → ∀ z i, (li A p).length - i = z → i ≤ (li A p).length → W_X12_heat (d + 4) (h.length + 0) 0 (rq_ h m A K bs ws (o 0) (o 7) true (nI (kwN A n))) 17 [some (.ref m), some (.int n), some (.int (nI (bse + ((li A p).take i).countP (kwP A n)))), some (.int (nI p)), some (.int (nI i))] [] h1 0 := by
    intro p p1 p3 bse hb kont z
    obtain ⟨f, Hf, Rf⟩ := C1.n
    have lp := (Rf.p p1 p3).1
    induction z with
    | zero =>
      intro i hz hi
      have : i = (li A p).length := by omega
      subst this
      have e2 : ¬ nI (li A p).length < nI (li A p).length := nI_nlt (Nat.le_refl _) (by omega)
      rw [w_X12_heat_17]
      simp only [w_X12_heat_19, w_X12_heat_20, w_X12_heat_21, pm_1i_c, pm_2i_c, pm_1l_c, pm_2l_c, pm_1a_c, pm_ia_c, pm_iia_c, pm_va_c, pm_cp_c, pm_k0_c, pm_k1_c, pm_k2_c, pm_k3_c, pm_s1_c, pm_s2_c, pm_s3_c, pm_s4_c, pm_ri_c, pm_ra_c, pm_rn_c, pm_rk_i, pm_rk_z, pm_rk_a, pm_vk_i, pm_vk_z, pm_vk_a, pm_cti, pm_ctr, pm_ldi_z, pm_ldi_s, pm_lda_z, pm_lda_s, pm_cat_n, pm_cat_i, pm_cat_r, pm_cat_l, pm_obj, pm_arr, pm_opt, pm_ird, pm_aln, List.getElem?_cons_zero, List.getElem?_cons_succ, List.set_cons_zero, List.set_cons_succ, List.length_cons, List.length_nil, List.length_set, true_and, and_true, Nat.add_zero, Nat.zero_add, Nat.le_refl, Nat.reduceAdd, Nat.reduceLT, Nat.reduceLeDiff, Nat.zero_le, not_false_eq_true, not_true_eq_false, false_implies, implies_true, true_implies, Nat.zero_lt_succ, Nat.lt_add_one, H1, l1]
      refine PM_use (c_M_many C1.md p1 p3 (d + 2)) ?_
      rintro v g1 k1 ⟨rfl, rfl⟩
      show W_X12_heat _ _ _ _ _ _ _ _ _
      simp only [w_X12_heat_24, w_X12_heat_56, w_X12_heat_59, pm_1i_c, pm_2i_c, pm_1l_c, pm_2l_c, pm_1a_c, pm_ia_c, pm_iia_c, pm_va_c, pm_cp_c, pm_k0_c, pm_k1_c, pm_k2_c, pm_k3_c, pm_s1_c, pm_s2_c, pm_s3_c, pm_s4_c, pm_ri_c, pm_ra_c, pm_rn_c, pm_rk_i, pm_rk_z, pm_rk_a, pm_vk_i, pm_vk_z, pm_vk_a, pm_cti, pm_ctr, pm_ldi_z, pm_ldi_s, pm_lda_z, pm_lda_s, pm_cat_n, pm_cat_i, pm_cat_r, pm_cat_l, pm_obj, pm_arr, pm_opt, pm_ird, pm_aln, List.getElem?_cons_zero, List.getElem?_cons_succ, List.set_cons_zero, List.set_cons_succ, List.length_cons, List.length_nil, List.length_set, true_and, and_true, Nat.add_zero, Nat.zero_add, Nat.le_refl, Nat.reduceAdd, Nat.reduceLT, Nat.reduceLeDiff, Nat.zero_le, not_false_eq_true, not_true_eq_false, false_implies, implies_true, true_implies, Nat.zero_lt_succ, Nat.lt_add_one, pm_tl_n, pm_tl_s, sc_uL, e2, nI_1]
      rw [List.take_length]
      exact kont _
    | succ z ih =>
      intro i hz hi
      have hi2 : i < (li A p).length := by omega
      have e2 : nI i < nI (li A p).length := nI_lt hi2 (by omega)
      have I := ih (i + 1) (by omega) (by omega)
      have ct := cp_take (xs := li A p) (p := kwP A n) hi2
      rw [w_X12_heat_17]
      simp only [w_X12_heat_19, w_X12_heat_20, w_X12_heat_21, pm_1i_c, pm_2i_c, pm_1l_c, pm_2l_c, pm_1a_c, pm_ia_c, pm_iia_c, pm_va_c, pm_cp_c, pm_k0_c, pm_k1_c, pm_k2_c, pm_k3_c, pm_s1_c, pm_s2_c, pm_s3_c, pm_s4_c, pm_ri_c, pm_ra_c, pm_rn_c, pm_rk_i, pm_rk_z, pm_rk_a, pm_vk_i, pm_vk_z, pm_vk_a, pm_cti, pm_ctr, pm_ldi_z, pm_ldi_s, pm_lda_z, pm_lda_s, pm_cat_n, pm_cat_i, pm_cat_r, pm_cat_l, pm_obj, pm_arr, pm_opt, pm_ird, pm_aln, List.getElem?_cons_zero, List.getElem?_cons_succ, List.set_cons_zero, List.set_cons_succ, List.length_cons, List.length_nil, List.length_set, true_and, and_true, Nat.add_zero, Nat.zero_add, Nat.le_refl, Nat.reduceAdd, Nat.reduceLT, Nat.reduceLeDiff, Nat.zero_le, not_false_eq_true, not_true_eq_false, false_implies, implies_true, true_implies, Nat.zero_lt_succ, Nat.lt_add_one, H1, l1]
      refine PM_use (c_M_many C1.md p1 p3 (d + 2)) ?_
      rintro v g1 k1 ⟨rfl, rfl⟩
      show W_X12_heat _ _ _ _ _ _ _ _ _
      simp only [w_X12_heat_24, w_X12_heat_27, w_X12_heat_28, w_X12_heat_29, w_X12_heat_30, w_X12_heat_31, w_X12_heat_33, pm_1i_c, pm_2i_c, pm_1l_c, pm_2l_c, pm_1a_c, pm_ia_c, pm_iia_c, pm_va_c, pm_cp_c, pm_k0_c, pm_k1_c, pm_k2_c, pm_k3_c, pm_s1_c, pm_s2_c, pm_s3_c, pm_s4_c, pm_ri_c, pm_ra_c, pm_rn_c, pm_rk_i, pm_rk_z, pm_rk_a, pm_vk_i, pm_vk_z, pm_vk_a, pm_cti, pm_ctr, pm_ldi_z, pm_ldi_s, pm_lda_z, pm_lda_s, pm_cat_n, pm_cat_i, pm_cat_r, pm_cat_l, pm_obj, pm_arr, pm_opt, pm_ird, pm_aln, List.getElem?_cons_zero, List.getElem?_cons_succ, List.set_cons_zero, List.set_cons_succ, List.length_cons, List.length_nil, List.length_set, true_and, and_true, Nat.add_zero, Nat.zero_add, Nat.le_refl, Nat.reduceAdd, Nat.reduceLT, Nat.reduceLeDiff, Nat.zero_le, not_false_eq_true, not_true_eq_false, false_implies, implies_true, true_implies, Nat.zero_lt_succ, Nat.lt_add_one, pm_tl_n, pm_tl_s, sc_uL, e2, H1, l1]
      refine PM_use (c_M_keyAt C1.md p1 p3 hi2 (d + 2)) ?_
      rintro v g1 k1 ⟨rfl, rfl⟩
      show W_X12_heat _ _ _ _ _ _ _ _ _
      simp only [w_X12_heat_36, pm_1i_c, pm_2i_c, pm_1l_c, pm_2l_c, pm_1a_c, pm_ia_c, pm_iia_c, pm_va_c, pm_cp_c, pm_k0_c, pm_k1_c, pm_k2_c, pm_k3_c, pm_s1_c, pm_s2_c, pm_s3_c, pm_s4_c, pm_ri_c, pm_ra_c, pm_rn_c, pm_rk_i, pm_rk_z, pm_rk_a, pm_vk_i, pm_vk_z, pm_vk_a, pm_cti, pm_ctr, pm_ldi_z, pm_ldi_s, pm_lda_z, pm_lda_s, pm_cat_n, pm_cat_i, pm_cat_r, pm_cat_l, pm_obj, pm_arr, pm_opt, pm_ird, pm_aln, List.getElem?_cons_zero, List.getElem?_cons_succ, List.set_cons_zero, List.set_cons_succ, List.length_cons, List.length_nil, List.length_set, true_and, and_true, Nat.add_zero, Nat.zero_add, Nat.le_refl, Nat.reduceAdd, Nat.reduceLT, Nat.reduceLeDiff, Nat.zero_le, not_false_eq_true, not_true_eq_false, false_implies, implies_true, true_implies, Nat.zero_lt_succ, Nat.lt_add_one, pm_tl_n, pm_tl_s, sc_uL, H1, l1]
      refine PM_use (c_M_estimateOf C1.md W _ d) ?_
      rintro v g1 k1 ⟨rfl, rfl⟩
      by_cases c : estF A ((li A p).getD i (-1)) < n
      · have kc : ¬ kwP A n ((li A p).getD i (-1)) = true := by
          unfold kwP
          rw [decide_eq_true_eq]
          exact fun q => q c
        rw [if_neg kc, Nat.add_zero] at ct
        rw [ct] at I
        show W_X12_heat _ _ _ _ _ _ _ _ _
        simp only [w_X12_heat_39, w_X12_heat_40, w_X12_heat_43, w_X12_heat_44, w_X12_heat_47, w_X12_heat_48, w_X12_heat_49, w_X12_heat_50, w_X12_heat_53, pm_1i_c, pm_2i_c, pm_1l_c, pm_2l_c, pm_1a_c, pm_ia_c, pm_iia_c, pm_va_c, pm_cp_c, pm_k0_c, pm_k1_c, pm_k2_c, pm_k3_c, pm_s1_c, pm_s2_c, pm_s3_c, pm_s4_c, pm_ri_c, pm_ra_c, pm_rn_c, pm_rk_i, pm_rk_z, pm_rk_a, pm_vk_i, pm_vk_z, pm_vk_a, pm_cti, pm_ctr, pm_ldi_z, pm_ldi_s, pm_lda_z, pm_lda_s, pm_cat_n, pm_cat_i, pm_cat_r, pm_cat_l, pm_obj, pm_arr, pm_opt, pm_ird, pm_aln, List.getElem?_cons_zero, List.getElem?_cons_succ, List.set_cons_zero, List.set_cons_succ, List.length_cons, List.length_nil, List.length_set, true_and, and_true, Nat.add_zero, Nat.zero_add, Nat.le_refl, Nat.reduceAdd, Nat.reduceLT, Nat.reduceLeDiff, Nat.zero_le, not_false_eq_true, not_true_eq_false, false_implies, implies_true, true_implies, Nat.zero_lt_succ, Nat.lt_add_one, pm_tl_n, pm_tl_s, sc_uL, c, nI_1, Int32.add_zero]
        exact I
      · have kc : kwP A n ((li A p).getD i (-1)) = true := decide_eq_true c
        rw [if_pos kc] at ct
        rw [ct, ← Nat.add_assoc] at I
        show W_X12_heat _ _ _ _ _ _ _ _ _
        simp only [w_X12_heat_39, w_X12_heat_40, w_X12_heat_43, w_X12_heat_44, w_X12_heat_47, w_X12_heat_48, w_X12_heat_49, w_X12_heat_50, w_X12_heat_53, pm_1i_c, pm_2i_c, pm_1l_c, pm_2l_c, pm_1a_c, pm_ia_c, pm_iia_c, pm_va_c, pm_cp_c, pm_k0_c, pm_k1_c, pm_k2_c, pm_k3_c, pm_s1_c, pm_s2_c, pm_s3_c, pm_s4_c, pm_ri_c, pm_ra_c, pm_rn_c, pm_rk_i, pm_rk_z, pm_rk_a, pm_vk_i, pm_vk_z, pm_vk_a, pm_cti, pm_ctr, pm_ldi_z, pm_ldi_s, pm_lda_z, pm_lda_s, pm_cat_n, pm_cat_i, pm_cat_r, pm_cat_l, pm_obj, pm_arr, pm_opt, pm_ird, pm_aln, List.getElem?_cons_zero, List.getElem?_cons_succ, List.set_cons_zero, List.set_cons_succ, List.length_cons, List.length_nil, List.length_set, true_and, and_true, Nat.add_zero, Nat.zero_add, Nat.le_refl, Nat.reduceAdd, Nat.reduceLT, Nat.reduceLeDiff, Nat.zero_le, not_false_eq_true, not_true_eq_false, false_implies, implies_true, true_implies, Nat.zero_lt_succ, Nat.lt_add_one, pm_tl_n, pm_tl_s, sc_uL, c, nI_1]
        exact I
  obtain ⟨f, Hf, Rf⟩ := C1.n
  have q1 := (Rf.p (p := 1) (by omega) (by omega)).1
  have q2 := (Rf.p (p := 2) (by omega) (by omega)).1
  have q3 := (Rf.p (p := 3) (by omega) (by omega)).1
  have c1 : (li A 1).countP (kwP A n) ≤ (li A 1).length := List.countP_le_length
  have c2 : (li A 2).countP (kwP A n) ≤ (li A 2).length := List.countP_le_length
  simp only [w_X12_heat_0, w_X12_heat_1, w_X12_heat_2, w_X12_heat_5, w_X12_heat_6, w_X12_heat_7, w_X12_heat_8, pm_1i_c, pm_2i_c, pm_1l_c, pm_2l_c, pm_1a_c, pm_ia_c, pm_iia_c, pm_va_c, pm_cp_c, pm_k0_c, pm_k1_c, pm_k2_c, pm_k3_c, pm_s1_c, pm_s2_c, pm_s3_c, pm_s4_c, pm_ri_c, pm_ra_c, pm_rn_c, pm_rk_i, pm_rk_z, pm_rk_a, pm_vk_i, pm_vk_z, pm_vk_a, pm_cti, pm_ctr, pm_ldi_z, pm_ldi_s, pm_lda_z, pm_lda_s, pm_cat_n, pm_cat_i, pm_cat_r, pm_cat_l, pm_obj, pm_arr, pm_opt, pm_ird, pm_aln, List.getElem?_cons_zero, List.getElem?_cons_succ, List.set_cons_zero, List.set_cons_succ, List.length_cons, List.length_nil, List.length_set, true_and, and_true, Nat.add_zero, Nat.zero_add, Nat.le_refl, Nat.reduceAdd, Nat.reduceLT, Nat.reduceLeDiff, Nat.zero_le, not_false_eq_true, not_true_eq_false, false_implies, implies_true, true_implies, Nat.zero_lt_succ, Nat.lt_add_one, H0, e1, l1]
  rw [w_X12_heat_9]
  simp only [w_X12_heat_10, w_X12_heat_11, w_X12_heat_14, w_X12_heat_15, pm_1i_c, pm_2i_c, pm_1l_c, pm_2l_c, pm_1a_c, pm_ia_c, pm_iia_c, pm_va_c, pm_cp_c, pm_k0_c, pm_k1_c, pm_k2_c, pm_k3_c, pm_s1_c, pm_s2_c, pm_s3_c, pm_s4_c, pm_ri_c, pm_ra_c, pm_rn_c, pm_rk_i, pm_rk_z, pm_rk_a, pm_vk_i, pm_vk_z, pm_vk_a, pm_cti, pm_ctr, pm_ldi_z, pm_ldi_s, pm_lda_z, pm_lda_s, pm_cat_n, pm_cat_i, pm_cat_r, pm_cat_l, pm_obj, pm_arr, pm_opt, pm_ird, pm_aln, List.getElem?_cons_zero, List.getElem?_cons_succ, List.set_cons_zero, List.set_cons_succ, List.length_cons, List.length_nil, List.length_set, true_and, and_true, Nat.add_zero, Nat.zero_add, Nat.le_refl, Nat.reduceAdd, Nat.reduceLT, Nat.reduceLeDiff, Nat.zero_le, not_false_eq_true, not_true_eq_false, false_implies, implies_true, true_implies, Nat.zero_lt_succ, Nat.lt_add_one, show ¬ (3 : Int32) < 1 by decide]
  refine inner 1 (by omega) (by omega) 0 (by omega) (fun x4 => ?_) _ 0 rfl (Nat.zero_le _)
  rw [w_X12_heat_9]
  simp only [w_X12_heat_10, w_X12_heat_11, w_X12_heat_14, w_X12_heat_15, pm_1i_c, pm_2i_c, pm_1l_c, pm_2l_c, pm_1a_c, pm_ia_c, pm_iia_c, pm_va_c, pm_cp_c, pm_k0_c, pm_k1_c, pm_k2_c, pm_k3_c, pm_s1_c, pm_s2_c, pm_s3_c, pm_s4_c, pm_ri_c, pm_ra_c, pm_rn_c, pm_rk_i, pm_rk_z, pm_rk_a, pm_vk_i, pm_vk_z, pm_vk_a, pm_cti, pm_ctr, pm_ldi_z, pm_ldi_s, pm_lda_z, pm_lda_s, pm_cat_n, pm_cat_i, pm_cat_r, pm_cat_l, pm_obj, pm_arr, pm_opt, pm_ird, pm_aln, List.getElem?_cons_zero, List.getElem?_cons_succ, List.set_cons_zero, List.set_cons_succ, List.length_cons, List.length_nil, List.length_set, true_and, and_true, Nat.add_zero, Nat.zero_add, Nat.le_refl, Nat.reduceAdd, Nat.reduceLT, Nat.reduceLeDiff, Nat.zero_le, not_false_eq_true, not_true_eq_false, false_implies, implies_true, true_implies, Nat.zero_lt_succ, Nat.lt_add_one, show ¬ (3 : Int32) < nI (1 + 1) by decide]
  refine inner 2 (by omega) (by omega) ((li A 1).countP (kwP A n)) (by omega) (fun x4 => ?_) _ 0 rfl (Nat.zero_le _)
  rw [w_X12_heat_9]
  simp only [w_X12_heat_10, w_X12_heat_11, w_X12_heat_14, w_X12_heat_15, pm_1i_c, pm_2i_c, pm_1l_c, pm_2l_c, pm_1a_c, pm_ia_c, pm_iia_c, pm_va_c, pm_cp_c, pm_k0_c, pm_k1_c, pm_k2_c, pm_k3_c, pm_s1_c, pm_s2_c, pm_s3_c, pm_s4_c, pm_ri_c, pm_ra_c, pm_rn_c, pm_rk_i, pm_rk_z, pm_rk_a, pm_vk_i, pm_vk_z, pm_vk_a, pm_cti, pm_ctr, pm_ldi_z, pm_ldi_s, pm_lda_z, pm_lda_s, pm_cat_n, pm_cat_i, pm_cat_r, pm_cat_l, pm_obj, pm_arr, pm_opt, pm_ird, pm_aln, List.getElem?_cons_zero, List.getElem?_cons_succ, List.set_cons_zero, List.set_cons_succ, List.length_cons, List.length_nil, List.length_set, true_and, and_true, Nat.add_zero, Nat.zero_add, Nat.le_refl, Nat.reduceAdd, Nat.reduceLT, Nat.reduceLeDiff, Nat.zero_le, not_false_eq_true, not_true_eq_false, false_implies, implies_true, true_implies, Nat.zero_lt_succ, Nat.lt_add_one, show ¬ (3 : Int32) < nI (2 + 1) by decide]
  refine inner 3 (by omega) (by omega) ((li A 1).countP (kwP A n) + (li A 2).countP (kwP A n)) (by omega) (fun x4 => ?_) _ 0 rfl (Nat.zero_le _)
  rw [w_X12_heat_9]
  simp only [w_X12_heat_10, w_X12_heat_11, w_X12_heat_62, w_X12_heat_63, pm_1i_c, pm_2i_c, pm_1l_c, pm_2l_c, pm_1a_c, pm_ia_c, pm_iia_c, pm_va_c, pm_cp_c, pm_k0_c, pm_k1_c, pm_k2_c, pm_k3_c, pm_s1_c, pm_s2_c, pm_s3_c, pm_s4_c, pm_ri_c, pm_ra_c, pm_rn_c, pm_rk_i, pm_rk_z, pm_rk_a, pm_vk_i, pm_vk_z, pm_vk_a, pm_cti, pm_ctr, pm_ldi_z, pm_ldi_s, pm_lda_z, pm_lda_s, pm_cat_n, pm_cat_i, pm_cat_r, pm_cat_l, pm_obj, pm_arr, pm_opt, pm_ird, pm_aln, List.getElem?_cons_zero, List.getElem?_cons_succ, List.set_cons_zero, List.set_cons_succ, List.length_cons, List.length_nil, List.length_set, true_and, and_true, Nat.add_zero, Nat.zero_add, Nat.le_refl, Nat.reduceAdd, Nat.reduceLT, Nat.reduceLeDiff, Nat.zero_le, not_false_eq_true, not_true_eq_false, false_implies, implies_true, true_implies, Nat.zero_lt_succ, Nat.lt_add_one, show (3 : Int32) < nI (3 + 1) by decide, l1]
  have e : (li A 1).countP (kwP A n) + (li A 2).countP (kwP A n) + (li A 3).countP (kwP A n) = kwN A n := rfl
  rw [e]
  exact rq_T (C1.q F1)
theorem c_P_doorman (C : mm_ h m o A K bs ws) (V : skV A) {b : Int32} (hb : b = 0 ∨ b = 1) (d : Nat) : PM (d + 1) 227 [.ref m, .int b] h (fun v h' => if sc A 14 = b then rq_ h m A K bs ws (o 0) (o 7) true 0 v h' else rq_ h m (doF A b) K bs ws (o 0) (o 7) true 1 v h') := by
  have H0 := C.ob
  unfold mO at H0
  obtain ⟨h1, e1, l1, F1, C1, H1⟩ := C.th 0
  obtain ⟨f, Hf, Rf⟩ := C1.n
  have s14 : f 1684 = sc A 14 := Rf.s (i := 14) (by omega)
  refine en_X12_doorman rfl rfl ?_
  -- the notes
  have loop : ∀ z k, 256 - k = z → k ≤ 256 → ∀ (hh : pmH) (g : Nat → Int32), hh[m + 1]? = some (.inl (0, 2195, .inl g)) → (∀ j, (j < 1024 ∨ 1280 ≤ j) → g j = if j = 1684 then b else f j) → (∀ j, j < k → g (1024 + j) = 0) → hh.length = h.length → fr1 h1 hh (m + 1) → W_X12_doorman d (h.length + 0) 0 (rq_ h m (doF A b) K bs ws (o 0) (o 7) true 1) 47 [some (.ref m), some (.int b), some (.int (nI k))] [] hh 0 := by
    intro z
    induction z with
    | zero =>
      intro k hz hk hh g q1 q2 q3 q4 q5
      have : k = 256 := by omega
      subst this
      have e2 : ¬ nI 256 < 256 := by decide
      have hm : hh[m]? = h1[m]? := q5 m (by omega)
      have RR : rep g (doF A b) := by
        refine Rf.gX (fun k a c => by rw [q2 k (Or.inr a)]; exact if_neg (by omega)) (fun k hk => by rw [q2 k (Or.inl hk), if_neg (by omega)]; exact Rf.c hk) (fun k hk => q3 k hk) (fun j hj => ?_) rfl rfl (Or.inl rfl)
        unfold doF
        rw [sc_uN, sc_uS, q2 _ (by omega)]
        by_cases c : j = 14
        · rw [if_pos c, if_pos (by omega)]
        · rw [if_neg c, if_neg (by omega)]
          exact Rf.s hj
      obtain ⟨C2, F2⟩ := C1.ud (A' := doF A b) ⟨hm.trans H1, g, q1, RR⟩ q5
      rw [w_X12_doorman_47]
      simp only [w_X12_doorman_48, w_X12_doorman_51, w_X12_doorman_71, w_X12_doorman_72, pm_1i_c, pm_2i_c, pm_1l_c, pm_2l_c, pm_1a_c, pm_ia_c, pm_iia_c, pm_va_c, pm_cp_c, pm_k0_c, pm_k1_c, pm_k2_c, pm_k3_c, pm_s1_c, pm_s2_c, pm_s3_c, pm_s4_c, pm_ri_c, pm_ra_c, pm_rn_c, pm_rk_i, pm_rk_z, pm_rk_a, pm_vk_i, pm_vk_z, pm_vk_a, pm_cti, pm_ctr, pm_ldi_z, pm_ldi_s, pm_lda_z, pm_lda_s, pm_cat_n, pm_cat_i, pm_cat_r, pm_cat_l, pm_obj, pm_arr, pm_opt, pm_ird, pm_aln, List.getElem?_cons_zero, List.getElem?_cons_succ, List.set_cons_zero, List.set_cons_succ, List.length_cons, List.length_nil, List.length_set, true_and, and_true, Nat.add_zero, Nat.zero_add, Nat.le_refl, Nat.reduceAdd, Nat.reduceLT, Nat.reduceLeDiff, Nat.zero_le, not_false_eq_true, not_true_eq_false, false_implies, implies_true, true_implies, Nat.zero_lt_succ, Nat.lt_add_one, e2, q4]
      exact ⟨Or.inr trivial, rq_T (C2.q (F1.tr F2))⟩
    | succ z ih =>
      intro k hz hk hh g q1 q2 q3 q4 q5
      have e2 : nI k < 256 := nI_lt (b := 256) (by omega) (by omega)
      have hm : hh[m]? = h1[m]? := q5 m (by omega)
      have vi : vp_in (nI (1024 + k)) 2195 := vp_in_nI (by omega) (by omega)
      have ci : (nI (1024 + k)).toNatClampNeg = 1024 + k := nI_clamp (by omega)
      rw [w_X12_doorman_47]
      simp only [w_X12_doorman_48, w_X12_doorman_51, w_X12_doorman_54, w_X12_doorman_55, w_X12_doorman_58, w_X12_doorman_61, w_X12_doorman_62, w_X12_doorman_63, w_X12_doorman_64, w_X12_doorman_65, w_X12_doorman_68, pm_1i_c, pm_2i_c, pm_1l_c, pm_2l_c, pm_1a_c, pm_ia_c, pm_iia_c, pm_va_c, pm_cp_c, pm_k0_c, pm_k1_c, pm_k2_c, pm_k3_c, pm_s1_c, pm_s2_c, pm_s3_c, pm_s4_c, pm_ri_c, pm_ra_c, pm_rn_c, pm_rk_i, pm_rk_z, pm_rk_a, pm_vk_i, pm_vk_z, pm_vk_a, pm_cti, pm_ctr, pm_ldi_z, pm_ldi_s, pm_lda_z, pm_lda_s, pm_cat_n, pm_cat_i, pm_cat_r, pm_cat_l, pm_obj, pm_arr, pm_opt, pm_ird, pm_aln, List.getElem?_cons_zero, List.getElem?_cons_succ, List.set_cons_zero, List.set_cons_succ, List.length_cons, List.length_nil, List.length_set, true_and, and_true, Nat.add_zero, Nat.zero_add, Nat.le_refl, Nat.reduceAdd, Nat.reduceLT, Nat.reduceLeDiff, Nat.zero_le, not_false_eq_true, not_true_eq_false, false_implies, implies_true, true_implies, Nat.zero_lt_succ, Nat.lt_add_one, e2, hm, H1, q1, nI1024, vi, ci, nI_1]
      refine ih (k + 1) (by omega) (by omega) _ _ (by rw [hset_s, q1]; rfl) (fun j hj => by rw [upd_n (by omega)]; exact q2 j hj) (fun j hj => ?_) (by rw [List.length_set]; exact q4) (q5.tr (fun i hi => hset_n (Ne.symm hi)))
      by_cases c : j = k
      · rw [c, upd_e]
      · rw [upd_n (by omega)]
        exact q3 j (by omega)
  have start := loop 256 0 rfl (by omega) (h1.set (m + 1) (.inl (0, 2195, .inl (upd f 1684 b)))) _ (by rw [hset_s, Hf]; rfl) (fun j hj => rfl) (fun j hj => by omega) (by rw [List.length_set]; exact l1) (fun i hi => hset_n (Ne.symm hi))
  rcases V.2.1 with z | z
  · rcases hb with rfl | rfl
    · simp only [w_X12_doorman_0, w_X12_doorman_1, w_X12_doorman_2, w_X12_doorman_5, w_X12_doorman_6, w_X12_doorman_9, w_X12_doorman_12, w_X12_doorman_13, w_X12_doorman_14, w_X12_doorman_17, w_X12_doorman_18, w_X12_doorman_21, w_X12_doorman_22, w_X12_doorman_23, w_X12_doorman_26, w_X12_doorman_27, pm_1i_c, pm_2i_c, pm_1l_c, pm_2l_c, pm_1a_c, pm_ia_c, pm_iia_c, pm_va_c, pm_cp_c, pm_k0_c, pm_k1_c, pm_k2_c, pm_k3_c, pm_s1_c, pm_s2_c, pm_s3_c, pm_s4_c, pm_ri_c, pm_ra_c, pm_rn_c, pm_rk_i, pm_rk_z, pm_rk_a, pm_vk_i, pm_vk_z, pm_vk_a, pm_cti, pm_ctr, pm_ldi_z, pm_ldi_s, pm_lda_z, pm_lda_s, pm_cat_n, pm_cat_i, pm_cat_r, pm_cat_l, pm_obj, pm_arr, pm_opt, pm_ird, pm_aln, List.getElem?_cons_zero, List.getElem?_cons_succ, List.set_cons_zero, List.set_cons_succ, List.length_cons, List.length_nil, List.length_set, true_and, and_true, Nat.add_zero, Nat.zero_add, Nat.le_refl, Nat.reduceAdd, Nat.reduceLT, Nat.reduceLeDiff, Nat.zero_le, not_false_eq_true, not_true_eq_false, false_implies, implies_true, true_implies, Nat.zero_lt_succ, Nat.lt_add_one, H0, e1, H1, l1, Hf, ix_1684, vi_1684, s14, z, show ¬ (0 : Int32) = 1 by decide, if_true]
      exact ⟨Or.inl trivial, rq_T (C1.q F1)⟩
    · simp only [w_X12_doorman_0, w_X12_doorman_1, w_X12_doorman_2, w_X12_doorman_5, w_X12_doorman_6, w_X12_doorman_9, w_X12_doorman_12, w_X12_doorman_13, w_X12_doorman_14, w_X12_doorman_17, w_X12_doorman_18, w_X12_doorman_21, w_X12_doorman_22, w_X12_doorman_23, w_X12_doorman_26, w_X12_doorman_27, w_X12_doorman_28, w_X12_doorman_29, w_X12_doorman_32, w_X12_doorman_35, w_X12_doorman_36, w_X12_doorman_39, w_X12_doorman_40, w_X12_doorman_43, w_X12_doorman_44, w_X12_doorman_45, w_X12_doorman_46, pm_1i_c, pm_2i_c, pm_1l_c, pm_2l_c, pm_1a_c, pm_ia_c, pm_iia_c, pm_va_c, pm_cp_c, pm_k0_c, pm_k1_c, pm_k2_c, pm_k3_c, pm_s1_c, pm_s2_c, pm_s3_c, pm_s4_c, pm_ri_c, pm_ra_c, pm_rn_c, pm_rk_i, pm_rk_z, pm_rk_a, pm_vk_i, pm_vk_z, pm_vk_a, pm_cti, pm_ctr, pm_ldi_z, pm_ldi_s, pm_lda_z, pm_lda_s, pm_cat_n, pm_cat_i, pm_cat_r, pm_cat_l, pm_obj, pm_arr, pm_opt, pm_ird, pm_aln, List.getElem?_cons_zero, List.getElem?_cons_succ, List.set_cons_zero, List.set_cons_succ, List.length_cons, List.length_nil, List.length_set, true_and, and_true, Nat.add_zero, Nat.zero_add, Nat.le_refl, Nat.reduceAdd, Nat.reduceLT, Nat.reduceLeDiff, Nat.zero_le, not_false_eq_true, not_true_eq_false, false_implies, implies_true, true_implies, Nat.zero_lt_succ, Nat.lt_add_one, H0, e1, H1, l1, Hf, ix_1684, vi_1684, s14, z, show ¬ (0 : Int32) = 1 by decide, one0, if_false]
      exact start
  · rcases hb with rfl | rfl
    · simp only [w_X12_doorman_0, w_X12_doorman_1, w_X12_doorman_2, w_X12_doorman_5, w_X12_doorman_6, w_X12_doorman_9, w_X12_doorman_12, w_X12_doorman_13, w_X12_doorman_14, w_X12_doorman_17, w_X12_doorman_18, w_X12_doorman_21, w_X12_doorman_22, w_X12_doorman_23, w_X12_doorman_26, w_X12_doorman_27, w_X12_doorman_28, w_X12_doorman_29, w_X12_doorman_32, w_X12_doorman_35, w_X12_doorman_36, w_X12_doorman_39, w_X12_doorman_40, w_X12_doorman_43, w_X12_doorman_44, w_X12_doorman_45, w_X12_doorman_46, pm_1i_c, pm_2i_c, pm_1l_c, pm_2l_c, pm_1a_c, pm_ia_c, pm_iia_c, pm_va_c, pm_cp_c, pm_k0_c, pm_k1_c, pm_k2_c, pm_k3_c, pm_s1_c, pm_s2_c, pm_s3_c, pm_s4_c, pm_ri_c, pm_ra_c, pm_rn_c, pm_rk_i, pm_rk_z, pm_rk_a, pm_vk_i, pm_vk_z, pm_vk_a, pm_cti, pm_ctr, pm_ldi_z, pm_ldi_s, pm_lda_z, pm_lda_s, pm_cat_n, pm_cat_i, pm_cat_r, pm_cat_l, pm_obj, pm_arr, pm_opt, pm_ird, pm_aln, List.getElem?_cons_zero, List.getElem?_cons_succ, List.set_cons_zero, List.set_cons_succ, List.length_cons, List.length_nil, List.length_set, true_and, and_true, Nat.add_zero, Nat.zero_add, Nat.le_refl, Nat.reduceAdd, Nat.reduceLT, Nat.reduceLeDiff, Nat.zero_le, not_false_eq_true, not_true_eq_false, false_implies, implies_true, true_implies, Nat.zero_lt_succ, Nat.lt_add_one, H0, e1, H1, l1, Hf, ix_1684, vi_1684, s14, z, one0, if_false]
      exact start
    · simp only [w_X12_doorman_0, w_X12_doorman_1, w_X12_doorman_2, w_X12_doorman_5, w_X12_doorman_6, w_X12_doorman_9, w_X12_doorman_12, w_X12_doorman_13, w_X12_doorman_14, w_X12_doorman_17, w_X12_doorman_18, w_X12_doorman_21, w_X12_doorman_22, w_X12_doorman_23, w_X12_doorman_26, w_X12_doorman_27, pm_1i_c, pm_2i_c, pm_1l_c, pm_2l_c, pm_1a_c, pm_ia_c, pm_iia_c, pm_va_c, pm_cp_c, pm_k0_c, pm_k1_c, pm_k2_c, pm_k3_c, pm_s1_c, pm_s2_c, pm_s3_c, pm_s4_c, pm_ri_c, pm_ra_c, pm_rn_c, pm_rk_i, pm_rk_z, pm_rk_a, pm_vk_i, pm_vk_z, pm_vk_a, pm_cti, pm_ctr, pm_ldi_z, pm_ldi_s, pm_lda_z, pm_lda_s, pm_cat_n, pm_cat_i, pm_cat_r, pm_cat_l, pm_obj, pm_arr, pm_opt, pm_ird, pm_aln, List.getElem?_cons_zero, List.getElem?_cons_succ, List.set_cons_zero, List.set_cons_succ, List.length_cons, List.length_nil, List.length_set, true_and, and_true, Nat.add_zero, Nat.zero_add, Nat.le_refl, Nat.reduceAdd, Nat.reduceLT, Nat.reduceLeDiff, Nat.zero_le, not_false_eq_true, not_true_eq_false, false_implies, implies_true, true_implies, Nat.zero_lt_succ, Nat.lt_add_one, H0, e1, H1, l1, Hf, ix_1684, vi_1684, s14, z, one0, if_true]
      exact ⟨Or.inl trivial, rq_T (C1.q F1)⟩
theorem inB_nI {v : Int32} {a b : Nat} (hb : b < 2 ^ 30) (hab : a ≤ b) (c : inB v (nI a) (nI b) = true) : ∃ r, a ≤ r ∧ r ≤ b ∧ v = nI r := by
  unfold inB at c
  obtain ⟨c1, c2⟩ := of_decide_eq_true c
  have t1 : ¬ v.toInt < a := fun z => c1 (Int32.lt_iff_toInt_lt.mpr (by rw [nI_toInt (by omega)]; exact z))
  have t2 : ¬ (b : Int) < v.toInt := fun z => c2 (Int32.lt_iff_toInt_lt.mpr (by rw [nI_toInt (by omega)]; exact z))
  have n0 : ¬ v < 0 := fun z => by
    have := Int32.lt_iff_toInt_lt.mp z
    have : (0 : Int32).toInt = 0 := rfl
    omega
  obtain ⟨j, hj, rfl⟩ := nI_of n0
  rw [nI_toInt hj] at t1 t2
  exact ⟨j, by omega, by omega, rfl⟩
theorem whB_of {w : Int32} (c : whB w = true) : ∃ j, j < 6 ∧ w = nI j := by
  obtain ⟨r, -, r2, r3⟩ := inB_nI (a := 0) (b := 5) (by omega) (by omega) (v := w) c
  exact ⟨r, by omega, r3⟩
theorem c_M_isRight {w : Int32} (hw : whB w = true) (n : Int32) (d : Nat) : PM (d + 2) 223 [.int w, .int n] h (fun v h' => v = some (.int (if stB w n = true then 1 else 0)) ∧ h' = h) := by
  obtain ⟨j, hj, rfl⟩ := whB_of hw
  refine en_X12_isRight rfl rfl ?_
  have fin : ∀ (t : Nat) (bb : Bool), (bb = stB (nI j) n) → ((if bb = true then (1 : Int32) else 0) = 0 ∨ (if bb = true then (1 : Int32) else 0) = 1) := fun t bb _ => by
    cases bb
    · exact Or.inl rfl
    · exact Or.inr rfl
  have : j = 0 ∨ j = 1 ∨ j = 2 ∨ j = 3 ∨ j = 4 ∨ j = 5 := by omega
  rcases this with rfl | rfl | rfl | rfl | rfl | rfl
  · simp only [w_X12_isRight_0, w_X12_isRight_1, w_X12_isRight_36, w_X12_isRight_37, w_X12_isRight_38, w_X12_isRight_40, pm_1i_c, pm_2i_c, pm_1l_c, pm_2l_c, pm_1a_c, pm_ia_c, pm_iia_c, pm_va_c, pm_cp_c, pm_k0_c, pm_k1_c, pm_k2_c, pm_k3_c, pm_s1_c, pm_s2_c, pm_s3_c, pm_s4_c, pm_ri_c, pm_ra_c, pm_rn_c, pm_rk_i, pm_rk_z, pm_rk_a, pm_vk_i, pm_vk_z, pm_vk_a, pm_cti, pm_ctr, pm_ldi_z, pm_ldi_s, pm_lda_z, pm_lda_s, pm_cat_n, pm_cat_i, pm_cat_r, pm_cat_l, pm_obj, pm_arr, pm_opt, pm_ird, pm_aln, List.getElem?_cons_zero, List.getElem?_cons_succ, List.set_cons_zero, List.set_cons_succ, List.length_cons, List.length_nil, List.length_set, true_and, and_true, Nat.add_zero, Nat.zero_add, Nat.le_refl, Nat.reduceAdd, Nat.reduceLT, Nat.reduceLeDiff, Nat.zero_le, not_false_eq_true, not_true_eq_false, false_implies, implies_true, true_implies, Nat.zero_lt_succ, Nat.lt_add_one, pm_sw_c, pm_sw_n, Int32.reduceAdd, show nI 0 = 0 from rfl, show ¬ (0 : Int32) = 1 by decide, show ¬ (0 : Int32) = 2 by decide, show ¬ (0 : Int32) = 3 by decide, show ¬ (0 : Int32) = 4 by decide]
    refine PM_use (c_M_in n 1 64 d) ?_
    rintro v g1 k1 ⟨rfl, rfl⟩
    have e : inB n 1 64 = stB 0 n := rfl
    rw [e]
    show W_X12_isRight _ _ _ _ _ _ _ _ _
    simp only [w_X12_isRight_43, pm_1i_c, pm_2i_c, pm_1l_c, pm_2l_c, pm_1a_c, pm_ia_c, pm_iia_c, pm_va_c, pm_cp_c, pm_k0_c, pm_k1_c, pm_k2_c, pm_k3_c, pm_s1_c, pm_s2_c, pm_s3_c, pm_s4_c, pm_ri_c, pm_ra_c, pm_rn_c, pm_rk_i, pm_rk_z, pm_rk_a, pm_vk_i, pm_vk_z, pm_vk_a, pm_cti, pm_ctr, pm_ldi_z, pm_ldi_s, pm_lda_z, pm_lda_s, pm_cat_n, pm_cat_i, pm_cat_r, pm_cat_l, pm_obj, pm_arr, pm_opt, pm_ird, pm_aln, List.getElem?_cons_zero, List.getElem?_cons_succ, List.set_cons_zero, List.set_cons_succ, List.length_cons, List.length_nil, List.length_set, true_and, and_true, Nat.add_zero, Nat.zero_add, Nat.le_refl, Nat.reduceAdd, Nat.reduceLT, Nat.reduceLeDiff, Nat.zero_le, not_false_eq_true, not_true_eq_false, false_implies, implies_true, true_implies, Nat.zero_lt_succ, Nat.lt_add_one, pm_tl_n, pm_tl_s, sc_uL]
    exact fin 0 (stB 0 n) rfl
  · simp only [w_X12_isRight_0, w_X12_isRight_1, w_X12_isRight_44, w_X12_isRight_45, w_X12_isRight_46, w_X12_isRight_48, pm_1i_c, pm_2i_c, pm_1l_c, pm_2l_c, pm_1a_c, pm_ia_c, pm_iia_c, pm_va_c, pm_cp_c, pm_k0_c, pm_k1_c, pm_k2_c, pm_k3_c, pm_s1_c, pm_s2_c, pm_s3_c, pm_s4_c, pm_ri_c, pm_ra_c, pm_rn_c, pm_rk_i, pm_rk_z, pm_rk_a, pm_vk_i, pm_vk_z, pm_vk_a, pm_cti, pm_ctr, pm_ldi_z, pm_ldi_s, pm_lda_z, pm_lda_s, pm_cat_n, pm_cat_i, pm_cat_r, pm_cat_l, pm_obj, pm_arr, pm_opt, pm_ird, pm_aln, List.getElem?_cons_zero, List.getElem?_cons_succ, List.set_cons_zero, List.set_cons_succ, List.length_cons, List.length_nil, List.length_set, true_and, and_true, Nat.add_zero, Nat.zero_add, Nat.le_refl, Nat.reduceAdd, Nat.reduceLT, Nat.reduceLeDiff, Nat.zero_le, not_false_eq_true, not_true_eq_false, false_implies, implies_true, true_implies, Nat.zero_lt_succ, Nat.lt_add_one, pm_sw_c, pm_sw_n, Int32.reduceAdd, show nI 1 = 1 from rfl, show ¬ (1 : Int32) = 0 by decide, show ¬ (1 : Int32) = 2 by decide, show ¬ (1 : Int32) = 3 by decide, show ¬ (1 : Int32) = 4 by decide]
    refine PM_use (c_M_in n 1 99 d) ?_
    rintro v g1 k1 ⟨rfl, rfl⟩
    have e : inB n 1 99 = stB 1 n := rfl
    rw [e]
    show W_X12_isRight _ _ _ _ _ _ _ _ _
    simp only [w_X12_isRight_51, pm_1i_c, pm_2i_c, pm_1l_c, pm_2l_c, pm_1a_c, pm_ia_c, pm_iia_c, pm_va_c, pm_cp_c, pm_k0_c, pm_k1_c, pm_k2_c, pm_k3_c, pm_s1_c, pm_s2_c, pm_s3_c, pm_s4_c, pm_ri_c, pm_ra_c, pm_rn_c, pm_rk_i, pm_rk_z, pm_rk_a, pm_vk_i, pm_vk_z, pm_vk_a, pm_cti, pm_ctr, pm_ldi_z, pm_ldi_s, pm_lda_z, pm_lda_s, pm_cat_n, pm_cat_i, pm_cat_r, pm_cat_l, pm_obj, pm_arr, pm_opt, pm_ird, pm_aln, List.getElem?_cons_zero, List.getElem?_cons_succ, List.set_cons_zero, List.set_cons_succ, List.length_cons, List.length_nil, List.length_set, true_and, and_true, Nat.add_zero, Nat.zero_add, Nat.le_refl, Nat.reduceAdd, Nat.reduceLT, Nat.reduceLeDiff, Nat.zero_le, not_false_eq_true, not_true_eq_false, false_implies, implies_true, true_implies, Nat.zero_lt_succ, Nat.lt_add_one, pm_tl_n, pm_tl_s, sc_uL]
    exact fin 0 (stB 1 n) rfl
  · simp only [w_X12_isRight_0, w_X12_isRight_1, w_X12_isRight_52, w_X12_isRight_53, w_X12_isRight_54, w_X12_isRight_56, pm_1i_c, pm_2i_c, pm_1l_c, pm_2l_c, pm_1a_c, pm_ia_c, pm_iia_c, pm_va_c, pm_cp_c, pm_k0_c, pm_k1_c, pm_k2_c, pm_k3_c, pm_s1_c, pm_s2_c, pm_s3_c, pm_s4_c, pm_ri_c, pm_ra_c, pm_rn_c, pm_rk_i, pm_rk_z, pm_rk_a, pm_vk_i, pm_vk_z, pm_vk_a, pm_cti, pm_ctr, pm_ldi_z, pm_ldi_s, pm_lda_z, pm_lda_s, pm_cat_n, pm_cat_i, pm_cat_r, pm_cat_l, pm_obj, pm_arr, pm_opt, pm_ird, pm_aln, List.getElem?_cons_zero, List.getElem?_cons_succ, List.set_cons_zero, List.set_cons_succ, List.length_cons, List.length_nil, List.length_set, true_and, and_true, Nat.add_zero, Nat.zero_add, Nat.le_refl, Nat.reduceAdd, Nat.reduceLT, Nat.reduceLeDiff, Nat.zero_le, not_false_eq_true, not_true_eq_false, false_implies, implies_true, true_implies, Nat.zero_lt_succ, Nat.lt_add_one, pm_sw_c, pm_sw_n, Int32.reduceAdd, show nI 2 = 2 from rfl, show ¬ (2 : Int32) = 0 by decide, show ¬ (2 : Int32) = 1 by decide, show ¬ (2 : Int32) = 3 by decide, show ¬ (2 : Int32) = 4 by decide]
    refine PM_use (c_M_in n 0 99 d) ?_
    rintro v g1 k1 ⟨rfl, rfl⟩
    have e : inB n 0 99 = stB 2 n := rfl
    rw [e]
    show W_X12_isRight _ _ _ _ _ _ _ _ _
    simp only [w_X12_isRight_59, pm_1i_c, pm_2i_c, pm_1l_c, pm_2l_c, pm_1a_c, pm_ia_c, pm_iia_c, pm_va_c, pm_cp_c, pm_k0_c, pm_k1_c, pm_k2_c, pm_k3_c, pm_s1_c, pm_s2_c, pm_s3_c, pm_s4_c, pm_ri_c, pm_ra_c, pm_rn_c, pm_rk_i, pm_rk_z, pm_rk_a, pm_vk_i, pm_vk_z, pm_vk_a, pm_cti, pm_ctr, pm_ldi_z, pm_ldi_s, pm_lda_z, pm_lda_s, pm_cat_n, pm_cat_i, pm_cat_r, pm_cat_l, pm_obj, pm_arr, pm_opt, pm_ird, pm_aln, List.getElem?_cons_zero, List.getElem?_cons_succ, List.set_cons_zero, List.set_cons_succ, List.length_cons, List.length_nil, List.length_set, true_and, and_true, Nat.add_zero, Nat.zero_add, Nat.le_refl, Nat.reduceAdd, Nat.reduceLT, Nat.reduceLeDiff, Nat.zero_le, not_false_eq_true, not_true_eq_false, false_implies, implies_true, true_implies, Nat.zero_lt_succ, Nat.lt_add_one, pm_tl_n, pm_tl_s, sc_uL]
    exact fin 0 (stB 2 n) rfl
  · simp only [w_X12_isRight_0, w_X12_isRight_1, w_X12_isRight_60, w_X12_isRight_61, w_X12_isRight_63, w_X12_isRight_66, pm_1i_c, pm_2i_c, pm_1l_c, pm_2l_c, pm_1a_c, pm_ia_c, pm_iia_c, pm_va_c, pm_cp_c, pm_k0_c, pm_k1_c, pm_k2_c, pm_k3_c, pm_s1_c, pm_s2_c, pm_s3_c, pm_s4_c, pm_ri_c, pm_ra_c, pm_rn_c, pm_rk_i, pm_rk_z, pm_rk_a, pm_vk_i, pm_vk_z, pm_vk_a, pm_cti, pm_ctr, pm_ldi_z, pm_ldi_s, pm_lda_z, pm_lda_s, pm_cat_n, pm_cat_i, pm_cat_r, pm_cat_l, pm_obj, pm_arr, pm_opt, pm_ird, pm_aln, List.getElem?_cons_zero, List.getElem?_cons_succ, List.set_cons_zero, List.set_cons_succ, List.length_cons, List.length_nil, List.length_set, true_and, and_true, Nat.add_zero, Nat.zero_add, Nat.le_refl, Nat.reduceAdd, Nat.reduceLT, Nat.reduceLeDiff, Nat.zero_le, not_false_eq_true, not_true_eq_false, false_implies, implies_true, true_implies, Nat.zero_lt_succ, Nat.lt_add_one, pm_sw_c, pm_sw_n, Int32.reduceAdd, show nI 3 = 3 from rfl, show ¬ (3 : Int32) = 0 by decide, show ¬ (3 : Int32) = 1 by decide, show ¬ (3 : Int32) = 2 by decide, show ¬ (3 : Int32) = 4 by decide]
    refine PM_use (c_M_in n 10 20000 d) ?_
    rintro v g1 k1 ⟨rfl, rfl⟩
    have e : inB n 10 20000 = stB 3 n := rfl
    rw [e]
    show W_X12_isRight _ _ _ _ _ _ _ _ _
    simp only [w_X12_isRight_69, pm_1i_c, pm_2i_c, pm_1l_c, pm_2l_c, pm_1a_c, pm_ia_c, pm_iia_c, pm_va_c, pm_cp_c, pm_k0_c, pm_k1_c, pm_k2_c, pm_k3_c, pm_s1_c, pm_s2_c, pm_s3_c, pm_s4_c, pm_ri_c, pm_ra_c, pm_rn_c, pm_rk_i, pm_rk_z, pm_rk_a, pm_vk_i, pm_vk_z, pm_vk_a, pm_cti, pm_ctr, pm_ldi_z, pm_ldi_s, pm_lda_z, pm_lda_s, pm_cat_n, pm_cat_i, pm_cat_r, pm_cat_l, pm_obj, pm_arr, pm_opt, pm_ird, pm_aln, List.getElem?_cons_zero, List.getElem?_cons_succ, List.set_cons_zero, List.set_cons_succ, List.length_cons, List.length_nil, List.length_set, true_and, and_true, Nat.add_zero, Nat.zero_add, Nat.le_refl, Nat.reduceAdd, Nat.reduceLT, Nat.reduceLeDiff, Nat.zero_le, not_false_eq_true, not_true_eq_false, false_implies, implies_true, true_implies, Nat.zero_lt_succ, Nat.lt_add_one, pm_tl_n, pm_tl_s, sc_uL]
    exact fin 0 (stB 3 n) rfl
  · have e : stB 4 n = (decide (n = 0) || inB n 10 1000) := by
      show decide (n = 0 ∨ ¬ n < 10 ∧ ¬ 1000 < n) = _
      unfold inB
      rw [Bool.decide_or]
    rw [show nI 4 = 4 from rfl, e]
    by_cases c : n = 0
    · rw [decide_eq_true c, Bool.true_or]
      simp only [w_X12_isRight_0, w_X12_isRight_1, w_X12_isRight_70, w_X12_isRight_71, w_X12_isRight_74, w_X12_isRight_75, w_X12_isRight_77, w_X12_isRight_80, w_X12_isRight_83, w_X12_isRight_86, w_X12_isRight_87, w_X12_isRight_90, w_X12_isRight_91, pm_1i_c, pm_2i_c, pm_1l_c, pm_2l_c, pm_1a_c, pm_ia_c, pm_iia_c, pm_va_c, pm_cp_c, pm_k0_c, pm_k1_c, pm_k2_c, pm_k3_c, pm_s1_c, pm_s2_c, pm_s3_c, pm_s4_c, pm_ri_c, pm_ra_c, pm_rn_c, pm_rk_i, pm_rk_z, pm_rk_a, pm_vk_i, pm_vk_z, pm_vk_a, pm_cti, pm_ctr, pm_ldi_z, pm_ldi_s, pm_lda_z, pm_lda_s, pm_cat_n, pm_cat_i, pm_cat_r, pm_cat_l, pm_obj, pm_arr, pm_opt, pm_ird, pm_aln, List.getElem?_cons_zero, List.getElem?_cons_succ, List.set_cons_zero, List.set_cons_succ, List.length_cons, List.length_nil, List.length_set, true_and, and_true, Nat.add_zero, Nat.zero_add, Nat.le_refl, Nat.reduceAdd, Nat.reduceLT, Nat.reduceLeDiff, Nat.zero_le, not_false_eq_true, not_true_eq_false, false_implies, implies_true, true_implies, Nat.zero_lt_succ, Nat.lt_add_one, pm_sw_c, pm_sw_n, Int32.reduceAdd, show ¬ (4 : Int32) = 0 by decide, show ¬ (4 : Int32) = 1 by decide, show ¬ (4 : Int32) = 2 by decide, show ¬ (4 : Int32) = 3 by decide, c, if_true]
      exact Or.inr trivial
    · rw [decide_eq_false c, Bool.false_or]
      simp only [w_X12_isRight_0, w_X12_isRight_1, w_X12_isRight_70, w_X12_isRight_71, w_X12_isRight_74, w_X12_isRight_75, w_X12_isRight_77, w_X12_isRight_80, pm_1i_c, pm_2i_c, pm_1l_c, pm_2l_c, pm_1a_c, pm_ia_c, pm_iia_c, pm_va_c, pm_cp_c, pm_k0_c, pm_k1_c, pm_k2_c, pm_k3_c, pm_s1_c, pm_s2_c, pm_s3_c, pm_s4_c, pm_ri_c, pm_ra_c, pm_rn_c, pm_rk_i, pm_rk_z, pm_rk_a, pm_vk_i, pm_vk_z, pm_vk_a, pm_cti, pm_ctr, pm_ldi_z, pm_ldi_s, pm_lda_z, pm_lda_s, pm_cat_n, pm_cat_i, pm_cat_r, pm_cat_l, pm_obj, pm_arr, pm_opt, pm_ird, pm_aln, List.getElem?_cons_zero, List.getElem?_cons_succ, List.set_cons_zero, List.set_cons_succ, List.length_cons, List.length_nil, List.length_set, true_and, and_true, Nat.add_zero, Nat.zero_add, Nat.le_refl, Nat.reduceAdd, Nat.reduceLT, Nat.reduceLeDiff, Nat.zero_le, not_false_eq_true, not_true_eq_false, false_implies, implies_true, true_implies, Nat.zero_lt_succ, Nat.lt_add_one, pm_sw_c, pm_sw_n, Int32.reduceAdd, show ¬ (4 : Int32) = 0 by decide, show ¬ (4 : Int32) = 1 by decide, show ¬ (4 : Int32) = 2 by decide, show ¬ (4 : Int32) = 3 by decide, c]
      refine PM_use (c_M_in n 10 1000 d) ?_
      rintro v g1 k1 ⟨rfl, rfl⟩
      cases hb : inB n 10 1000 with
      | false =>
        show W_X12_isRight _ _ _ _ _ _ _ _ _
        simp only [w_X12_isRight_83, w_X12_isRight_86, w_X12_isRight_87, w_X12_isRight_90, w_X12_isRight_91, pm_1i_c, pm_2i_c, pm_1l_c, pm_2l_c, pm_1a_c, pm_ia_c, pm_iia_c, pm_va_c, pm_cp_c, pm_k0_c, pm_k1_c, pm_k2_c, pm_k3_c, pm_s1_c, pm_s2_c, pm_s3_c, pm_s4_c, pm_ri_c, pm_ra_c, pm_rn_c, pm_rk_i, pm_rk_z, pm_rk_a, pm_vk_i, pm_vk_z, pm_vk_a, pm_cti, pm_ctr, pm_ldi_z, pm_ldi_s, pm_lda_z, pm_lda_s, pm_cat_n, pm_cat_i, pm_cat_r, pm_cat_l, pm_obj, pm_arr, pm_opt, pm_ird, pm_aln, List.getElem?_cons_zero, List.getElem?_cons_succ, List.set_cons_zero, List.set_cons_succ, List.length_cons, List.length_nil, List.length_set, true_and, and_true, Nat.add_zero, Nat.zero_add, Nat.le_refl, Nat.reduceAdd, Nat.reduceLT, Nat.reduceLeDiff, Nat.zero_le, not_false_eq_true, not_true_eq_false, false_implies, implies_true, true_implies, Nat.zero_lt_succ, Nat.lt_add_one, pm_tl_n, pm_tl_s, sc_uL, Bool.false_eq_true, if_false]
        exact Or.inl trivial
      | true =>
        show W_X12_isRight _ _ _ _ _ _ _ _ _
        simp only [w_X12_isRight_83, w_X12_isRight_86, w_X12_isRight_87, w_X12_isRight_90, w_X12_isRight_91, pm_1i_c, pm_2i_c, pm_1l_c, pm_2l_c, pm_1a_c, pm_ia_c, pm_iia_c, pm_va_c, pm_cp_c, pm_k0_c, pm_k1_c, pm_k2_c, pm_k3_c, pm_s1_c, pm_s2_c, pm_s3_c, pm_s4_c, pm_ri_c, pm_ra_c, pm_rn_c, pm_rk_i, pm_rk_z, pm_rk_a, pm_vk_i, pm_vk_z, pm_vk_a, pm_cti, pm_ctr, pm_ldi_z, pm_ldi_s, pm_lda_z, pm_lda_s, pm_cat_n, pm_cat_i, pm_cat_r, pm_cat_l, pm_obj, pm_arr, pm_opt, pm_ird, pm_aln, List.getElem?_cons_zero, List.getElem?_cons_succ, List.set_cons_zero, List.set_cons_succ, List.length_cons, List.length_nil, List.length_set, true_and, and_true, Nat.add_zero, Nat.zero_add, Nat.le_refl, Nat.reduceAdd, Nat.reduceLT, Nat.reduceLeDiff, Nat.zero_le, not_false_eq_true, not_true_eq_false, false_implies, implies_true, true_implies, Nat.zero_lt_succ, Nat.lt_add_one, pm_tl_n, pm_tl_s, sc_uL, if_true, one0]
        exact Or.inr trivial
  · simp only [w_X12_isRight_0, w_X12_isRight_1, w_X12_isRight_92, w_X12_isRight_93, w_X12_isRight_94, w_X12_isRight_96, pm_1i_c, pm_2i_c, pm_1l_c, pm_2l_c, pm_1a_c, pm_ia_c, pm_iia_c, pm_va_c, pm_cp_c, pm_k0_c, pm_k1_c, pm_k2_c, pm_k3_c, pm_s1_c, pm_s2_c, pm_s3_c, pm_s4_c, pm_ri_c, pm_ra_c, pm_rn_c, pm_rk_i, pm_rk_z, pm_rk_a, pm_vk_i, pm_vk_z, pm_vk_a, pm_cti, pm_ctr, pm_ldi_z, pm_ldi_s, pm_lda_z, pm_lda_s, pm_cat_n, pm_cat_i, pm_cat_r, pm_cat_l, pm_obj, pm_arr, pm_opt, pm_ird, pm_aln, List.getElem?_cons_zero, List.getElem?_cons_succ, List.set_cons_zero, List.set_cons_succ, List.length_cons, List.length_nil, List.length_set, true_and, and_true, Nat.add_zero, Nat.zero_add, Nat.le_refl, Nat.reduceAdd, Nat.reduceLT, Nat.reduceLeDiff, Nat.zero_le, not_false_eq_true, not_true_eq_false, false_implies, implies_true, true_implies, Nat.zero_lt_succ, Nat.lt_add_one, pm_sw_c, pm_sw_n, Int32.reduceAdd, show nI 5 = 5 from rfl, show ¬ (5 : Int32) = 0 by decide, show ¬ (5 : Int32) = 1 by decide, show ¬ (5 : Int32) = 2 by decide, show ¬ (5 : Int32) = 3 by decide, show ¬ (5 : Int32) = 4 by decide]
    refine PM_use (c_M_in n 1 16 d) ?_
    rintro v g1 k1 ⟨rfl, rfl⟩
    have e : inB n 1 16 = stB 5 n := rfl
    rw [e]
    show W_X12_isRight _ _ _ _ _ _ _ _ _
    simp only [w_X12_isRight_99, pm_1i_c, pm_2i_c, pm_1l_c, pm_2l_c, pm_1a_c, pm_ia_c, pm_iia_c, pm_va_c, pm_cp_c, pm_k0_c, pm_k1_c, pm_k2_c, pm_k3_c, pm_s1_c, pm_s2_c, pm_s3_c, pm_s4_c, pm_ri_c, pm_ra_c, pm_rn_c, pm_rk_i, pm_rk_z, pm_rk_a, pm_vk_i, pm_vk_z, pm_vk_a, pm_cti, pm_ctr, pm_ldi_z, pm_ldi_s, pm_lda_z, pm_lda_s, pm_cat_n, pm_cat_i, pm_cat_r, pm_cat_l, pm_obj, pm_arr, pm_opt, pm_ird, pm_aln, List.getElem?_cons_zero, List.getElem?_cons_succ, List.set_cons_zero, List.set_cons_succ, List.length_cons, List.length_nil, List.length_set, true_and, and_true, Nat.add_zero, Nat.zero_add, Nat.le_refl, Nat.reduceAdd, Nat.reduceLT, Nat.reduceLeDiff, Nat.zero_le, not_false_eq_true, not_true_eq_false, false_implies, implies_true, true_implies, Nat.zero_lt_succ, Nat.lt_add_one, pm_tl_n, pm_tl_s, sc_uL]
    exact fin 0 (stB 5 n) rfl
/-- nothing counted -/
def fcU (A : AD) : AD := uN (uC (uS A 0 0) (fun _ => 0)) (fun _ => 0)
theorem c_M_forgetsCounted (H : md_ h m o A) (d : Nat) : PM (d + 1) 224 [.ref m] h (fun v h' => v = none ∧ md_ h' m o (fcU A) ∧ fr1 h h' (m + 1)) := by
  obtain ⟨H0, f, H1, R⟩ := H
  have H0' := H0
  unfold mO at H0
  have mo : ∀ hh, fr1 h hh (m + 1) → hh[m]? = h[m]? := fun hh q => q m (by omega)
  refine en_X12_forgetsCounted rfl ?_
  have loop2 : ∀ z k, 256 - k = z → k ≤ 256 → ∀ (hh : pmH) (g : Nat → Int32), hh[m + 1]? = some (.inl (0, 2195, .inl g)) → (∀ j, j < 1024 → g j = 0) → (∀ j, j < k → g (1024 + j) = 0) → (∀ j, 1280 ≤ j → g j = f j) → hh.length = h.length → fr1 h hh (m + 1) → W_X12_forgetsCounted d (h.length + 0) 0 (fun v h' => v = none ∧ md_ h' m o (fcU A) ∧ fr1 h h' (m + 1)) 26 [some (.ref m), some (.int (nI k))] [] hh 0 := by
    intro z
    induction z with
    | zero =>
      intro k hz hk hh g q1 q2 q3 q4 q5 q6
      have : k = 256 := by omega
      subst this
      have e1 : ¬ nI 256 < 256 := by decide
      have hm := mo hh q6
      obtain ⟨M, F⟩ := md_.set (A' := fcU A) (f' := upd g 1670 0) (H0'.kept q6) q1 (R.gX (fun k a b => by rw [upd_n (by omega)]; exact q4 k a) (fun k hk => by rw [upd_n (by omega)]; exact q2 k hk) (fun k hk => by rw [upd_n (by omega)]; exact q3 k hk) (fun i hi => by
        unfold fcU
        rw [sc_uN, sc_uC, sc_uS]
        by_cases c : i = 0
        · rw [if_pos c, c, upd_e]
        · rw [if_neg c, upd_n (by omega), q4 _ (by omega)]
          exact R.s hi) rfl rfl (Or.inl rfl))
      rw [w_X12_forgetsCounted_26]
      simp only [w_X12_forgetsCounted_27, w_X12_forgetsCounted_30, w_X12_forgetsCounted_50, w_X12_forgetsCounted_51, w_X12_forgetsCounted_54, w_X12_forgetsCounted_57, w_X12_forgetsCounted_58, w_X12_forgetsCounted_59, pm_1i_c, pm_2i_c, pm_1l_c, pm_2l_c, pm_1a_c, pm_ia_c, pm_iia_c, pm_va_c, pm_cp_c, pm_k0_c, pm_k1_c, pm_k2_c, pm_k3_c, pm_s1_c, pm_s2_c, pm_s3_c, pm_s4_c, pm_ri_c, pm_ra_c, pm_rn_c, pm_rk_i, pm_rk_z, pm_rk_a, pm_vk_i, pm_vk_z, pm_vk_a, pm_cti, pm_ctr, pm_ldi_z, pm_ldi_s, pm_lda_z, pm_lda_s, pm_cat_n, pm_cat_i, pm_cat_r, pm_cat_l, pm_obj, pm_arr, pm_opt, pm_ird, pm_aln, List.getElem?_cons_zero, List.getElem?_cons_succ, List.set_cons_zero, List.set_cons_succ, List.length_cons, List.length_nil, List.length_set, true_and, and_true, Nat.add_zero, Nat.zero_add, Nat.le_refl, Nat.reduceAdd, Nat.reduceLT, Nat.reduceLeDiff, Nat.zero_le, not_false_eq_true, not_true_eq_false, false_implies, implies_true, true_implies, Nat.zero_lt_succ, Nat.lt_add_one, e1, hm, H0, q1, ix_1670, vi_1670, q5]
      exact ⟨M, q6.tr F⟩
    | succ z ih =>
      intro k hz hk hh g q1 q2 q3 q4 q5 q6
      have e1 : nI k < 256 := nI_lt (b := 256) (by omega) (by omega)
      have vi : vp_in (nI (1024 + k)) 2195 := vp_in_nI (by omega) (by omega)
      have ci : (nI (1024 + k)).toNatClampNeg = 1024 + k := nI_clamp (by omega)
      have hm := mo hh q6
      rw [w_X12_forgetsCounted_26]
      simp only [w_X12_forgetsCounted_27, w_X12_forgetsCounted_30, w_X12_forgetsCounted_33, w_X12_forgetsCounted_34, w_X12_forgetsCounted_37, w_X12_forgetsCounted_40, w_X12_forgetsCounted_41, w_X12_forgetsCounted_42, w_X12_forgetsCounted_43, w_X12_forgetsCounted_44, w_X12_forgetsCounted_47, pm_1i_c, pm_2i_c, pm_1l_c, pm_2l_c, pm_1a_c, pm_ia_c, pm_iia_c, pm_va_c, pm_cp_c, pm_k0_c, pm_k1_c, pm_k2_c, pm_k3_c, pm_s1_c, pm_s2_c, pm_s3_c, pm_s4_c, pm_ri_c, pm_ra_c, pm_rn_c, pm_rk_i, pm_rk_z, pm_rk_a, pm_vk_i, pm_vk_z, pm_vk_a, pm_cti, pm_ctr, pm_ldi_z, pm_ldi_s, pm_lda_z, pm_lda_s, pm_cat_n, pm_cat_i, pm_cat_r, pm_cat_l, pm_obj, pm_arr, pm_opt, pm_ird, pm_aln, List.getElem?_cons_zero, List.getElem?_cons_succ, List.set_cons_zero, List.set_cons_succ, List.length_cons, List.length_nil, List.length_set, true_and, and_true, Nat.add_zero, Nat.zero_add, Nat.le_refl, Nat.reduceAdd, Nat.reduceLT, Nat.reduceLeDiff, Nat.zero_le, not_false_eq_true, not_true_eq_false, false_implies, implies_true, true_implies, Nat.zero_lt_succ, Nat.lt_add_one, e1, hm, H0, q1, nI1024, vi, ci, nI_1]
      refine ih (k + 1) (by omega) (by omega) _ _ (by rw [hset_s, q1]; rfl) (fun j hj => by rw [upd_n (by omega)]; exact q2 j hj) (fun j hj => ?_) (fun j hj => by rw [upd_n (by omega)]; exact q4 j hj) (by rw [List.length_set]; exact q5) (q6.tr (fun i hi => hset_n (Ne.symm hi)))
      by_cases c : j = k
      · rw [c, upd_e]
      · rw [upd_n (by omega)]
        exact q3 j (by omega)
  have loop1 : ∀ z k, 1024 - k = z → k ≤ 1024 → ∀ (hh : pmH) (g : Nat → Int32), hh[m + 1]? = some (.inl (0, 2195, .inl g)) → (∀ j, j < k → g j = 0) → (∀ j, 1024 ≤ j → g j = f j) → hh.length = h.length → fr1 h hh (m + 1) → W_X12_forgetsCounted d (h.length + 0) 0 (fun v h' => v = none ∧ md_ h' m o (fcU A) ∧ fr1 h h' (m + 1)) 2 [some (.ref m), some (.int (nI k))] [] hh 0 := by
    intro z
    induction z with
    | zero =>
      intro k hz hk hh g q1 q2 q3 q5 q6
      have : k = 1024 := by omega
      subst this
      have e1 : ¬ nI 1024 < 1024 := by decide
      have hm := mo hh q6
      rw [w_X12_forgetsCounted_2]
      simp only [w_X12_forgetsCounted_3, w_X12_forgetsCounted_6, w_X12_forgetsCounted_24, w_X12_forgetsCounted_25, pm_1i_c, pm_2i_c, pm_1l_c, pm_2l_c, pm_1a_c, pm_ia_c, pm_iia_c, pm_va_c, pm_cp_c, pm_k0_c, pm_k1_c, pm_k2_c, pm_k3_c, pm_s1_c, pm_s2_c, pm_s3_c, pm_s4_c, pm_ri_c, pm_ra_c, pm_rn_c, pm_rk_i, pm_rk_z, pm_rk_a, pm_vk_i, pm_vk_z, pm_vk_a, pm_cti, pm_ctr, pm_ldi_z, pm_ldi_s, pm_lda_z, pm_lda_s, pm_cat_n, pm_cat_i, pm_cat_r, pm_cat_l, pm_obj, pm_arr, pm_opt, pm_ird, pm_aln, List.getElem?_cons_zero, List.getElem?_cons_succ, List.set_cons_zero, List.set_cons_succ, List.length_cons, List.length_nil, List.length_set, true_and, and_true, Nat.add_zero, Nat.zero_add, Nat.le_refl, Nat.reduceAdd, Nat.reduceLT, Nat.reduceLeDiff, Nat.zero_le, not_false_eq_true, not_true_eq_false, false_implies, implies_true, true_implies, Nat.zero_lt_succ, Nat.lt_add_one, e1]
      exact loop2 256 0 rfl (by omega) hh g q1 q2 (fun j hj => by omega) (fun j hj => q3 j (by omega)) q5 q6
    | succ z ih =>
      intro k hz hk hh g q1 q2 q3 q5 q6
      have e1 : nI k < 1024 := nI_lt (b := 1024) (by omega) (by omega)
      have vi : vp_in (nI k) 2195 := vp_in_nI (by omega) (by omega)
      have ci : (nI k).toNatClampNeg = k := nI_clamp (by omega)
      have hm := mo hh q6
      rw [w_X12_forgetsCounted_2]
      simp only [w_X12_forgetsCounted_3, w_X12_forgetsCounted_6, w_X12_forgetsCounted_9, w_X12_forgetsCounted_10, w_X12_forgetsCounted_13, w_X12_forgetsCounted_14, w_X12_forgetsCounted_15, w_X12_forgetsCounted_16, w_X12_forgetsCounted_17, w_X12_forgetsCounted_18, w_X12_forgetsCounted_21, pm_1i_c, pm_2i_c, pm_1l_c, pm_2l_c, pm_1a_c, pm_ia_c, pm_iia_c, pm_va_c, pm_cp_c, pm_k0_c, pm_k1_c, pm_k2_c, pm_k3_c, pm_s1_c, pm_s2_c, pm_s3_c, pm_s4_c, pm_ri_c, pm_ra_c, pm_rn_c, pm_rk_i, pm_rk_z, pm_rk_a, pm_vk_i, pm_vk_z, pm_vk_a, pm_cti, pm_ctr, pm_ldi_z, pm_ldi_s, pm_lda_z, pm_lda_s, pm_cat_n, pm_cat_i, pm_cat_r, pm_cat_l, pm_obj, pm_arr, pm_opt, pm_ird, pm_aln, List.getElem?_cons_zero, List.getElem?_cons_succ, List.set_cons_zero, List.set_cons_succ, List.length_cons, List.length_nil, List.length_set, true_and, and_true, Nat.add_zero, Nat.zero_add, Nat.le_refl, Nat.reduceAdd, Nat.reduceLT, Nat.reduceLeDiff, Nat.zero_le, not_false_eq_true, not_true_eq_false, false_implies, implies_true, true_implies, Nat.zero_lt_succ, Nat.lt_add_one, e1, hm, H0, q1, Int32.zero_add, vi, ci, nI_1]
      refine ih (k + 1) (by omega) (by omega) _ _ (by rw [hset_s, q1]; rfl) (fun j hj => ?_) (fun j hj => by rw [upd_n (by omega)]; exact q3 j hj) (by rw [List.length_set]; exact q5) (q6.tr (fun i hi => hset_n (Ne.symm hi)))
      by_cases c : j = k
      · rw [c, upd_e]
      · rw [upd_n c]
        exact q2 j (by omega)
  simp only [w_X12_forgetsCounted_0, w_X12_forgetsCounted_1, pm_1i_c, pm_2i_c, pm_1l_c, pm_2l_c, pm_1a_c, pm_ia_c, pm_iia_c, pm_va_c, pm_cp_c, pm_k0_c, pm_k1_c, pm_k2_c, pm_k3_c, pm_s1_c, pm_s2_c, pm_s3_c, pm_s4_c, pm_ri_c, pm_ra_c, pm_rn_c, pm_rk_i, pm_rk_z, pm_rk_a, pm_vk_i, pm_vk_z, pm_vk_a, pm_cti, pm_ctr, pm_ldi_z, pm_ldi_s, pm_lda_z, pm_lda_s, pm_cat_n, pm_cat_i, pm_cat_r, pm_cat_l, pm_obj, pm_arr, pm_opt, pm_ird, pm_aln, List.getElem?_cons_zero, List.getElem?_cons_succ, List.set_cons_zero, List.set_cons_succ, List.length_cons, List.length_nil, List.length_set, true_and, and_true, Nat.add_zero, Nat.zero_add, Nat.le_refl, Nat.reduceAdd, Nat.reduceLT, Nat.reduceLeDiff, Nat.zero_le, not_false_eq_true, not_true_eq_false, false_implies, implies_true, true_implies, Nat.zero_lt_succ, Nat.lt_add_one]
  exact loop1 1024 0 rfl (by omega) h f H1 (fun j hj => by omega) (fun j hj => rfl) rfl fr1.rf
theorem c_M_beginsPeriod (H : md_ h m o A) (d : Nat) : PM (d + 1) 225 [.ref m] h (fun v h' => v = none ∧ md_ h' m o (uS (uS (uS (uS A 15 1) 16 0) 17 0) 18 0) ∧ fr1 h h' (m + 1)) := by
  obtain ⟨H0, f, H1, R⟩ := H
  have H0' := H0
  unfold mO at H0'
  obtain ⟨g1, e1, l1, F1, M0, f1, M1, MR⟩ := md_.st H0 H1 R (i := 15) (by omega) (k := 1685) rfl 1
  have M0' := M0
  unfold mO at M0'
  obtain ⟨g2, e2, l2, F2, N0, f2, N1, NR⟩ := md_.st M0 M1 MR (i := 16) (by omega) (k := 1686) rfl 0
  have N0' := N0
  unfold mO at N0'
  obtain ⟨g3, e3, l3, F3, P0, f3, P1, PR⟩ := md_.st N0 N1 NR (i := 17) (by omega) (k := 1687) rfl 0
  have P0' := P0
  unfold mO at P0'
  obtain ⟨g4, e4, l4, F4, Q0, f4, Q1, QR⟩ := md_.st P0 P1 PR (i := 18) (by omega) (k := 1688) rfl 0
  refine en_X12_beginsPeriod rfl ?_
  simp only [w_X12_beginsPeriod_0, w_X12_beginsPeriod_1, w_X12_beginsPeriod_4, w_X12_beginsPeriod_7, w_X12_beginsPeriod_8, w_X12_beginsPeriod_9, w_X12_beginsPeriod_10, w_X12_beginsPeriod_13, w_X12_beginsPeriod_16, w_X12_beginsPeriod_17, w_X12_beginsPeriod_18, w_X12_beginsPeriod_19, w_X12_beginsPeriod_22, w_X12_beginsPeriod_25, w_X12_beginsPeriod_26, w_X12_beginsPeriod_27, w_X12_beginsPeriod_28, w_X12_beginsPeriod_31, w_X12_beginsPeriod_34, w_X12_beginsPeriod_35, w_X12_beginsPeriod_36, pm_1i_c, pm_2i_c, pm_1l_c, pm_2l_c, pm_1a_c, pm_ia_c, pm_iia_c, pm_va_c, pm_cp_c, pm_k0_c, pm_k1_c, pm_k2_c, pm_k3_c, pm_s1_c, pm_s2_c, pm_s3_c, pm_s4_c, pm_ri_c, pm_ra_c, pm_rn_c, pm_rk_i, pm_rk_z, pm_rk_a, pm_vk_i, pm_vk_z, pm_vk_a, pm_cti, pm_ctr, pm_ldi_z, pm_ldi_s, pm_lda_z, pm_lda_s, pm_cat_n, pm_cat_i, pm_cat_r, pm_cat_l, pm_obj, pm_arr, pm_opt, pm_ird, pm_aln, List.getElem?_cons_zero, List.getElem?_cons_succ, List.set_cons_zero, List.set_cons_succ, List.length_cons, List.length_nil, List.length_set, true_and, and_true, Nat.add_zero, Nat.zero_add, Nat.le_refl, Nat.reduceAdd, Nat.reduceLT, Nat.reduceLeDiff, Nat.zero_le, not_false_eq_true, not_true_eq_false, false_implies, implies_true, true_implies, Nat.zero_lt_succ, Nat.lt_add_one, H0', H1, ix_1685, vi_1685, e1, M0', M1, ix_1686, vi_1686, e2, N0', N1, ix_1687, vi_1687, e3, P0', P1, ix_1688, vi_1688, e4, l1, l2, l3, l4]
  exact ⟨⟨Q0, f4, Q1, QR⟩, ((F1.tr F2).tr F3).tr F4⟩
end MQ_
