/-! AdmissionDeskModel: counts, the doorman, what is kept. -/
section MP
variable {h h' : pmH} {m : Nat} {o : Nat → Int32} {A A' K K' B : AD} {bs ws bs' ws' : List Int32} {ik ft : Int32}
theorem c_P_free (C : mm_ h m o A K bs ws) (d : Nat) : PM (d + 1) 174 [.ref m] h (rq_ h m (uS A 23 (-1)) K bs ws (o 0) (o 7) true (if sc A 23 = -1 then 0 else 1)) := by
  have H0 := C.ob
  unfold mO at H0
  obtain ⟨h1, e1, l1, F1, C1, H1⟩ := C.th 0
  obtain ⟨f, Hf, Rf⟩ := C1.n
  have s23 : f 1693 = sc A 23 := Rf.s (i := 23) (by omega)
  have ne : ∀ k, k ≠ 1693 → upd f 1693 (-1) k = f k := fun k hk => if_neg hk
  have R2 : rep (upd f 1693 (-1)) (uS A 23 (-1)) := by
    refine Rf.gX (fun k a b => ne k (by omega)) (fun k hk => (ne k (by omega)).trans (Rf.c hk)) (fun k hk => (ne _ (by omega)).trans (Rf.n hk)) (fun j hj => ?_) rfl rfl (Or.inr (by rw [sc_uS, if_pos rfl]))
    rw [sc_uS]
    by_cases c : j = 23
    · rw [if_pos c, c]
      exact if_pos rfl
    · rw [if_neg c]
      exact (ne _ (by omega)).trans (Rf.s hj)
  obtain ⟨M2, G2⟩ := md_.set (A' := uS A 23 (-1)) C1.ob Hf R2
  obtain ⟨C2, F2⟩ := C1.ud M2 G2
  refine en_X12_free rfl ?_
  by_cases z : sc A 23 = -1
  · rw [if_pos z]
    simp only [w_X12_free_0, w_X12_free_1, w_X12_free_2, w_X12_free_5, w_X12_free_6, w_X12_free_9, w_X12_free_12, w_X12_free_13, w_X12_free_14, w_X12_free_17, w_X12_free_18, w_X12_free_21, w_X12_free_22, w_X12_free_23, w_X12_free_24, w_X12_free_27, w_X12_free_30, w_X12_free_31, w_X12_free_32, w_X12_free_33, pm_1i_c, pm_2i_c, pm_1l_c, pm_2l_c, pm_1a_c, pm_ia_c, pm_iia_c, pm_va_c, pm_cp_c, pm_k0_c, pm_k1_c, pm_k2_c, pm_k3_c, pm_s1_c, pm_s2_c, pm_s3_c, pm_s4_c, pm_ri_c, pm_ra_c, pm_rn_c, pm_rk_i, pm_rk_z, pm_rk_a, pm_vk_i, pm_vk_z, pm_vk_a, pm_cti, pm_ctr, pm_ldi_z, pm_ldi_s, pm_lda_z, pm_lda_s, pm_cat_n, pm_cat_i, pm_cat_r, pm_cat_l, pm_obj, pm_arr, pm_opt, pm_ird, pm_aln, List.getElem?_cons_zero, List.getElem?_cons_succ, List.set_cons_zero, List.set_cons_succ, List.length_cons, List.length_nil, List.length_set, true_and, and_true, Nat.add_zero, Nat.zero_add, Nat.le_refl, Nat.reduceAdd, Nat.reduceLT, Nat.reduceLeDiff, Nat.zero_le, not_false_eq_true, not_true_eq_false, false_implies, implies_true, true_implies, Nat.zero_lt_succ, Nat.lt_add_one, H0, e1, H1, l1, Hf, ix_1693, vi_1693, s23, z]
    exact ⟨Or.inl trivial, rq_T (C2.q (F1.tr F2))⟩
  · rw [if_neg z]
    simp only [w_X12_free_0, w_X12_free_1, w_X12_free_2, w_X12_free_5, w_X12_free_6, w_X12_free_9, w_X12_free_12, w_X12_free_13, w_X12_free_14, w_X12_free_17, w_X12_free_18, w_X12_free_21, w_X12_free_22, w_X12_free_23, w_X12_free_24, w_X12_free_27, w_X12_free_30, w_X12_free_31, w_X12_free_32, w_X12_free_33, pm_1i_c, pm_2i_c, pm_1l_c, pm_2l_c, pm_1a_c, pm_ia_c, pm_iia_c, pm_va_c, pm_cp_c, pm_k0_c, pm_k1_c, pm_k2_c, pm_k3_c, pm_s1_c, pm_s2_c, pm_s3_c, pm_s4_c, pm_ri_c, pm_ra_c, pm_rn_c, pm_rk_i, pm_rk_z, pm_rk_a, pm_vk_i, pm_vk_z, pm_vk_a, pm_cti, pm_ctr, pm_ldi_z, pm_ldi_s, pm_lda_z, pm_lda_s, pm_cat_n, pm_cat_i, pm_cat_r, pm_cat_l, pm_obj, pm_arr, pm_opt, pm_ird, pm_aln, List.getElem?_cons_zero, List.getElem?_cons_succ, List.set_cons_zero, List.set_cons_succ, List.length_cons, List.length_nil, List.length_set, true_and, and_true, Nat.add_zero, Nat.zero_add, Nat.le_refl, Nat.reduceAdd, Nat.reduceLT, Nat.reduceLeDiff, Nat.zero_le, not_false_eq_true, not_true_eq_false, false_implies, implies_true, true_implies, Nat.zero_lt_succ, Nat.lt_add_one, H0, e1, H1, l1, Hf, ix_1693, vi_1693, s23, z]
    exact ⟨Or.inr trivial, rq_T (C2.q (F1.tr F2))⟩
theorem mm_.tape (C : mm_ h m o A K bs ws) (n : Nat) (hn : n ≤ bs.length) (M : mO h' m (upd o 2 (nI n))) (F : fr1 h h' m) : mm_ h' m (upd o 2 (nI n)) A K (bs.take n) ws ∧ frM h h' m := by
  refine ⟨⟨M, ?_, ?_, ?_, ?_, ?_, ?_, ?_, ?_, ?_, ?_⟩, fun i hi => F i (by omega)⟩
  · obtain ⟨f, h1, h2⟩ := C.n
    exact ⟨f, (F _ (by omega)).trans h1, h2⟩
  · obtain ⟨f, h1, h2⟩ := C.k
    exact ⟨f, (F _ (by omega)).trans h1, h2⟩
  · obtain ⟨f, h1⟩ := C.as
    exact ⟨f, (F _ (by omega)).trans h1⟩
  · obtain ⟨f, h1, h2, h3, h4⟩ := C.tp
    have lt : (bs.take n).length = n := by rw [List.length_take]; omega
    refine ⟨f, (F _ (by omega)).trans h1, by omega, by rw [lt]; exact if_pos rfl, fun k hk => ?_⟩
    rw [lt] at hk
    rw [h4 k (by omega), List.getD_eq_getElem?_getD, List.getD_eq_getElem?_getD, List.getElem?_take, if_pos hk]
  · obtain ⟨f, h1⟩ := C.fv
    exact ⟨f, (F _ (by omega)).trans h1⟩
  · obtain ⟨f, h1⟩ := C.cd
    exact ⟨f, (F _ (by omega)).trans h1⟩
  · exact C.p.keep (F _ (by omega))
  · obtain ⟨f, h1⟩ := C.td
    exact ⟨f, (F _ (by omega)).trans h1⟩
  · obtain ⟨f, h1⟩ := C.rw
    exact ⟨f, (F _ (by omega)).trans h1⟩
  · obtain ⟨f, h1, h2, h3, h4⟩ := C.tx
    exact ⟨f, (F _ (by omega)).trans h1, h2, h3, h4⟩
theorem c_P_end (C : mm_ h m o A K bs ws) (n : Int32) (d : Nat) : PM (d + 1) 152 [.ref m, .int n] h (fun v h' => if n < 0 ∨ nI bs.length < n then rq_ h m A K bs ws (o 0) (o 7) true 0 v h' else rq_ h m A K (bs.take n.toNatClampNeg) ws (o 0) (o 7) true 1 v h') := by
  have tp := C.tp
  obtain ⟨tf, t1, t2, t3, t4⟩ := tp
  have H0 := C.ob
  unfold mO at H0
  obtain ⟨h1, e1, l1, F1, C1, H1⟩ := C.th 0
  rw [t3] at H0 e1 H1
  refine en_X12_end rfl rfl ?_
  by_cases c0 : n < 0
  · simp only [w_X12_end_0, w_X12_end_1, w_X12_end_2, w_X12_end_5, w_X12_end_6, w_X12_end_9, w_X12_end_10, w_X12_end_11, w_X12_end_14, w_X12_end_17, w_X12_end_18, w_X12_end_19, w_X12_end_20, w_X12_end_21, w_X12_end_24, w_X12_end_25, pm_1i_c, pm_2i_c, pm_1l_c, pm_2l_c, pm_1a_c, pm_ia_c, pm_iia_c, pm_va_c, pm_cp_c, pm_k0_c, pm_k1_c, pm_k2_c, pm_k3_c, pm_s1_c, pm_s2_c, pm_s3_c, pm_s4_c, pm_ri_c, pm_ra_c, pm_rn_c, pm_rk_i, pm_rk_z, pm_rk_a, pm_vk_i, pm_vk_z, pm_vk_a, pm_cti, pm_ctr, pm_ldi_z, pm_ldi_s, pm_lda_z, pm_lda_s, pm_cat_n, pm_cat_i, pm_cat_r, pm_cat_l, pm_obj, pm_arr, pm_opt, pm_ird, pm_aln, List.getElem?_cons_zero, List.getElem?_cons_succ, List.set_cons_zero, List.set_cons_succ, List.length_cons, List.length_nil, List.length_set, true_and, and_true, Nat.add_zero, Nat.zero_add, Nat.le_refl, Nat.reduceAdd, Nat.reduceLT, Nat.reduceLeDiff, Nat.zero_le, not_false_eq_true, not_true_eq_false, false_implies, implies_true, true_implies, Nat.zero_lt_succ, Nat.lt_add_one, H0, e1, H1, l1, c0, true_or, if_true]
    exact rq_T (C1.q F1)
  · obtain ⟨j, hj, rfl⟩ := nI_of c0
    by_cases c1 : nI bs.length < nI j
    · simp only [w_X12_end_0, w_X12_end_1, w_X12_end_2, w_X12_end_5, w_X12_end_6, w_X12_end_9, w_X12_end_10, w_X12_end_11, w_X12_end_14, w_X12_end_17, w_X12_end_18, w_X12_end_19, w_X12_end_20, w_X12_end_21, w_X12_end_24, w_X12_end_25, pm_1i_c, pm_2i_c, pm_1l_c, pm_2l_c, pm_1a_c, pm_ia_c, pm_iia_c, pm_va_c, pm_cp_c, pm_k0_c, pm_k1_c, pm_k2_c, pm_k3_c, pm_s1_c, pm_s2_c, pm_s3_c, pm_s4_c, pm_ri_c, pm_ra_c, pm_rn_c, pm_rk_i, pm_rk_z, pm_rk_a, pm_vk_i, pm_vk_z, pm_vk_a, pm_cti, pm_ctr, pm_ldi_z, pm_ldi_s, pm_lda_z, pm_lda_s, pm_cat_n, pm_cat_i, pm_cat_r, pm_cat_l, pm_obj, pm_arr, pm_opt, pm_ird, pm_aln, List.getElem?_cons_zero, List.getElem?_cons_succ, List.set_cons_zero, List.set_cons_succ, List.length_cons, List.length_nil, List.length_set, true_and, and_true, Nat.add_zero, Nat.zero_add, Nat.le_refl, Nat.reduceAdd, Nat.reduceLT, Nat.reduceLeDiff, Nat.zero_le, not_false_eq_true, not_true_eq_false, false_implies, implies_true, true_implies, Nat.zero_lt_succ, Nat.lt_add_one, H0, e1, H1, l1, c0, c1, or_true, if_true]
      exact ⟨Or.inl trivial, rq_T (C1.q F1)⟩
    · have c2 : j ≤ bs.length := Nat.not_lt.mp fun z => c1 (nI_lt z hj)
      rw [nI_clamp hj]
      have e2 : (h1.set m (.inr (12, [.ref (m + 1), .ref (m + 2), .ref (m + 3), .int (o 0), .int 0, .ref (m + 4), .int (nI j), .ref (m + 5), .int (o 3), .int (o 4), .int (o 5), .int (o 6), .int (o 7), .int (o 8), .int (o 9), .int (o 10), .ref (m + 6), .ref (m + 7), .ref (m + 8), .int (o 11), .ref (m + 9), .ref (m + 10), .int (o 12)])))[m]? = some (.inr (12, [.ref (m + 1), .ref (m + 2), .ref (m + 3), .int (o 0), .int 0, .ref (m + 4), .int (nI j), .ref (m + 5), .int (o 3), .int (o 4), .int (o 5), .int (o 6), .int (o 7), .int (o 8), .int (o 9), .int (o 10), .ref (m + 6), .ref (m + 7), .ref (m + 8), .int (o 11), .ref (m + 9), .ref (m + 10), .int (o 12)])) := by
        rw [hset_s, H1]
        rfl
      obtain ⟨C2, F2⟩ := C1.tape j c2 e2 (fun i hi => hset_n (Ne.symm hi))
      simp only [w_X12_end_0, w_X12_end_1, w_X12_end_2, w_X12_end_5, w_X12_end_6, w_X12_end_9, w_X12_end_10, w_X12_end_11, w_X12_end_14, w_X12_end_17, w_X12_end_18, w_X12_end_19, w_X12_end_20, w_X12_end_21, w_X12_end_24, w_X12_end_25, pm_1i_c, pm_2i_c, pm_1l_c, pm_2l_c, pm_1a_c, pm_ia_c, pm_iia_c, pm_va_c, pm_cp_c, pm_k0_c, pm_k1_c, pm_k2_c, pm_k3_c, pm_s1_c, pm_s2_c, pm_s3_c, pm_s4_c, pm_ri_c, pm_ra_c, pm_rn_c, pm_rk_i, pm_rk_z, pm_rk_a, pm_vk_i, pm_vk_z, pm_vk_a, pm_cti, pm_ctr, pm_ldi_z, pm_ldi_s, pm_lda_z, pm_lda_s, pm_cat_n, pm_cat_i, pm_cat_r, pm_cat_l, pm_obj, pm_arr, pm_opt, pm_ird, pm_aln, List.getElem?_cons_zero, List.getElem?_cons_succ, List.set_cons_zero, List.set_cons_succ, List.length_cons, List.length_nil, List.length_set, true_and, and_true, Nat.add_zero, Nat.zero_add, Nat.le_refl, Nat.reduceAdd, Nat.reduceLT, Nat.reduceLeDiff, Nat.zero_le, not_false_eq_true, not_true_eq_false, false_implies, implies_true, true_implies, Nat.zero_lt_succ, Nat.lt_add_one, H0, e1, H1, l1, c0, c1, or_false, if_false]
      exact ⟨Or.inr trivial, rq_T ⟨⟨_, C2, rfl, rfl, rfl⟩, F1.tr F2⟩⟩
theorem c_M_sumOf (H : md_ h m o A) {f : Nat → Int32} (Hf : h[m + 1]? = some (.inl (0, 2195, .inl f))) {a n : Nat} (ha : a + n ≤ 2000) {b : Int32} (hb : b = 0 ∨ b = 1) (d : Nat) : PM (d + 1) 256 [.ref m, .int (nI a), .int (nI n), .int b] h (fun v h' => v = some (.int (smF (fun k => if b = 0 then (if f (a + k) = 0 then 0 else 1) else f (a + k)) n)) ∧ h' = h) := by
  obtain ⟨H0, -⟩ := H
  unfold mO at H0
  refine en_X12_sumOf rfl rfl rfl rfl ?_
  have loop : ∀ z k, n - k = z → k ≤ n → W_X12_sumOf d (h.length + 0) 0 (fun v h' => v = some (.int (smF (fun k => if b = 0 then (if f (a + k) = 0 then 0 else 1) else f (a + k)) n)) ∧ h' = h) 6 [some (.ref m), some (.int (nI a)), some (.int (nI n)), some (.int b), some (.int (smF (fun k => if b = 0 then (if f (a + k) = 0 then 0 else 1) else f (a + k)) k)), some (.int (nI k))] [] h 0 := by
    intro z
    induction z with
    | zero =>
      intro k hz hk
      have : k = n := by omega
      subst this
      have e1 : ¬ nI k < nI k := nI_nlt (Nat.le_refl _) (by omega)
      rw [w_X12_sumOf_6]
      simp only [w_X12_sumOf_8, w_X12_sumOf_9, w_X12_sumOf_56, w_X12_sumOf_58, pm_1i_c, pm_2i_c, pm_1l_c, pm_2l_c, pm_1a_c, pm_ia_c, pm_iia_c, pm_va_c, pm_cp_c, pm_k0_c, pm_k1_c, pm_k2_c, pm_k3_c, pm_s1_c, pm_s2_c, pm_s3_c, pm_s4_c, pm_ri_c, pm_ra_c, pm_rn_c, pm_rk_i, pm_rk_z, pm_rk_a, pm_vk_i, pm_vk_z, pm_vk_a, pm_cti, pm_ctr, pm_ldi_z, pm_ldi_s, pm_lda_z, pm_lda_s, pm_cat_n, pm_cat_i, pm_cat_r, pm_cat_l, pm_obj, pm_arr, pm_opt, pm_ird, pm_aln, List.getElem?_cons_zero, List.getElem?_cons_succ, List.set_cons_zero, List.set_cons_succ, List.length_cons, List.length_nil, List.length_set, true_and, and_true, Nat.add_zero, Nat.zero_add, Nat.le_refl, Nat.reduceAdd, Nat.reduceLT, Nat.reduceLeDiff, Nat.zero_le, not_false_eq_true, not_true_eq_false, false_implies, implies_true, true_implies, Nat.zero_lt_succ, Nat.lt_add_one, e1]
    | succ z ih =>
      intro k hz hk
      have e1 : nI k < nI n := nI_lt (by omega) (by omega)
      have I := ih (k + 1) (by omega) (by omega)
      have es : smF (fun k => if b = 0 then (if f (a + k) = 0 then 0 else 1) else f (a + k)) (k + 1) = smF (fun k => if b = 0 then (if f (a + k) = 0 then 0 else 1) else f (a + k)) k + (if b = 0 then (if f (a + k) = 0 then 0 else 1) else f (a + k)) := rfl
      rw [es] at I
      have n1 : nI a + nI k = nI (a + k) := nI_add _ _
      have vi : vp_in (nI (a + k)) 2195 := vp_in_nI (by omega) (by omega)
      have ci : (nI (a + k)).toNatClampNeg = a + k := nI_clamp (by omega)
      generalize smF (fun k => if b = 0 then (if f (a + k) = 0 then 0 else 1) else f (a + k)) k = s at I ⊢
      generalize smF (fun k => if b = 0 then (if f (a + k) = 0 then 0 else 1) else f (a + k)) n = s2 at I ⊢
      rcases hb with rfl | rfl
      · rw [if_pos rfl] at I
        by_cases c : f (a + k) = 0
        · rw [if_pos c] at I
          rw [w_X12_sumOf_6]
          simp only [w_X12_sumOf_8, w_X12_sumOf_9, w_X12_sumOf_12, w_X12_sumOf_14, w_X12_sumOf_15, w_X12_sumOf_18, w_X12_sumOf_19, w_X12_sumOf_22, w_X12_sumOf_23, w_X12_sumOf_25, w_X12_sumOf_26, w_X12_sumOf_27, w_X12_sumOf_30, w_X12_sumOf_31, w_X12_sumOf_34, w_X12_sumOf_35, w_X12_sumOf_37, w_X12_sumOf_38, w_X12_sumOf_39, w_X12_sumOf_42, w_X12_sumOf_43, w_X12_sumOf_46, w_X12_sumOf_47, w_X12_sumOf_48, w_X12_sumOf_50, w_X12_sumOf_53, pm_1i_c, pm_2i_c, pm_1l_c, pm_2l_c, pm_1a_c, pm_ia_c, pm_iia_c, pm_va_c, pm_cp_c, pm_k0_c, pm_k1_c, pm_k2_c, pm_k3_c, pm_s1_c, pm_s2_c, pm_s3_c, pm_s4_c, pm_ri_c, pm_ra_c, pm_rn_c, pm_rk_i, pm_rk_z, pm_rk_a, pm_vk_i, pm_vk_z, pm_vk_a, pm_cti, pm_ctr, pm_ldi_z, pm_ldi_s, pm_lda_z, pm_lda_s, pm_cat_n, pm_cat_i, pm_cat_r, pm_cat_l, pm_obj, pm_arr, pm_opt, pm_ird, pm_aln, List.getElem?_cons_zero, List.getElem?_cons_succ, List.set_cons_zero, List.set_cons_succ, List.length_cons, List.length_nil, List.length_set, true_and, and_true, Nat.add_zero, Nat.zero_add, Nat.le_refl, Nat.reduceAdd, Nat.reduceLT, Nat.reduceLeDiff, Nat.zero_le, not_false_eq_true, not_true_eq_false, false_implies, implies_true, true_implies, Nat.zero_lt_succ, Nat.lt_add_one, e1, H0, Hf, n1, vi, ci, c, nI_1]
          exact I
        · rw [if_neg c] at I
          rw [w_X12_sumOf_6]
          simp only [w_X12_sumOf_8, w_X12_sumOf_9, w_X12_sumOf_12, w_X12_sumOf_14, w_X12_sumOf_15, w_X12_sumOf_18, w_X12_sumOf_19, w_X12_sumOf_22, w_X12_sumOf_23, w_X12_sumOf_25, w_X12_sumOf_26, w_X12_sumOf_27, w_X12_sumOf_30, w_X12_sumOf_31, w_X12_sumOf_34, w_X12_sumOf_35, w_X12_sumOf_37, w_X12_sumOf_38, w_X12_sumOf_39, w_X12_sumOf_42, w_X12_sumOf_43, w_X12_sumOf_46, w_X12_sumOf_47, w_X12_sumOf_48, w_X12_sumOf_50, w_X12_sumOf_53, pm_1i_c, pm_2i_c, pm_1l_c, pm_2l_c, pm_1a_c, pm_ia_c, pm_iia_c, pm_va_c, pm_cp_c, pm_k0_c, pm_k1_c, pm_k2_c, pm_k3_c, pm_s1_c, pm_s2_c, pm_s3_c, pm_s4_c, pm_ri_c, pm_ra_c, pm_rn_c, pm_rk_i, pm_rk_z, pm_rk_a, pm_vk_i, pm_vk_z, pm_vk_a, pm_cti, pm_ctr, pm_ldi_z, pm_ldi_s, pm_lda_z, pm_lda_s, pm_cat_n, pm_cat_i, pm_cat_r, pm_cat_l, pm_obj, pm_arr, pm_opt, pm_ird, pm_aln, List.getElem?_cons_zero, List.getElem?_cons_succ, List.set_cons_zero, List.set_cons_succ, List.length_cons, List.length_nil, List.length_set, true_and, and_true, Nat.add_zero, Nat.zero_add, Nat.le_refl, Nat.reduceAdd, Nat.reduceLT, Nat.reduceLeDiff, Nat.zero_le, not_false_eq_true, not_true_eq_false, false_implies, implies_true, true_implies, Nat.zero_lt_succ, Nat.lt_add_one, e1, H0, Hf, n1, vi, ci, c, nI_1]
          exact I
      · rw [if_neg one0] at I
        rw [w_X12_sumOf_6]
        simp only [w_X12_sumOf_8, w_X12_sumOf_9, w_X12_sumOf_12, w_X12_sumOf_14, w_X12_sumOf_15, w_X12_sumOf_18, w_X12_sumOf_19, w_X12_sumOf_22, w_X12_sumOf_23, w_X12_sumOf_25, w_X12_sumOf_26, w_X12_sumOf_27, w_X12_sumOf_30, w_X12_sumOf_31, w_X12_sumOf_34, w_X12_sumOf_35, w_X12_sumOf_37, w_X12_sumOf_38, w_X12_sumOf_39, w_X12_sumOf_42, w_X12_sumOf_43, w_X12_sumOf_46, w_X12_sumOf_47, w_X12_sumOf_48, w_X12_sumOf_50, w_X12_sumOf_53, pm_1i_c, pm_2i_c, pm_1l_c, pm_2l_c, pm_1a_c, pm_ia_c, pm_iia_c, pm_va_c, pm_cp_c, pm_k0_c, pm_k1_c, pm_k2_c, pm_k3_c, pm_s1_c, pm_s2_c, pm_s3_c, pm_s4_c, pm_ri_c, pm_ra_c, pm_rn_c, pm_rk_i, pm_rk_z, pm_rk_a, pm_vk_i, pm_vk_z, pm_vk_a, pm_cti, pm_ctr, pm_ldi_z, pm_ldi_s, pm_lda_z, pm_lda_s, pm_cat_n, pm_cat_i, pm_cat_r, pm_cat_l, pm_obj, pm_arr, pm_opt, pm_ird, pm_aln, List.getElem?_cons_zero, List.getElem?_cons_succ, List.set_cons_zero, List.set_cons_succ, List.length_cons, List.length_nil, List.length_set, true_and, and_true, Nat.add_zero, Nat.zero_add, Nat.le_refl, Nat.reduceAdd, Nat.reduceLT, Nat.reduceLeDiff, Nat.zero_le, not_false_eq_true, not_true_eq_false, false_implies, implies_true, true_implies, Nat.zero_lt_succ, Nat.lt_add_one, e1, H0, Hf, n1, vi, ci, one0, nI_1]
        exact I
  simp only [w_X12_sumOf_0, w_X12_sumOf_1, w_X12_sumOf_3, w_X12_sumOf_4, pm_1i_c, pm_2i_c, pm_1l_c, pm_2l_c, pm_1a_c, pm_ia_c, pm_iia_c, pm_va_c, pm_cp_c, pm_k0_c, pm_k1_c, pm_k2_c, pm_k3_c, pm_s1_c, pm_s2_c, pm_s3_c, pm_s4_c, pm_ri_c, pm_ra_c, pm_rn_c, pm_rk_i, pm_rk_z, pm_rk_a, pm_vk_i, pm_vk_z, pm_vk_a, pm_cti, pm_ctr, pm_ldi_z, pm_ldi_s, pm_lda_z, pm_lda_s, pm_cat_n, pm_cat_i, pm_cat_r, pm_cat_l, pm_obj, pm_arr, pm_opt, pm_ird, pm_aln, List.getElem?_cons_zero, List.getElem?_cons_succ, List.set_cons_zero, List.set_cons_succ, List.length_cons, List.length_nil, List.length_set, true_and, and_true, Nat.add_zero, Nat.zero_add, Nat.le_refl, Nat.reduceAdd, Nat.reduceLT, Nat.reduceLeDiff, Nat.zero_le, not_false_eq_true, not_true_eq_false, false_implies, implies_true, true_implies, Nat.zero_lt_succ, Nat.lt_add_one]
  exact loop n 0 (by omega) (Nat.zero_le _)
theorem c_P_count (C : mm_ h m o A K bs ws) (V : skV A) (q : Int32) (d : Nat) : PM (d + 4) 257 [.ref m, .int q] h (rq_ h m A K bs ws (o 0) (o 7) true (cntF A q)) := by
  have H0 := C.ob
  unfold mO at H0
  obtain ⟨h1, e1, l1, F1, C1, H1⟩ := C.th 0
  obtain ⟨f, Hf, Rf⟩ := C1.n
  have s2 : f 1672 = sc A 2 := Rf.s (i := 2) (by omega)
  have s3 : f 1673 = sc A 3 := Rf.s (i := 3) (by omega)
  have s4 : f 1674 = sc A 4 := Rf.s (i := 4) (by omega)
  have s5 : f 1675 = sc A 5 := Rf.s (i := 5) (by omega)
  have s0 : f 1670 = sc A 0 := Rf.s (i := 0) (by omega)
  have s1 : f 1671 = sc A 1 := Rf.s (i := 1) (by omega)
  have s9 : f 1679 = sc A 9 := Rf.s (i := 9) (by omega)
  have s8 : f 1678 = sc A 8 := Rf.s (i := 8) (by omega)
  have s10 : f 1680 = sc A 10 := Rf.s (i := 10) (by omega)
  have s11 : f 1681 = sc A 11 := Rf.s (i := 11) (by omega)
  have s12 : f 1682 = sc A 12 := Rf.s (i := 12) (by omega)
  have s13 : f 1683 = sc A 13 := Rf.s (i := 13) (by omega)
  have s14 : f 1684 = sc A 14 := Rf.s (i := 14) (by omega)
  have s23 : f 1693 = sc A 23 := Rf.s (i := 23) (by omega)
  have s6 : f 1676 = sc A 6 := Rf.s (i := 6) (by omega)
  have s7 : f 1677 = sc A 7 := Rf.s (i := 7) (by omega)
  refine en_X12_count rfl rfl ?_
  simp only [w_X12_count_0, w_X12_count_1, w_X12_count_2, w_X12_count_5, w_X12_count_6, pm_1i_c, pm_2i_c, pm_1l_c, pm_2l_c, pm_1a_c, pm_ia_c, pm_iia_c, pm_va_c, pm_cp_c, pm_k0_c, pm_k1_c, pm_k2_c, pm_k3_c, pm_s1_c, pm_s2_c, pm_s3_c, pm_s4_c, pm_ri_c, pm_ra_c, pm_rn_c, pm_rk_i, pm_rk_z, pm_rk_a, pm_vk_i, pm_vk_z, pm_vk_a, pm_cti, pm_ctr, pm_ldi_z, pm_ldi_s, pm_lda_z, pm_lda_s, pm_cat_n, pm_cat_i, pm_cat_r, pm_cat_l, pm_obj, pm_arr, pm_opt, pm_ird, pm_aln, List.getElem?_cons_zero, List.getElem?_cons_succ, List.set_cons_zero, List.set_cons_succ, List.length_cons, List.length_nil, List.length_set, true_and, and_true, Nat.add_zero, Nat.zero_add, Nat.le_refl, Nat.reduceAdd, Nat.reduceLT, Nat.reduceLeDiff, Nat.zero_le, not_false_eq_true, not_true_eq_false, false_implies, implies_true, true_implies, Nat.zero_lt_succ, Nat.lt_add_one, H0, e1, l1, pm_sw_c, pm_sw_n, Int32.reduceAdd]
  unfold cntF
  refine ⟨fun c0 => ?_, fun c0 => ?_⟩
  · rw [if_pos c0]
    simp only [w_X12_count_104, w_X12_count_105, w_X12_count_108, w_X12_count_111, w_X12_count_112, pm_1i_c, pm_2i_c, pm_1l_c, pm_2l_c, pm_1a_c, pm_ia_c, pm_iia_c, pm_va_c, pm_cp_c, pm_k0_c, pm_k1_c, pm_k2_c, pm_k3_c, pm_s1_c, pm_s2_c, pm_s3_c, pm_s4_c, pm_ri_c, pm_ra_c, pm_rn_c, pm_rk_i, pm_rk_z, pm_rk_a, pm_vk_i, pm_vk_z, pm_vk_a, pm_cti, pm_ctr, pm_ldi_z, pm_ldi_s, pm_lda_z, pm_lda_s, pm_cat_n, pm_cat_i, pm_cat_r, pm_cat_l, pm_obj, pm_arr, pm_opt, pm_ird, pm_aln, List.getElem?_cons_zero, List.getElem?_cons_succ, List.set_cons_zero, List.set_cons_succ, List.length_cons, List.length_nil, List.length_set, true_and, and_true, Nat.add_zero, Nat.zero_add, Nat.le_refl, Nat.reduceAdd, Nat.reduceLT, Nat.reduceLeDiff, Nat.zero_le, not_false_eq_true, not_true_eq_false, false_implies, implies_true, true_implies, Nat.zero_lt_succ, Nat.lt_add_one, H1, l1, Hf, ix_1672, vi_1672, s2]
    exact rq_T (C1.q F1)
  rw [if_neg c0]
  refine ⟨fun c0 => ?_, fun c0 => ?_⟩
  · rw [if_pos c0]
    simp only [w_X12_count_113, w_X12_count_114, w_X12_count_117, w_X12_count_120, w_X12_count_121, pm_1i_c, pm_2i_c, pm_1l_c, pm_2l_c, pm_1a_c, pm_ia_c, pm_iia_c, pm_va_c, pm_cp_c, pm_k0_c, pm_k1_c, pm_k2_c, pm_k3_c, pm_s1_c, pm_s2_c, pm_s3_c, pm_s4_c, pm_ri_c, pm_ra_c, pm_rn_c, pm_rk_i, pm_rk_z, pm_rk_a, pm_vk_i, pm_vk_z, pm_vk_a, pm_cti, pm_ctr, pm_ldi_z, pm_ldi_s, pm_lda_z, pm_lda_s, pm_cat_n, pm_cat_i, pm_cat_r, pm_cat_l, pm_obj, pm_arr, pm_opt, pm_ird, pm_aln, List.getElem?_cons_zero, List.getElem?_cons_succ, List.set_cons_zero, List.set_cons_succ, List.length_cons, List.length_nil, List.length_set, true_and, and_true, Nat.add_zero, Nat.zero_add, Nat.le_refl, Nat.reduceAdd, Nat.reduceLT, Nat.reduceLeDiff, Nat.zero_le, not_false_eq_true, not_true_eq_false, false_implies, implies_true, true_implies, Nat.zero_lt_succ, Nat.lt_add_one, H1, l1, Hf, ix_1673, vi_1673, s3]
    exact rq_T (C1.q F1)
  rw [if_neg c0]
  refine ⟨fun c0 => ?_, fun c0 => ?_⟩
  · rw [if_pos c0]
    simp only [w_X12_count_122, w_X12_count_123, w_X12_count_126, w_X12_count_129, w_X12_count_130, pm_1i_c, pm_2i_c, pm_1l_c, pm_2l_c, pm_1a_c, pm_ia_c, pm_iia_c, pm_va_c, pm_cp_c, pm_k0_c, pm_k1_c, pm_k2_c, pm_k3_c, pm_s1_c, pm_s2_c, pm_s3_c, pm_s4_c, pm_ri_c, pm_ra_c, pm_rn_c, pm_rk_i, pm_rk_z, pm_rk_a, pm_vk_i, pm_vk_z, pm_vk_a, pm_cti, pm_ctr, pm_ldi_z, pm_ldi_s, pm_lda_z, pm_lda_s, pm_cat_n, pm_cat_i, pm_cat_r, pm_cat_l, pm_obj, pm_arr, pm_opt, pm_ird, pm_aln, List.getElem?_cons_zero, List.getElem?_cons_succ, List.set_cons_zero, List.set_cons_succ, List.length_cons, List.length_nil, List.length_set, true_and, and_true, Nat.add_zero, Nat.zero_add, Nat.le_refl, Nat.reduceAdd, Nat.reduceLT, Nat.reduceLeDiff, Nat.zero_le, not_false_eq_true, not_true_eq_false, false_implies, implies_true, true_implies, Nat.zero_lt_succ, Nat.lt_add_one, H1, l1, Hf, ix_1674, vi_1674, s4]
    exact rq_T (C1.q F1)
  rw [if_neg c0]
  refine ⟨fun c0 => ?_, fun c0 => ?_⟩
  · rw [if_pos c0]
    simp only [w_X12_count_131, w_X12_count_132, w_X12_count_135, w_X12_count_138, w_X12_count_139, pm_1i_c, pm_2i_c, pm_1l_c, pm_2l_c, pm_1a_c, pm_ia_c, pm_iia_c, pm_va_c, pm_cp_c, pm_k0_c, pm_k1_c, pm_k2_c, pm_k3_c, pm_s1_c, pm_s2_c, pm_s3_c, pm_s4_c, pm_ri_c, pm_ra_c, pm_rn_c, pm_rk_i, pm_rk_z, pm_rk_a, pm_vk_i, pm_vk_z, pm_vk_a, pm_cti, pm_ctr, pm_ldi_z, pm_ldi_s, pm_lda_z, pm_lda_s, pm_cat_n, pm_cat_i, pm_cat_r, pm_cat_l, pm_obj, pm_arr, pm_opt, pm_ird, pm_aln, List.getElem?_cons_zero, List.getElem?_cons_succ, List.set_cons_zero, List.set_cons_succ, List.length_cons, List.length_nil, List.length_set, true_and, and_true, Nat.add_zero, Nat.zero_add, Nat.le_refl, Nat.reduceAdd, Nat.reduceLT, Nat.reduceLeDiff, Nat.zero_le, not_false_eq_true, not_true_eq_false, false_implies, implies_true, true_implies, Nat.zero_lt_succ, Nat.lt_add_one, H1, l1, Hf, ix_1675, vi_1675, s5]
    exact rq_T (C1.q F1)
  rw [if_neg c0]
  refine ⟨fun c0 => ?_, fun c0 => ?_⟩
  · rw [if_pos c0]
    simp only [w_X12_count_140, w_X12_count_141, w_X12_count_144, w_X12_count_147, w_X12_count_148, pm_1i_c, pm_2i_c, pm_1l_c, pm_2l_c, pm_1a_c, pm_ia_c, pm_iia_c, pm_va_c, pm_cp_c, pm_k0_c, pm_k1_c, pm_k2_c, pm_k3_c, pm_s1_c, pm_s2_c, pm_s3_c, pm_s4_c, pm_ri_c, pm_ra_c, pm_rn_c, pm_rk_i, pm_rk_z, pm_rk_a, pm_vk_i, pm_vk_z, pm_vk_a, pm_cti, pm_ctr, pm_ldi_z, pm_ldi_s, pm_lda_z, pm_lda_s, pm_cat_n, pm_cat_i, pm_cat_r, pm_cat_l, pm_obj, pm_arr, pm_opt, pm_ird, pm_aln, List.getElem?_cons_zero, List.getElem?_cons_succ, List.set_cons_zero, List.set_cons_succ, List.length_cons, List.length_nil, List.length_set, true_and, and_true, Nat.add_zero, Nat.zero_add, Nat.le_refl, Nat.reduceAdd, Nat.reduceLT, Nat.reduceLeDiff, Nat.zero_le, not_false_eq_true, not_true_eq_false, false_implies, implies_true, true_implies, Nat.zero_lt_succ, Nat.lt_add_one, H1, l1, Hf, ix_1670, vi_1670, s0]
    exact rq_T (C1.q F1)
  rw [if_neg c0]
  refine ⟨fun c0 => ?_, fun c0 => ?_⟩
  · rw [if_pos c0]
    simp only [w_X12_count_149, w_X12_count_150, w_X12_count_153, w_X12_count_156, w_X12_count_157, pm_1i_c, pm_2i_c, pm_1l_c, pm_2l_c, pm_1a_c, pm_ia_c, pm_iia_c, pm_va_c, pm_cp_c, pm_k0_c, pm_k1_c, pm_k2_c, pm_k3_c, pm_s1_c, pm_s2_c, pm_s3_c, pm_s4_c, pm_ri_c, pm_ra_c, pm_rn_c, pm_rk_i, pm_rk_z, pm_rk_a, pm_vk_i, pm_vk_z, pm_vk_a, pm_cti, pm_ctr, pm_ldi_z, pm_ldi_s, pm_lda_z, pm_lda_s, pm_cat_n, pm_cat_i, pm_cat_r, pm_cat_l, pm_obj, pm_arr, pm_opt, pm_ird, pm_aln, List.getElem?_cons_zero, List.getElem?_cons_succ, List.set_cons_zero, List.set_cons_succ, List.length_cons, List.length_nil, List.length_set, true_and, and_true, Nat.add_zero, Nat.zero_add, Nat.le_refl, Nat.reduceAdd, Nat.reduceLT, Nat.reduceLeDiff, Nat.zero_le, not_false_eq_true, not_true_eq_false, false_implies, implies_true, true_implies, Nat.zero_lt_succ, Nat.lt_add_one, H1, l1, Hf, ix_1671, vi_1671, s1]
    exact rq_T (C1.q F1)
  rw [if_neg c0]
  refine ⟨fun c0 => ?_, fun c0 => ?_⟩
  · rw [if_pos c0]
    simp only [w_X12_count_158, w_X12_count_159, w_X12_count_160, pm_1i_c, pm_2i_c, pm_1l_c, pm_2l_c, pm_1a_c, pm_ia_c, pm_iia_c, pm_va_c, pm_cp_c, pm_k0_c, pm_k1_c, pm_k2_c, pm_k3_c, pm_s1_c, pm_s2_c, pm_s3_c, pm_s4_c, pm_ri_c, pm_ra_c, pm_rn_c, pm_rk_i, pm_rk_z, pm_rk_a, pm_vk_i, pm_vk_z, pm_vk_a, pm_cti, pm_ctr, pm_ldi_z, pm_ldi_s, pm_lda_z, pm_lda_s, pm_cat_n, pm_cat_i, pm_cat_r, pm_cat_l, pm_obj, pm_arr, pm_opt, pm_ird, pm_aln, List.getElem?_cons_zero, List.getElem?_cons_succ, List.set_cons_zero, List.set_cons_succ, List.length_cons, List.length_nil, List.length_set, true_and, and_true, Nat.add_zero, Nat.zero_add, Nat.le_refl, Nat.reduceAdd, Nat.reduceLT, Nat.reduceLeDiff, Nat.zero_le, not_false_eq_true, not_true_eq_false, false_implies, implies_true, true_implies, Nat.zero_lt_succ, Nat.lt_add_one, H1, l1]
    refine PM_use (c_M_many C1.md (p := 1) (by omega) (by omega) (d + 1)) ?_
    rintro v g1 k1 ⟨rfl, rfl⟩
    show W_X12_count _ _ _ _ _ _ _ _ _
    simp only [w_X12_count_163, w_X12_count_164, pm_1i_c, pm_2i_c, pm_1l_c, pm_2l_c, pm_1a_c, pm_ia_c, pm_iia_c, pm_va_c, pm_cp_c, pm_k0_c, pm_k1_c, pm_k2_c, pm_k3_c, pm_s1_c, pm_s2_c, pm_s3_c, pm_s4_c, pm_ri_c, pm_ra_c, pm_rn_c, pm_rk_i, pm_rk_z, pm_rk_a, pm_vk_i, pm_vk_z, pm_vk_a, pm_cti, pm_ctr, pm_ldi_z, pm_ldi_s, pm_lda_z, pm_lda_s, pm_cat_n, pm_cat_i, pm_cat_r, pm_cat_l, pm_obj, pm_arr, pm_opt, pm_ird, pm_aln, List.getElem?_cons_zero, List.getElem?_cons_succ, List.set_cons_zero, List.set_cons_succ, List.length_cons, List.length_nil, List.length_set, true_and, and_true, Nat.add_zero, Nat.zero_add, Nat.le_refl, Nat.reduceAdd, Nat.reduceLT, Nat.reduceLeDiff, Nat.zero_le, not_false_eq_true, not_true_eq_false, false_implies, implies_true, true_implies, Nat.zero_lt_succ, Nat.lt_add_one, pm_tl_n, pm_tl_s, sc_uL, H1, l1]
    refine PM_use (c_M_mainMany C1.md d) ?_
    rintro v g1 k1 ⟨rfl, rfl⟩
    show W_X12_count _ _ _ _ _ _ _ _ _
    simp only [w_X12_count_167, w_X12_count_168, pm_1i_c, pm_2i_c, pm_1l_c, pm_2l_c, pm_1a_c, pm_ia_c, pm_iia_c, pm_va_c, pm_cp_c, pm_k0_c, pm_k1_c, pm_k2_c, pm_k3_c, pm_s1_c, pm_s2_c, pm_s3_c, pm_s4_c, pm_ri_c, pm_ra_c, pm_rn_c, pm_rk_i, pm_rk_z, pm_rk_a, pm_vk_i, pm_vk_z, pm_vk_a, pm_cti, pm_ctr, pm_ldi_z, pm_ldi_s, pm_lda_z, pm_lda_s, pm_cat_n, pm_cat_i, pm_cat_r, pm_cat_l, pm_obj, pm_arr, pm_opt, pm_ird, pm_aln, List.getElem?_cons_zero, List.getElem?_cons_succ, List.set_cons_zero, List.set_cons_succ, List.length_cons, List.length_nil, List.length_set, true_and, and_true, Nat.add_zero, Nat.zero_add, Nat.le_refl, Nat.reduceAdd, Nat.reduceLT, Nat.reduceLeDiff, Nat.zero_le, not_false_eq_true, not_true_eq_false, false_implies, implies_true, true_implies, Nat.zero_lt_succ, Nat.lt_add_one, pm_tl_n, pm_tl_s, sc_uL, l1]
    rw [Int32.add_assoc]
    exact rq_T (C1.q F1)
  rw [if_neg c0]
  refine ⟨fun c0 => ?_, fun c0 => ?_⟩
  · rw [if_pos c0]
    simp only [w_X12_count_169, w_X12_count_170, w_X12_count_173, w_X12_count_176, w_X12_count_177, pm_1i_c, pm_2i_c, pm_1l_c, pm_2l_c, pm_1a_c, pm_ia_c, pm_iia_c, pm_va_c, pm_cp_c, pm_k0_c, pm_k1_c, pm_k2_c, pm_k3_c, pm_s1_c, pm_s2_c, pm_s3_c, pm_s4_c, pm_ri_c, pm_ra_c, pm_rn_c, pm_rk_i, pm_rk_z, pm_rk_a, pm_vk_i, pm_vk_z, pm_vk_a, pm_cti, pm_ctr, pm_ldi_z, pm_ldi_s, pm_lda_z, pm_lda_s, pm_cat_n, pm_cat_i, pm_cat_r, pm_cat_l, pm_obj, pm_arr, pm_opt, pm_ird, pm_aln, List.getElem?_cons_zero, List.getElem?_cons_succ, List.set_cons_zero, List.set_cons_succ, List.length_cons, List.length_nil, List.length_set, true_and, and_true, Nat.add_zero, Nat.zero_add, Nat.le_refl, Nat.reduceAdd, Nat.reduceLT, Nat.reduceLeDiff, Nat.zero_le, not_false_eq_true, not_true_eq_false, false_implies, implies_true, true_implies, Nat.zero_lt_succ, Nat.lt_add_one, H1, l1, Hf, ix_1679, vi_1679, s9]
    exact rq_T (C1.q F1)
  rw [if_neg c0]
  refine ⟨fun c0 => ?_, fun c0 => ?_⟩
  · rw [if_pos c0]
    simp only [w_X12_count_178, w_X12_count_179, w_X12_count_182, w_X12_count_185, w_X12_count_186, pm_1i_c, pm_2i_c, pm_1l_c, pm_2l_c, pm_1a_c, pm_ia_c, pm_iia_c, pm_va_c, pm_cp_c, pm_k0_c, pm_k1_c, pm_k2_c, pm_k3_c, pm_s1_c, pm_s2_c, pm_s3_c, pm_s4_c, pm_ri_c, pm_ra_c, pm_rn_c, pm_rk_i, pm_rk_z, pm_rk_a, pm_vk_i, pm_vk_z, pm_vk_a, pm_cti, pm_ctr, pm_ldi_z, pm_ldi_s, pm_lda_z, pm_lda_s, pm_cat_n, pm_cat_i, pm_cat_r, pm_cat_l, pm_obj, pm_arr, pm_opt, pm_ird, pm_aln, List.getElem?_cons_zero, List.getElem?_cons_succ, List.set_cons_zero, List.set_cons_succ, List.length_cons, List.length_nil, List.length_set, true_and, and_true, Nat.add_zero, Nat.zero_add, Nat.le_refl, Nat.reduceAdd, Nat.reduceLT, Nat.reduceLeDiff, Nat.zero_le, not_false_eq_true, not_true_eq_false, false_implies, implies_true, true_implies, Nat.zero_lt_succ, Nat.lt_add_one, H1, l1, Hf, ix_1678, vi_1678, s8]
    exact rq_T (C1.q F1)
  rw [if_neg c0]
  refine ⟨fun c0 => ?_, fun c0 => ?_⟩
  · rw [if_pos c0]
    simp only [w_X12_count_187, w_X12_count_188, w_X12_count_191, w_X12_count_194, w_X12_count_195, pm_1i_c, pm_2i_c, pm_1l_c, pm_2l_c, pm_1a_c, pm_ia_c, pm_iia_c, pm_va_c, pm_cp_c, pm_k0_c, pm_k1_c, pm_k2_c, pm_k3_c, pm_s1_c, pm_s2_c, pm_s3_c, pm_s4_c, pm_ri_c, pm_ra_c, pm_rn_c, pm_rk_i, pm_rk_z, pm_rk_a, pm_vk_i, pm_vk_z, pm_vk_a, pm_cti, pm_ctr, pm_ldi_z, pm_ldi_s, pm_lda_z, pm_lda_s, pm_cat_n, pm_cat_i, pm_cat_r, pm_cat_l, pm_obj, pm_arr, pm_opt, pm_ird, pm_aln, List.getElem?_cons_zero, List.getElem?_cons_succ, List.set_cons_zero, List.set_cons_succ, List.length_cons, List.length_nil, List.length_set, true_and, and_true, Nat.add_zero, Nat.zero_add, Nat.le_refl, Nat.reduceAdd, Nat.reduceLT, Nat.reduceLeDiff, Nat.zero_le, not_false_eq_true, not_true_eq_false, false_implies, implies_true, true_implies, Nat.zero_lt_succ, Nat.lt_add_one, H1, l1, Hf, ix_1680, vi_1680, s10]
    exact rq_T (C1.q F1)
  rw [if_neg c0]
  unfold cntG
  refine ⟨fun c0 => ?_, fun c0 => ?_⟩
  · rw [if_pos c0]
    simp only [w_X12_count_196, w_X12_count_197, w_X12_count_200, w_X12_count_203, w_X12_count_204, pm_1i_c, pm_2i_c, pm_1l_c, pm_2l_c, pm_1a_c, pm_ia_c, pm_iia_c, pm_va_c, pm_cp_c, pm_k0_c, pm_k1_c, pm_k2_c, pm_k3_c, pm_s1_c, pm_s2_c, pm_s3_c, pm_s4_c, pm_ri_c, pm_ra_c, pm_rn_c, pm_rk_i, pm_rk_z, pm_rk_a, pm_vk_i, pm_vk_z, pm_vk_a, pm_cti, pm_ctr, pm_ldi_z, pm_ldi_s, pm_lda_z, pm_lda_s, pm_cat_n, pm_cat_i, pm_cat_r, pm_cat_l, pm_obj, pm_arr, pm_opt, pm_ird, pm_aln, List.getElem?_cons_zero, List.getElem?_cons_succ, List.set_cons_zero, List.set_cons_succ, List.length_cons, List.length_nil, List.length_set, true_and, and_true, Nat.add_zero, Nat.zero_add, Nat.le_refl, Nat.reduceAdd, Nat.reduceLT, Nat.reduceLeDiff, Nat.zero_le, not_false_eq_true, not_true_eq_false, false_implies, implies_true, true_implies, Nat.zero_lt_succ, Nat.lt_add_one, H1, l1, Hf, ix_1681, vi_1681, s11]
    exact rq_T (C1.q F1)
  rw [if_neg c0]
  refine ⟨fun c0 => ?_, fun c0 => ?_⟩
  · rw [if_pos c0]
    simp only [w_X12_count_205, w_X12_count_206, w_X12_count_209, w_X12_count_212, w_X12_count_213, pm_1i_c, pm_2i_c, pm_1l_c, pm_2l_c, pm_1a_c, pm_ia_c, pm_iia_c, pm_va_c, pm_cp_c, pm_k0_c, pm_k1_c, pm_k2_c, pm_k3_c, pm_s1_c, pm_s2_c, pm_s3_c, pm_s4_c, pm_ri_c, pm_ra_c, pm_rn_c, pm_rk_i, pm_rk_z, pm_rk_a, pm_vk_i, pm_vk_z, pm_vk_a, pm_cti, pm_ctr, pm_ldi_z, pm_ldi_s, pm_lda_z, pm_lda_s, pm_cat_n, pm_cat_i, pm_cat_r, pm_cat_l, pm_obj, pm_arr, pm_opt, pm_ird, pm_aln, List.getElem?_cons_zero, List.getElem?_cons_succ, List.set_cons_zero, List.set_cons_succ, List.length_cons, List.length_nil, List.length_set, true_and, and_true, Nat.add_zero, Nat.zero_add, Nat.le_refl, Nat.reduceAdd, Nat.reduceLT, Nat.reduceLeDiff, Nat.zero_le, not_false_eq_true, not_true_eq_false, false_implies, implies_true, true_implies, Nat.zero_lt_succ, Nat.lt_add_one, H1, l1, Hf, ix_1682, vi_1682, s12]
    exact rq_T (C1.q F1)
  rw [if_neg c0]
  refine ⟨fun c0 => ?_, fun c0 => ?_⟩
  · rw [if_pos c0]
    simp only [w_X12_count_214, w_X12_count_215, w_X12_count_218, w_X12_count_221, w_X12_count_222, pm_1i_c, pm_2i_c, pm_1l_c, pm_2l_c, pm_1a_c, pm_ia_c, pm_iia_c, pm_va_c, pm_cp_c, pm_k0_c, pm_k1_c, pm_k2_c, pm_k3_c, pm_s1_c, pm_s2_c, pm_s3_c, pm_s4_c, pm_ri_c, pm_ra_c, pm_rn_c, pm_rk_i, pm_rk_z, pm_rk_a, pm_vk_i, pm_vk_z, pm_vk_a, pm_cti, pm_ctr, pm_ldi_z, pm_ldi_s, pm_lda_z, pm_lda_s, pm_cat_n, pm_cat_i, pm_cat_r, pm_cat_l, pm_obj, pm_arr, pm_opt, pm_ird, pm_aln, List.getElem?_cons_zero, List.getElem?_cons_succ, List.set_cons_zero, List.set_cons_succ, List.length_cons, List.length_nil, List.length_set, true_and, and_true, Nat.add_zero, Nat.zero_add, Nat.le_refl, Nat.reduceAdd, Nat.reduceLT, Nat.reduceLeDiff, Nat.zero_le, not_false_eq_true, not_true_eq_false, false_implies, implies_true, true_implies, Nat.zero_lt_succ, Nat.lt_add_one, H1, l1, Hf, ix_1683, vi_1683, s13]
    exact rq_T (C1.q F1)
  rw [if_neg c0]
  refine ⟨fun c0 => ?_, fun c0 => ?_⟩
  · rw [if_pos c0]
    simp only [w_X12_count_223, w_X12_count_224, w_X12_count_227, w_X12_count_230, w_X12_count_231, pm_1i_c, pm_2i_c, pm_1l_c, pm_2l_c, pm_1a_c, pm_ia_c, pm_iia_c, pm_va_c, pm_cp_c, pm_k0_c, pm_k1_c, pm_k2_c, pm_k3_c, pm_s1_c, pm_s2_c, pm_s3_c, pm_s4_c, pm_ri_c, pm_ra_c, pm_rn_c, pm_rk_i, pm_rk_z, pm_rk_a, pm_vk_i, pm_vk_z, pm_vk_a, pm_cti, pm_ctr, pm_ldi_z, pm_ldi_s, pm_lda_z, pm_lda_s, pm_cat_n, pm_cat_i, pm_cat_r, pm_cat_l, pm_obj, pm_arr, pm_opt, pm_ird, pm_aln, List.getElem?_cons_zero, List.getElem?_cons_succ, List.set_cons_zero, List.set_cons_succ, List.length_cons, List.length_nil, List.length_set, true_and, and_true, Nat.add_zero, Nat.zero_add, Nat.le_refl, Nat.reduceAdd, Nat.reduceLT, Nat.reduceLeDiff, Nat.zero_le, not_false_eq_true, not_true_eq_false, false_implies, implies_true, true_implies, Nat.zero_lt_succ, Nat.lt_add_one, H1, l1, Hf, ix_1684, vi_1684, s14]
    have : (if sc A 14 = 0 then (0 : Int32) else 1) = sc A 14 := by
      rcases V.2.1 with z | z
      · rw [if_pos z, z]
      · rw [if_neg (by rw [z]; exact one0), z]
    rw [this]
    exact rq_T (C1.q F1)
  rw [if_neg c0]
  refine ⟨fun c0 => ?_, fun c0 => ?_⟩
  · rw [if_pos c0]
    simp only [w_X12_count_232, w_X12_count_233, w_X12_count_236, w_X12_count_239, w_X12_count_240, pm_1i_c, pm_2i_c, pm_1l_c, pm_2l_c, pm_1a_c, pm_ia_c, pm_iia_c, pm_va_c, pm_cp_c, pm_k0_c, pm_k1_c, pm_k2_c, pm_k3_c, pm_s1_c, pm_s2_c, pm_s3_c, pm_s4_c, pm_ri_c, pm_ra_c, pm_rn_c, pm_rk_i, pm_rk_z, pm_rk_a, pm_vk_i, pm_vk_z, pm_vk_a, pm_cti, pm_ctr, pm_ldi_z, pm_ldi_s, pm_lda_z, pm_lda_s, pm_cat_n, pm_cat_i, pm_cat_r, pm_cat_l, pm_obj, pm_arr, pm_opt, pm_ird, pm_aln, List.getElem?_cons_zero, List.getElem?_cons_succ, List.set_cons_zero, List.set_cons_succ, List.length_cons, List.length_nil, List.length_set, true_and, and_true, Nat.add_zero, Nat.zero_add, Nat.le_refl, Nat.reduceAdd, Nat.reduceLT, Nat.reduceLeDiff, Nat.zero_le, not_false_eq_true, not_true_eq_false, false_implies, implies_true, true_implies, Nat.zero_lt_succ, Nat.lt_add_one, H1, l1]
    refine PM_use (c_M_sumOf C1.md Hf (a := 1024) (n := 256) (by omega) (Or.inr rfl) (d + 2)) ?_
    rintro v g1 k1 ⟨rfl, rfl⟩
    have e : smF (fun k => if (1 : Int32) = 0 then (if f (1024 + k) = 0 then 0 else 1) else f (1024 + k)) 256 = smF (fun k => if nt A k = 0 then 0 else 1) 256 := smF_c fun k hk => by
      rw [if_neg one0, Rf.n hk]
      rcases V.2.2 k hk with z | z
      · rw [if_pos z, z]
      · rw [if_neg (by rw [z]; exact one0), z]
    rw [e]
    show W_X12_count _ _ _ _ _ _ _ _ _
    simp only [w_X12_count_243, pm_1i_c, pm_2i_c, pm_1l_c, pm_2l_c, pm_1a_c, pm_ia_c, pm_iia_c, pm_va_c, pm_cp_c, pm_k0_c, pm_k1_c, pm_k2_c, pm_k3_c, pm_s1_c, pm_s2_c, pm_s3_c, pm_s4_c, pm_ri_c, pm_ra_c, pm_rn_c, pm_rk_i, pm_rk_z, pm_rk_a, pm_vk_i, pm_vk_z, pm_vk_a, pm_cti, pm_ctr, pm_ldi_z, pm_ldi_s, pm_lda_z, pm_lda_s, pm_cat_n, pm_cat_i, pm_cat_r, pm_cat_l, pm_obj, pm_arr, pm_opt, pm_ird, pm_aln, List.getElem?_cons_zero, List.getElem?_cons_succ, List.set_cons_zero, List.set_cons_succ, List.length_cons, List.length_nil, List.length_set, true_and, and_true, Nat.add_zero, Nat.zero_add, Nat.le_refl, Nat.reduceAdd, Nat.reduceLT, Nat.reduceLeDiff, Nat.zero_le, not_false_eq_true, not_true_eq_false, false_implies, implies_true, true_implies, Nat.zero_lt_succ, Nat.lt_add_one, pm_tl_n, pm_tl_s, sc_uL, l1]
    exact rq_T (C1.q F1)
  rw [if_neg c0]
  refine ⟨fun c0 => ?_, fun c0 => ?_⟩
  · rw [if_pos c0]
    simp only [w_X12_count_244, w_X12_count_245, w_X12_count_246, w_X12_count_249, w_X12_count_250, pm_1i_c, pm_2i_c, pm_1l_c, pm_2l_c, pm_1a_c, pm_ia_c, pm_iia_c, pm_va_c, pm_cp_c, pm_k0_c, pm_k1_c, pm_k2_c, pm_k3_c, pm_s1_c, pm_s2_c, pm_s3_c, pm_s4_c, pm_ri_c, pm_ra_c, pm_rn_c, pm_rk_i, pm_rk_z, pm_rk_a, pm_vk_i, pm_vk_z, pm_vk_a, pm_cti, pm_ctr, pm_ldi_z, pm_ldi_s, pm_lda_z, pm_lda_s, pm_cat_n, pm_cat_i, pm_cat_r, pm_cat_l, pm_obj, pm_arr, pm_opt, pm_ird, pm_aln, List.getElem?_cons_zero, List.getElem?_cons_succ, List.set_cons_zero, List.set_cons_succ, List.length_cons, List.length_nil, List.length_set, true_and, and_true, Nat.add_zero, Nat.zero_add, Nat.le_refl, Nat.reduceAdd, Nat.reduceLT, Nat.reduceLeDiff, Nat.zero_le, not_false_eq_true, not_true_eq_false, false_implies, implies_true, true_implies, Nat.zero_lt_succ, Nat.lt_add_one, H1, l1]
    refine PM_use (c_M_sumOf C1.md Hf (a := 0) (n := 1024) (by omega) (Or.inl rfl) (d + 2)) ?_
    rintro v g1 k1 ⟨rfl, rfl⟩
    have e : smF (fun k => if (0 : Int32) = 0 then (if f (0 + k) = 0 then 0 else 1) else f (0 + k)) 1024 = smF (fun k => if cn A k = 0 then 0 else 1) 1024 := smF_c fun k hk => by
      rw [if_pos rfl, Nat.zero_add, Rf.c hk]
    rw [e]
    show W_X12_count _ _ _ _ _ _ _ _ _
    simp only [w_X12_count_253, pm_1i_c, pm_2i_c, pm_1l_c, pm_2l_c, pm_1a_c, pm_ia_c, pm_iia_c, pm_va_c, pm_cp_c, pm_k0_c, pm_k1_c, pm_k2_c, pm_k3_c, pm_s1_c, pm_s2_c, pm_s3_c, pm_s4_c, pm_ri_c, pm_ra_c, pm_rn_c, pm_rk_i, pm_rk_z, pm_rk_a, pm_vk_i, pm_vk_z, pm_vk_a, pm_cti, pm_ctr, pm_ldi_z, pm_ldi_s, pm_lda_z, pm_lda_s, pm_cat_n, pm_cat_i, pm_cat_r, pm_cat_l, pm_obj, pm_arr, pm_opt, pm_ird, pm_aln, List.getElem?_cons_zero, List.getElem?_cons_succ, List.set_cons_zero, List.set_cons_succ, List.length_cons, List.length_nil, List.length_set, true_and, and_true, Nat.add_zero, Nat.zero_add, Nat.le_refl, Nat.reduceAdd, Nat.reduceLT, Nat.reduceLeDiff, Nat.zero_le, not_false_eq_true, not_true_eq_false, false_implies, implies_true, true_implies, Nat.zero_lt_succ, Nat.lt_add_one, pm_tl_n, pm_tl_s, sc_uL, l1]
    exact rq_T (C1.q F1)
  rw [if_neg c0]
  refine ⟨fun c0 => ?_, fun c0 => ?_⟩
  · rw [if_pos c0]
    simp only [w_X12_count_254, w_X12_count_255, w_X12_count_256, w_X12_count_259, w_X12_count_260, pm_1i_c, pm_2i_c, pm_1l_c, pm_2l_c, pm_1a_c, pm_ia_c, pm_iia_c, pm_va_c, pm_cp_c, pm_k0_c, pm_k1_c, pm_k2_c, pm_k3_c, pm_s1_c, pm_s2_c, pm_s3_c, pm_s4_c, pm_ri_c, pm_ra_c, pm_rn_c, pm_rk_i, pm_rk_z, pm_rk_a, pm_vk_i, pm_vk_z, pm_vk_a, pm_cti, pm_ctr, pm_ldi_z, pm_ldi_s, pm_lda_z, pm_lda_s, pm_cat_n, pm_cat_i, pm_cat_r, pm_cat_l, pm_obj, pm_arr, pm_opt, pm_ird, pm_aln, List.getElem?_cons_zero, List.getElem?_cons_succ, List.set_cons_zero, List.set_cons_succ, List.length_cons, List.length_nil, List.length_set, true_and, and_true, Nat.add_zero, Nat.zero_add, Nat.le_refl, Nat.reduceAdd, Nat.reduceLT, Nat.reduceLeDiff, Nat.zero_le, not_false_eq_true, not_true_eq_false, false_implies, implies_true, true_implies, Nat.zero_lt_succ, Nat.lt_add_one, H1, l1]
    refine PM_use (c_M_sumOf C1.md Hf (a := 0) (n := 1024) (by omega) (Or.inr rfl) (d + 2)) ?_
    rintro v g1 k1 ⟨rfl, rfl⟩
    have e : smF (fun k => if (1 : Int32) = 0 then (if f (0 + k) = 0 then 0 else 1) else f (0 + k)) 1024 = smF (cn A) 1024 := smF_c fun k hk => by
      rw [if_neg one0, Nat.zero_add, Rf.c hk]
    rw [e]
    show W_X12_count _ _ _ _ _ _ _ _ _
    simp only [w_X12_count_263, pm_1i_c, pm_2i_c, pm_1l_c, pm_2l_c, pm_1a_c, pm_ia_c, pm_iia_c, pm_va_c, pm_cp_c, pm_k0_c, pm_k1_c, pm_k2_c, pm_k3_c, pm_s1_c, pm_s2_c, pm_s3_c, pm_s4_c, pm_ri_c, pm_ra_c, pm_rn_c, pm_rk_i, pm_rk_z, pm_rk_a, pm_vk_i, pm_vk_z, pm_vk_a, pm_cti, pm_ctr, pm_ldi_z, pm_ldi_s, pm_lda_z, pm_lda_s, pm_cat_n, pm_cat_i, pm_cat_r, pm_cat_l, pm_obj, pm_arr, pm_opt, pm_ird, pm_aln, List.getElem?_cons_zero, List.getElem?_cons_succ, List.set_cons_zero, List.set_cons_succ, List.length_cons, List.length_nil, List.length_set, true_and, and_true, Nat.add_zero, Nat.zero_add, Nat.le_refl, Nat.reduceAdd, Nat.reduceLT, Nat.reduceLeDiff, Nat.zero_le, not_false_eq_true, not_true_eq_false, false_implies, implies_true, true_implies, Nat.zero_lt_succ, Nat.lt_add_one, pm_tl_n, pm_tl_s, sc_uL, l1]
    exact rq_T (C1.q F1)
  rw [if_neg c0]
  refine ⟨fun c0 => ?_, fun c0 => ?_⟩
  · rw [if_pos c0]
    simp only [w_X12_count_264, w_X12_count_265, pm_1i_c, pm_2i_c, pm_1l_c, pm_2l_c, pm_1a_c, pm_ia_c, pm_iia_c, pm_va_c, pm_cp_c, pm_k0_c, pm_k1_c, pm_k2_c, pm_k3_c, pm_s1_c, pm_s2_c, pm_s3_c, pm_s4_c, pm_ri_c, pm_ra_c, pm_rn_c, pm_rk_i, pm_rk_z, pm_rk_a, pm_vk_i, pm_vk_z, pm_vk_a, pm_cti, pm_ctr, pm_ldi_z, pm_ldi_s, pm_lda_z, pm_lda_s, pm_cat_n, pm_cat_i, pm_cat_r, pm_cat_l, pm_obj, pm_arr, pm_opt, pm_ird, pm_aln, List.getElem?_cons_zero, List.getElem?_cons_succ, List.set_cons_zero, List.set_cons_succ, List.length_cons, List.length_nil, List.length_set, true_and, and_true, Nat.add_zero, Nat.zero_add, Nat.le_refl, Nat.reduceAdd, Nat.reduceLT, Nat.reduceLeDiff, Nat.zero_le, not_false_eq_true, not_true_eq_false, false_implies, implies_true, true_implies, Nat.zero_lt_succ, Nat.lt_add_one, H1, l1]
    refine PM_use (c_M_pastMany C1.md (d + 2)) ?_
    rintro v g1 k1 ⟨rfl, rfl⟩
    show W_X12_count _ _ _ _ _ _ _ _ _
    simp only [w_X12_count_268, pm_1i_c, pm_2i_c, pm_1l_c, pm_2l_c, pm_1a_c, pm_ia_c, pm_iia_c, pm_va_c, pm_cp_c, pm_k0_c, pm_k1_c, pm_k2_c, pm_k3_c, pm_s1_c, pm_s2_c, pm_s3_c, pm_s4_c, pm_ri_c, pm_ra_c, pm_rn_c, pm_rk_i, pm_rk_z, pm_rk_a, pm_vk_i, pm_vk_z, pm_vk_a, pm_cti, pm_ctr, pm_ldi_z, pm_ldi_s, pm_lda_z, pm_lda_s, pm_cat_n, pm_cat_i, pm_cat_r, pm_cat_l, pm_obj, pm_arr, pm_opt, pm_ird, pm_aln, List.getElem?_cons_zero, List.getElem?_cons_succ, List.set_cons_zero, List.set_cons_succ, List.length_cons, List.length_nil, List.length_set, true_and, and_true, Nat.add_zero, Nat.zero_add, Nat.le_refl, Nat.reduceAdd, Nat.reduceLT, Nat.reduceLeDiff, Nat.zero_le, not_false_eq_true, not_true_eq_false, false_implies, implies_true, true_implies, Nat.zero_lt_succ, Nat.lt_add_one, pm_tl_n, pm_tl_s, sc_uL, l1]
    exact rq_T (C1.q F1)
  rw [if_neg c0]
  refine ⟨fun c0 => ?_, fun c0 => ?_⟩
  · rw [if_pos c0]
    simp only [w_X12_count_269, w_X12_count_270, w_X12_count_273, w_X12_count_276, w_X12_count_277, pm_1i_c, pm_2i_c, pm_1l_c, pm_2l_c, pm_1a_c, pm_ia_c, pm_iia_c, pm_va_c, pm_cp_c, pm_k0_c, pm_k1_c, pm_k2_c, pm_k3_c, pm_s1_c, pm_s2_c, pm_s3_c, pm_s4_c, pm_ri_c, pm_ra_c, pm_rn_c, pm_rk_i, pm_rk_z, pm_rk_a, pm_vk_i, pm_vk_z, pm_vk_a, pm_cti, pm_ctr, pm_ldi_z, pm_ldi_s, pm_lda_z, pm_lda_s, pm_cat_n, pm_cat_i, pm_cat_r, pm_cat_l, pm_obj, pm_arr, pm_opt, pm_ird, pm_aln, List.getElem?_cons_zero, List.getElem?_cons_succ, List.set_cons_zero, List.set_cons_succ, List.length_cons, List.length_nil, List.length_set, true_and, and_true, Nat.add_zero, Nat.zero_add, Nat.le_refl, Nat.reduceAdd, Nat.reduceLT, Nat.reduceLeDiff, Nat.zero_le, not_false_eq_true, not_true_eq_false, false_implies, implies_true, true_implies, Nat.zero_lt_succ, Nat.lt_add_one, H1, l1, Hf, ix_1693, vi_1693, s23]
    exact rq_T (C1.q F1)
  rw [if_neg c0]
  refine ⟨fun c0 => ?_, fun c0 => ?_⟩
  · rw [if_pos c0]
    simp only [w_X12_count_278, w_X12_count_279, w_X12_count_282, w_X12_count_285, w_X12_count_286, pm_1i_c, pm_2i_c, pm_1l_c, pm_2l_c, pm_1a_c, pm_ia_c, pm_iia_c, pm_va_c, pm_cp_c, pm_k0_c, pm_k1_c, pm_k2_c, pm_k3_c, pm_s1_c, pm_s2_c, pm_s3_c, pm_s4_c, pm_ri_c, pm_ra_c, pm_rn_c, pm_rk_i, pm_rk_z, pm_rk_a, pm_vk_i, pm_vk_z, pm_vk_a, pm_cti, pm_ctr, pm_ldi_z, pm_ldi_s, pm_lda_z, pm_lda_s, pm_cat_n, pm_cat_i, pm_cat_r, pm_cat_l, pm_obj, pm_arr, pm_opt, pm_ird, pm_aln, List.getElem?_cons_zero, List.getElem?_cons_succ, List.set_cons_zero, List.set_cons_succ, List.length_cons, List.length_nil, List.length_set, true_and, and_true, Nat.add_zero, Nat.zero_add, Nat.le_refl, Nat.reduceAdd, Nat.reduceLT, Nat.reduceLeDiff, Nat.zero_le, not_false_eq_true, not_true_eq_false, false_implies, implies_true, true_implies, Nat.zero_lt_succ, Nat.lt_add_one, H1, l1, Hf, ix_1676, vi_1676, s6]
    exact rq_T (C1.q F1)
  rw [if_neg c0]
  refine ⟨fun c0 => ?_, fun c0 => ?_⟩
  · rw [if_pos c0]
    simp only [w_X12_count_287, w_X12_count_288, w_X12_count_291, w_X12_count_294, w_X12_count_295, pm_1i_c, pm_2i_c, pm_1l_c, pm_2l_c, pm_1a_c, pm_ia_c, pm_iia_c, pm_va_c, pm_cp_c, pm_k0_c, pm_k1_c, pm_k2_c, pm_k3_c, pm_s1_c, pm_s2_c, pm_s3_c, pm_s4_c, pm_ri_c, pm_ra_c, pm_rn_c, pm_rk_i, pm_rk_z, pm_rk_a, pm_vk_i, pm_vk_z, pm_vk_a, pm_cti, pm_ctr, pm_ldi_z, pm_ldi_s, pm_lda_z, pm_lda_s, pm_cat_n, pm_cat_i, pm_cat_r, pm_cat_l, pm_obj, pm_arr, pm_opt, pm_ird, pm_aln, List.getElem?_cons_zero, List.getElem?_cons_succ, List.set_cons_zero, List.set_cons_succ, List.length_cons, List.length_nil, List.length_set, true_and, and_true, Nat.add_zero, Nat.zero_add, Nat.le_refl, Nat.reduceAdd, Nat.reduceLT, Nat.reduceLeDiff, Nat.zero_le, not_false_eq_true, not_true_eq_false, false_implies, implies_true, true_implies, Nat.zero_lt_succ, Nat.lt_add_one, H1, l1, Hf, ix_1677, vi_1677, s7]
    exact rq_T (C1.q F1)
  rw [if_neg c0]
  simp only [w_X12_count_296, w_X12_count_297, pm_1i_c, pm_2i_c, pm_1l_c, pm_2l_c, pm_1a_c, pm_ia_c, pm_iia_c, pm_va_c, pm_cp_c, pm_k0_c, pm_k1_c, pm_k2_c, pm_k3_c, pm_s1_c, pm_s2_c, pm_s3_c, pm_s4_c, pm_ri_c, pm_ra_c, pm_rn_c, pm_rk_i, pm_rk_z, pm_rk_a, pm_vk_i, pm_vk_z, pm_vk_a, pm_cti, pm_ctr, pm_ldi_z, pm_ldi_s, pm_lda_z, pm_lda_s, pm_cat_n, pm_cat_i, pm_cat_r, pm_cat_l, pm_obj, pm_arr, pm_opt, pm_ird, pm_aln, List.getElem?_cons_zero, List.getElem?_cons_succ, List.set_cons_zero, List.set_cons_succ, List.length_cons, List.length_nil, List.length_set, true_and, and_true, Nat.add_zero, Nat.zero_add, Nat.le_refl, Nat.reduceAdd, Nat.reduceLT, Nat.reduceLeDiff, Nat.zero_le, not_false_eq_true, not_true_eq_false, false_implies, implies_true, true_implies, Nat.zero_lt_succ, Nat.lt_add_one, l1]
  exact rq_T (C1.q F1)
theorem rep.cg {f g : Nat → Int32} (R : rep f A) (e : ∀ k, k < 2195 → g k = f k) : rep g A := by
  refine ⟨fun k hk => (e _ (by omega)).trans (R.c hk), fun k hk => (e _ (by omega)).trans (R.n hk), fun p h1 h3 => ?_, ?_, ?_, fun i hi => (e _ (by omega)).trans (R.s hi), ?_⟩
  · obtain ⟨a1, a2, a3⟩ := R.p h1 h3
    exact ⟨a1, (e _ (by omega)).trans a2, fun k hk => (e _ (by omega)).trans (a3 k hk)⟩
  · obtain ⟨a1, a2, a3⟩ := R.o
    exact ⟨a1, (e _ (by omega)).trans a2, fun k hk => (e _ (by omega)).trans (a3 k hk)⟩
  · obtain ⟨a1, a2, a3⟩ := R.h
    exact ⟨a1, (e _ (by omega)).trans a2, fun k hk => (e _ (by omega)).trans (a3 k hk)⟩
  · refine R.w.imp id ?_
    rintro ⟨cs, q1, q2, q3, q4⟩
    exact ⟨cs, (e _ (by omega)).trans q1, q2, fun k hk => (e _ (by omega)).trans (q3 k hk), q4⟩
theorem c_M_copies {a b : Nat} {f g : Nat → Int32} (ha : h[a]? = some (.inl (0, 2195, .inl f))) (hb : h[b]? = some (.inl (0, 2195, .inl g))) (ne : a ≠ b) (d : Nat) : PM (d + 1) 148 [.ref a, .ref b] h (fun v h' => v = none ∧ (∃ g', h'[b]? = some (.inl (0, 2195, .inl g')) ∧ ∀ k, k < 2195 → g' k = f k) ∧ fr1 h h' b) := by
  refine en_X12_copies rfl rfl ?_
  have loop : ∀ z k, 2195 - k = z → k ≤ 2195 → ∀ (hh : pmH) (g' : Nat → Int32), hh[b]? = some (.inl (0, 2195, .inl g')) → (∀ j, j < k → g' j = f j) → hh.length = h.length → fr1 h hh b → W_X12_copies d (h.length + 0) 0 (fun v h' => v = none ∧ (∃ g', h'[b]? = some (.inl (0, 2195, .inl g')) ∧ ∀ k, k < 2195 → g' k = f k) ∧ fr1 h h' b) 2 [some (.ref a), some (.ref b), some (.int (nI k))] [] hh 0 := by
    intro z
    induction z with
    | zero =>
      intro k hz hk hh g' q1 q2 q3 q4
      have : k = 2195 := by omega
      subst this
      have e1 : ¬ nI 2195 < 2195 := by decide
      rw [w_X12_copies_2]
      simp only [w_X12_copies_3, w_X12_copies_6, w_X12_copies_21, pm_1i_c, pm_2i_c, pm_1l_c, pm_2l_c, pm_1a_c, pm_ia_c, pm_iia_c, pm_va_c, pm_cp_c, pm_k0_c, pm_k1_c, pm_k2_c, pm_k3_c, pm_s1_c, pm_s2_c, pm_s3_c, pm_s4_c, pm_ri_c, pm_ra_c, pm_rn_c, pm_rk_i, pm_rk_z, pm_rk_a, pm_vk_i, pm_vk_z, pm_vk_a, pm_cti, pm_ctr, pm_ldi_z, pm_ldi_s, pm_lda_z, pm_lda_s, pm_cat_n, pm_cat_i, pm_cat_r, pm_cat_l, pm_obj, pm_arr, pm_opt, pm_ird, pm_aln, List.getElem?_cons_zero, List.getElem?_cons_succ, List.set_cons_zero, List.set_cons_succ, List.length_cons, List.length_nil, List.length_set, true_and, and_true, Nat.add_zero, Nat.zero_add, Nat.le_refl, Nat.reduceAdd, Nat.reduceLT, Nat.reduceLeDiff, Nat.zero_le, not_false_eq_true, not_true_eq_false, false_implies, implies_true, true_implies, Nat.zero_lt_succ, Nat.lt_add_one, e1, q3]
      exact ⟨⟨g', q1, q2⟩, q4⟩
    | succ z ih =>
      intro k hz hk hh g' q1 q2 q3 q4
      have e1 : nI k < 2195 := nI_lt (b := 2195) (by omega) (by omega)
      have vi : vp_in (nI k) 2195 := vp_in_nI (by omega) (by omega)
      have ci : (nI k).toNatClampNeg = k := nI_clamp (by omega)
      have ha' : hh[a]? = some (.inl (0, 2195, .inl f)) := (q4 a ne).trans ha
      rw [w_X12_copies_2]
      simp only [w_X12_copies_3, w_X12_copies_6, w_X12_copies_9, w_X12_copies_10, w_X12_copies_11, w_X12_copies_12, w_X12_copies_13, w_X12_copies_14, w_X12_copies_15, w_X12_copies_18, pm_1i_c, pm_2i_c, pm_1l_c, pm_2l_c, pm_1a_c, pm_ia_c, pm_iia_c, pm_va_c, pm_cp_c, pm_k0_c, pm_k1_c, pm_k2_c, pm_k3_c, pm_s1_c, pm_s2_c, pm_s3_c, pm_s4_c, pm_ri_c, pm_ra_c, pm_rn_c, pm_rk_i, pm_rk_z, pm_rk_a, pm_vk_i, pm_vk_z, pm_vk_a, pm_cti, pm_ctr, pm_ldi_z, pm_ldi_s, pm_lda_z, pm_lda_s, pm_cat_n, pm_cat_i, pm_cat_r, pm_cat_l, pm_obj, pm_arr, pm_opt, pm_ird, pm_aln, List.getElem?_cons_zero, List.getElem?_cons_succ, List.set_cons_zero, List.set_cons_succ, List.length_cons, List.length_nil, List.length_set, true_and, and_true, Nat.add_zero, Nat.zero_add, Nat.le_refl, Nat.reduceAdd, Nat.reduceLT, Nat.reduceLeDiff, Nat.zero_le, not_false_eq_true, not_true_eq_false, false_implies, implies_true, true_implies, Nat.zero_lt_succ, Nat.lt_add_one, e1, ha', q1, vi, ci, nI_1]
      refine ih (k + 1) (by omega) (by omega) _ _ (by rw [hset_s, q1]; rfl) (fun j hj => ?_) (by rw [List.length_set]; exact q3) (q4.tr (fun i hi => hset_n (Ne.symm hi)))
      by_cases c : j = k
      · rw [c, upd_e]
      · rw [upd_n c]
        exact q2 j (by omega)
  simp only [w_X12_copies_0, w_X12_copies_1, pm_1i_c, pm_2i_c, pm_1l_c, pm_2l_c, pm_1a_c, pm_ia_c, pm_iia_c, pm_va_c, pm_cp_c, pm_k0_c, pm_k1_c, pm_k2_c, pm_k3_c, pm_s1_c, pm_s2_c, pm_s3_c, pm_s4_c, pm_ri_c, pm_ra_c, pm_rn_c, pm_rk_i, pm_rk_z, pm_rk_a, pm_vk_i, pm_vk_z, pm_vk_a, pm_cti, pm_ctr, pm_ldi_z, pm_ldi_s, pm_lda_z, pm_lda_s, pm_cat_n, pm_cat_i, pm_cat_r, pm_cat_l, pm_obj, pm_arr, pm_opt, pm_ird, pm_aln, List.getElem?_cons_zero, List.getElem?_cons_succ, List.set_cons_zero, List.set_cons_succ, List.length_cons, List.length_nil, List.length_set, true_and, and_true, Nat.add_zero, Nat.zero_add, Nat.le_refl, Nat.reduceAdd, Nat.reduceLT, Nat.reduceLeDiff, Nat.zero_le, not_false_eq_true, not_true_eq_false, false_implies, implies_true, true_implies, Nat.zero_lt_succ, Nat.lt_add_one]
  exact loop 2195 0 rfl (by omega) h g hb (fun j hj => by omega) rfl fr1.rf
/-- the three rows of numbers at others -/
theorem mm_.u3 (C : mm_ h m o A K bs ws) (o' : Nat → Int32) (M : mO h' m o') (e2 : o' 2 = o 2) (e12 : o' 12 = o 12) (N : ∃ f, h'[m + 1]? = some (.inl (0, 2195, .inl f)) ∧ rep f A') (N2 : ∃ f, h'[m + 2]? = some (.inl (0, 2195, .inl f)) ∧ (o' 0 = 1 → rep f K')) (N3 : ∃ f, h'[m + 3]? = some (.inl (0, 2195, .inl f))) (F : ∀ i, i < m ∨ m + 4 ≤ i → h'[i]? = h[i]?) : mm_ h' m o' A' K' bs ws ∧ frM h h' m := by
  refine ⟨⟨M, N, N2, N3, ?_, ?_, ?_, ?_, ?_, ?_, ?_⟩, fun i hi => F i (by omega)⟩
  · obtain ⟨f, h1, h2⟩ := C.tp
    exact ⟨f, (F _ (by omega)).trans h1, by rw [e2]; exact h2⟩
  · obtain ⟨f, h1⟩ := C.fv
    exact ⟨f, (F _ (by omega)).trans h1⟩
  · obtain ⟨f, h1⟩ := C.cd
    exact ⟨f, (F _ (by omega)).trans h1⟩
  · exact C.p.keep (F _ (by omega))
  · obtain ⟨f, h1⟩ := C.td
    exact ⟨f, (F _ (by omega)).trans h1⟩
  · obtain ⟨f, h1⟩ := C.rw
    exact ⟨f, (F _ (by omega)).trans h1⟩
  · obtain ⟨f, h1, h2⟩ := C.tx
    exact ⟨f, (F _ (by omega)).trans h1, by rw [e12]; exact h2⟩
theorem c_P_keep (C : mm_ h m o A K bs ws) (d : Nat) : PM (d + 2) 254 [.ref m] h (rq_ h m A A bs ws 1 (o 7) true (sc A 2)) := by
  have H0 := C.ob
  unfold mO at H0
  obtain ⟨h1, e1, l1, F1, C1, H1⟩ := C.th 0
  obtain ⟨f, Hf, Rf⟩ := C1.n
  obtain ⟨fk, Hk, -⟩ := C1.k
  obtain ⟨fa, Ha⟩ := C1.as
  have s2 : f 1672 = sc A 2 := Rf.s (i := 2) (by omega)
  refine en_X12_keep rfl ?_
  simp only [w_X12_keep_0, w_X12_keep_1, w_X12_keep_2, w_X12_keep_5, w_X12_keep_6, w_X12_keep_9, w_X12_keep_10, w_X12_keep_13, pm_1i_c, pm_2i_c, pm_1l_c, pm_2l_c, pm_1a_c, pm_ia_c, pm_iia_c, pm_va_c, pm_cp_c, pm_k0_c, pm_k1_c, pm_k2_c, pm_k3_c, pm_s1_c, pm_s2_c, pm_s3_c, pm_s4_c, pm_ri_c, pm_ra_c, pm_rn_c, pm_rk_i, pm_rk_z, pm_rk_a, pm_vk_i, pm_vk_z, pm_vk_a, pm_cti, pm_ctr, pm_ldi_z, pm_ldi_s, pm_lda_z, pm_lda_s, pm_cat_n, pm_cat_i, pm_cat_r, pm_cat_l, pm_obj, pm_arr, pm_opt, pm_ird, pm_aln, List.getElem?_cons_zero, List.getElem?_cons_succ, List.set_cons_zero, List.set_cons_succ, List.length_cons, List.length_nil, List.length_set, true_and, and_true, Nat.add_zero, Nat.zero_add, Nat.le_refl, Nat.reduceAdd, Nat.reduceLT, Nat.reduceLeDiff, Nat.zero_le, not_false_eq_true, not_true_eq_false, false_implies, implies_true, true_implies, Nat.zero_lt_succ, Nat.lt_add_one, H0, e1, H1, l1]
  refine PM_use (c_M_copies Hf Hk (by omega) d) ?_
  rintro v g2 k2 ⟨rfl, ⟨g', K1, K2⟩, K3⟩
  have q0 : g2[m]? = h1[m]? := K3 m (by omega)
  have q1 : g2[m + 1]? = h1[m + 1]? := K3 (m + 1) (by omega)
  have q3 : g2[m + 3]? = h1[m + 3]? := K3 (m + 3) (by omega)
  have e2 : (g2.set m (.inr (12, [.ref (m + 1), .ref (m + 2), .ref (m + 3), .int 1, .int 0, .ref (m + 4), .int (o 2), .ref (m + 5), .int (o 3), .int (o 4), .int (o 5), .int (o 6), .int (o 7), .int (o 8), .int (o 9), .int (o 10), .ref (m + 6), .ref (m + 7), .ref (m + 8), .int (o 11), .ref (m + 9), .ref (m + 10), .int (o 12)])))[m]? = some (.inr (12, [.ref (m + 1), .ref (m + 2), .ref (m + 3), .int 1, .int 0, .ref (m + 4), .int (o 2), .ref (m + 5), .int (o 3), .int (o 4), .int (o 5), .int (o 6), .int (o 7), .int (o 8), .int (o 9), .int (o 10), .ref (m + 6), .ref (m + 7), .ref (m + 8), .int (o 11), .ref (m + 9), .ref (m + 10), .int (o 12)])) := by
    rw [hset_s, q0, H1]
    rfl
  have nm : ∀ (c : pmC) (i : Nat), i ≠ m → (g2.set m c)[i]? = g2[i]? := fun c i hi => hset_n (Ne.symm hi)
  show W_X12_keep _ _ _ _ _ _ _ _ _
  simp only [w_X12_keep_16, w_X12_keep_17, w_X12_keep_18, w_X12_keep_21, w_X12_keep_22, w_X12_keep_25, w_X12_keep_28, w_X12_keep_29, pm_1i_c, pm_2i_c, pm_1l_c, pm_2l_c, pm_1a_c, pm_ia_c, pm_iia_c, pm_va_c, pm_cp_c, pm_k0_c, pm_k1_c, pm_k2_c, pm_k3_c, pm_s1_c, pm_s2_c, pm_s3_c, pm_s4_c, pm_ri_c, pm_ra_c, pm_rn_c, pm_rk_i, pm_rk_z, pm_rk_a, pm_vk_i, pm_vk_z, pm_vk_a, pm_cti, pm_ctr, pm_ldi_z, pm_ldi_s, pm_lda_z, pm_lda_s, pm_cat_n, pm_cat_i, pm_cat_r, pm_cat_l, pm_obj, pm_arr, pm_opt, pm_ird, pm_aln, List.getElem?_cons_zero, List.getElem?_cons_succ, List.set_cons_zero, List.set_cons_succ, List.length_cons, List.length_nil, List.length_set, true_and, and_true, Nat.add_zero, Nat.zero_add, Nat.le_refl, Nat.reduceAdd, Nat.reduceLT, Nat.reduceLeDiff, Nat.zero_le, not_false_eq_true, not_true_eq_false, false_implies, implies_true, true_implies, Nat.zero_lt_succ, Nat.lt_add_one, pm_tl_n, pm_tl_s, sc_uL, q0, H1, l1, k2, q1, Hf, nm _ (m + 1) (by omega), hset_s, Option.map_some, ix_1672, vi_1672, s2]
  obtain ⟨C2, F2⟩ := C1.u3 (h' := g2.set m (.inr (12, [.ref (m + 1), .ref (m + 2), .ref (m + 3), .int 1, .int 0, .ref (m + 4), .int (o 2), .ref (m + 5), .int (o 3), .int (o 4), .int (o 5), .int (o 6), .int (o 7), .int (o 8), .int (o 9), .int (o 10), .ref (m + 6), .ref (m + 7), .ref (m + 8), .int (o 11), .ref (m + 9), .ref (m + 10), .int (o 12)]))) (A' := A) (K' := A) (upd (upd o 1 0) 0 1) e2 rfl rfl ⟨f, by rw [nm _ _ (by omega), q1]; exact Hf, Rf⟩ ⟨g', by rw [nm _ _ (by omega)]; exact K1, fun _ => Rf.cg K2⟩ ⟨fa, by rw [nm _ _ (by omega), q3]; exact Ha⟩ (fun i hi => by rw [nm _ _ (by omega)]; exact K3 i (by omega))
  exact ⟨Or.inr trivial, rq_T ⟨⟨_, C2, rfl, rfl, rfl⟩, F1.tr F2⟩⟩
theorem c_P_back (C : mm_ h m o A K bs ws) (hik : o 0 = 0 ∨ o 0 = 1) (d : Nat) : PM (d + 2) 255 [.ref m] h (fun v h' => if o 0 = 0 then rq_ h m A K bs ws (o 0) (o 7) false 0 v h' else rq_ h m K K bs ws (o 0) (o 7) true (sc K 2) v h') := by
  have H0 := C.ob
  unfold mO at H0
  obtain ⟨h1, e1, l1, F1, C1, H1⟩ := C.th 0
  obtain ⟨f, Hf, Rf⟩ := C1.n
  obtain ⟨fk, Hk, Rk⟩ := C1.k
  obtain ⟨fa, Ha⟩ := C1.as
  refine en_X12_back rfl ?_
  rcases hik with z | z
  · rw [z] at H0 e1 H1
    simp only [w_X12_back_0, w_X12_back_1, w_X12_back_2, w_X12_back_5, w_X12_back_6, w_X12_back_7, w_X12_back_10, w_X12_back_13, w_X12_back_14, w_X12_back_17, w_X12_back_18, w_X12_back_19, pm_1i_c, pm_2i_c, pm_1l_c, pm_2l_c, pm_1a_c, pm_ia_c, pm_iia_c, pm_va_c, pm_cp_c, pm_k0_c, pm_k1_c, pm_k2_c, pm_k3_c, pm_s1_c, pm_s2_c, pm_s3_c, pm_s4_c, pm_ri_c, pm_ra_c, pm_rn_c, pm_rk_i, pm_rk_z, pm_rk_a, pm_vk_i, pm_vk_z, pm_vk_a, pm_cti, pm_ctr, pm_ldi_z, pm_ldi_s, pm_lda_z, pm_lda_s, pm_cat_n, pm_cat_i, pm_cat_r, pm_cat_l, pm_obj, pm_arr, pm_opt, pm_ird, pm_aln, List.getElem?_cons_zero, List.getElem?_cons_succ, List.set_cons_zero, List.set_cons_succ, List.length_cons, List.length_nil, List.length_set, true_and, and_true, Nat.add_zero, Nat.zero_add, Nat.le_refl, Nat.reduceAdd, Nat.reduceLT, Nat.reduceLeDiff, Nat.zero_le, not_false_eq_true, not_true_eq_false, false_implies, implies_true, true_implies, Nat.zero_lt_succ, Nat.lt_add_one, H0, e1, H1, l1, z, if_true]
    refine PM_use (c_P_throwsIf1 C1 1 d) ?_
    rintro v g1 k1 ⟨rfl, K1, K2⟩
    show W_X12_back _ _ _ _ _ _ _ _ _
    simp only [w_X12_back_22, w_X12_back_25, w_X12_back_26, pm_1i_c, pm_2i_c, pm_1l_c, pm_2l_c, pm_1a_c, pm_ia_c, pm_iia_c, pm_va_c, pm_cp_c, pm_k0_c, pm_k1_c, pm_k2_c, pm_k3_c, pm_s1_c, pm_s2_c, pm_s3_c, pm_s4_c, pm_ri_c, pm_ra_c, pm_rn_c, pm_rk_i, pm_rk_z, pm_rk_a, pm_vk_i, pm_vk_z, pm_vk_a, pm_cti, pm_ctr, pm_ldi_z, pm_ldi_s, pm_lda_z, pm_lda_s, pm_cat_n, pm_cat_i, pm_cat_r, pm_cat_l, pm_obj, pm_arr, pm_opt, pm_ird, pm_aln, List.getElem?_cons_zero, List.getElem?_cons_succ, List.set_cons_zero, List.set_cons_succ, List.length_cons, List.length_nil, List.length_set, true_and, and_true, Nat.add_zero, Nat.zero_add, Nat.le_refl, Nat.reduceAdd, Nat.reduceLT, Nat.reduceLeDiff, Nat.zero_le, not_false_eq_true, not_true_eq_false, false_implies, implies_true, true_implies, Nat.zero_lt_succ, Nat.lt_add_one, pm_tl_n, pm_tl_s, sc_uL, one0, l1, k1]
    rw [upd_upd] at K1
    have := K1.q (F1.tr K2)
    rw [z] at this
    exact rq_F this
  · rw [z] at H0 e1 H1
    simp only [w_X12_back_0, w_X12_back_1, w_X12_back_2, w_X12_back_5, w_X12_back_6, w_X12_back_7, w_X12_back_10, w_X12_back_13, w_X12_back_14, w_X12_back_17, w_X12_back_18, w_X12_back_19, pm_1i_c, pm_2i_c, pm_1l_c, pm_2l_c, pm_1a_c, pm_ia_c, pm_iia_c, pm_va_c, pm_cp_c, pm_k0_c, pm_k1_c, pm_k2_c, pm_k3_c, pm_s1_c, pm_s2_c, pm_s3_c, pm_s4_c, pm_ri_c, pm_ra_c, pm_rn_c, pm_rk_i, pm_rk_z, pm_rk_a, pm_vk_i, pm_vk_z, pm_vk_a, pm_cti, pm_ctr, pm_ldi_z, pm_ldi_s, pm_lda_z, pm_lda_s, pm_cat_n, pm_cat_i, pm_cat_r, pm_cat_l, pm_obj, pm_arr, pm_opt, pm_ird, pm_aln, List.getElem?_cons_zero, List.getElem?_cons_succ, List.set_cons_zero, List.set_cons_succ, List.length_cons, List.length_nil, List.length_set, true_and, and_true, Nat.add_zero, Nat.zero_add, Nat.le_refl, Nat.reduceAdd, Nat.reduceLT, Nat.reduceLeDiff, Nat.zero_le, not_false_eq_true, not_true_eq_false, false_implies, implies_true, true_implies, Nat.zero_lt_succ, Nat.lt_add_one, H0, e1, H1, l1, z, one0, if_false]
    refine PM_use (c_P_throwsIf0 C1 1 d) ?_
    rintro v g1 k1 ⟨rfl, rfl⟩
    show W_X12_back _ _ _ _ _ _ _ _ _
    simp only [w_X12_back_22, w_X12_back_27, w_X12_back_28, w_X12_back_31, w_X12_back_32, w_X12_back_35, pm_1i_c, pm_2i_c, pm_1l_c, pm_2l_c, pm_1a_c, pm_ia_c, pm_iia_c, pm_va_c, pm_cp_c, pm_k0_c, pm_k1_c, pm_k2_c, pm_k3_c, pm_s1_c, pm_s2_c, pm_s3_c, pm_s4_c, pm_ri_c, pm_ra_c, pm_rn_c, pm_rk_i, pm_rk_z, pm_rk_a, pm_vk_i, pm_vk_z, pm_vk_a, pm_cti, pm_ctr, pm_ldi_z, pm_ldi_s, pm_lda_z, pm_lda_s, pm_cat_n, pm_cat_i, pm_cat_r, pm_cat_l, pm_obj, pm_arr, pm_opt, pm_ird, pm_aln, List.getElem?_cons_zero, List.getElem?_cons_succ, List.set_cons_zero, List.set_cons_succ, List.length_cons, List.length_nil, List.length_set, true_and, and_true, Nat.add_zero, Nat.zero_add, Nat.le_refl, Nat.reduceAdd, Nat.reduceLT, Nat.reduceLeDiff, Nat.zero_le, not_false_eq_true, not_true_eq_false, false_implies, implies_true, true_implies, Nat.zero_lt_succ, Nat.lt_add_one, pm_tl_n, pm_tl_s, sc_uL, H1, l1]
    have Rk' : rep fk K := Rk z
    refine PM_use (c_M_copies Hk Hf (by omega) d) ?_
    rintro v g2 k2 ⟨rfl, ⟨g', K1, K2⟩, K3⟩
    have q0 := K3 m (by omega)
    have s2 : g' 1672 = sc K 2 := (Rk'.cg K2).s (i := 2) (by omega)
    show W_X12_back _ _ _ _ _ _ _ _ _
    simp only [w_X12_back_38, w_X12_back_39, w_X12_back_42, w_X12_back_45, w_X12_back_46, pm_1i_c, pm_2i_c, pm_1l_c, pm_2l_c, pm_1a_c, pm_ia_c, pm_iia_c, pm_va_c, pm_cp_c, pm_k0_c, pm_k1_c, pm_k2_c, pm_k3_c, pm_s1_c, pm_s2_c, pm_s3_c, pm_s4_c, pm_ri_c, pm_ra_c, pm_rn_c, pm_rk_i, pm_rk_z, pm_rk_a, pm_vk_i, pm_vk_z, pm_vk_a, pm_cti, pm_ctr, pm_ldi_z, pm_ldi_s, pm_lda_z, pm_lda_s, pm_cat_n, pm_cat_i, pm_cat_r, pm_cat_l, pm_obj, pm_arr, pm_opt, pm_ird, pm_aln, List.getElem?_cons_zero, List.getElem?_cons_succ, List.set_cons_zero, List.set_cons_succ, List.length_cons, List.length_nil, List.length_set, true_and, and_true, Nat.add_zero, Nat.zero_add, Nat.le_refl, Nat.reduceAdd, Nat.reduceLT, Nat.reduceLeDiff, Nat.zero_le, not_false_eq_true, not_true_eq_false, false_implies, implies_true, true_implies, Nat.zero_lt_succ, Nat.lt_add_one, pm_tl_n, pm_tl_s, sc_uL, q0, H1, l1, k2, K1, ix_1672, vi_1672, s2]
    obtain ⟨C2, F2⟩ := C1.u3 (h' := g2) (A' := K) (K' := K) (upd o 1 0) (by
      unfold mO
      rw [q0, H1, show upd o 1 0 0 = 1 from z]
      rfl) rfl rfl ⟨g', K1, Rk'.cg K2⟩ ⟨fk, (K3 _ (by omega)).trans Hk, Rk⟩ ⟨fa, (K3 _ (by omega)).trans Ha⟩ (fun i hi => K3 i (by omega))
    have := C2.q (F1.tr F2)
    rw [z] at this
    exact rq_T this
end MP
