/-! AdmissionDeskModel: a part of a law. -/
/-- what the class makes of a part -/
def pBad (K : List Int32) (s : LZ) : Prop := (isVf (kiF K s.1) = false ∧ ¬ kiF K s.1 = 267) ∨ ¬ s.2.1 < 60
section ML
variable {h0 h h' : pmH} {m : Nat} {o : Nat → Int32} {bs : List Int32} {p b dp n : Nat} {fa dm : Int32} {cs ks : List Int32} {s : PS}
theorem c_Y_fact (P : pr_ h0 h m o bs p b dp n fa cs ks) (T : tap_ h0 m bs) (S : sm_ bs dm s p fa) (hf : fa = -1) (d : Nat) : PM (d + 5) 171 [.ref m] h (fun x h' => ∃ y p' b', x = some (.int y) ∧ pr_ h0 h' m o bs p' b' dp n fa cs ks ∧ p ≤ p' ∧ ((∃ i, i < 8 ∧ y = nI i ∧ taB (cuF bs dm).1 (nI (256 + i)) s = true ∧ sm_ bs dm (taF (cuF bs dm).1 (nI (256 + i)) s) p' fa ∧ p < p') ∨ (y = -1 ∧ (∀ i, i < 8 → taB (cuF bs dm).1 (nI (256 + i)) s = false) ∧ sm_ bs dm s p' fa ∧ b' = p' ∧ p' = skp bs p))) := by
  refine en_X12_fact rfl ?_
  have H0 := P.c0
  have no : ∀ i, taB (cuF bs dm).1 (nI (256 + i)) s = false → taF (cuF bs dm).1 (nI (256 + i)) s = s := fun i c => by
    unfold taF
    rw [if_neg (by rw [c]; decide)]
  have kk := skp_skp (bs := bs) S.1
  simp only [w_X12_fact_0, w_X12_fact_1, w_X12_fact_3, pm_1i_c, pm_2i_c, pm_1l_c, pm_2l_c, pm_1a_c, pm_ia_c, pm_iia_c, pm_va_c, pm_cp_c, pm_k0_c, pm_k1_c, pm_k2_c, pm_k3_c, pm_s1_c, pm_s2_c, pm_s3_c, pm_s4_c, pm_ri_c, pm_ra_c, pm_rn_c, pm_rk_i, pm_rk_z, pm_rk_a, pm_vk_i, pm_vk_z, pm_vk_a, pm_cti, pm_ctr, pm_ldi_z, pm_ldi_s, pm_lda_z, pm_lda_s, pm_cat_n, pm_cat_i, pm_cat_r, pm_cat_l, pm_obj, pm_arr, pm_opt, pm_ird, pm_aln, List.getElem?_cons_zero, List.getElem?_cons_succ, List.set_cons_zero, List.set_cons_succ, List.length_cons, List.length_nil, List.length_set, true_and, and_true, Nat.add_zero, Nat.zero_add, Nat.le_refl, Nat.reduceAdd, Nat.reduceLT, Nat.reduceLeDiff, Nat.zero_le, not_false_eq_true, not_true_eq_false, false_implies, implies_true, true_implies, Nat.zero_lt_succ, Nat.lt_add_one, H0]
  refine PM_use (c_Y_takesWord P T S wdk_cand (a := 1000004) rfl d) ?_
  rintro x h1 l1 ⟨rfl, p1, b1, P1, S1, le1, lt1, at1, -⟩
  have H1 := P1.c0
  rcases Bool.eq_false_or_eq_true (taB (cuF bs dm).1 (nI (256 + 0)) s) with c1 | c1
  · simp only [if_pos c1]
    show W_X12_fact _ _ _ _ _ _ _ _ _
    simp only [w_X12_fact_6, w_X12_fact_9, w_X12_fact_10, w_X12_fact_107, pm_1i_c, pm_2i_c, pm_1l_c, pm_2l_c, pm_1a_c, pm_ia_c, pm_iia_c, pm_va_c, pm_cp_c, pm_k0_c, pm_k1_c, pm_k2_c, pm_k3_c, pm_s1_c, pm_s2_c, pm_s3_c, pm_s4_c, pm_ri_c, pm_ra_c, pm_rn_c, pm_rk_i, pm_rk_z, pm_rk_a, pm_vk_i, pm_vk_z, pm_vk_a, pm_cti, pm_ctr, pm_ldi_z, pm_ldi_s, pm_lda_z, pm_lda_s, pm_cat_n, pm_cat_i, pm_cat_r, pm_cat_l, pm_obj, pm_arr, pm_opt, pm_ird, pm_aln, List.getElem?_cons_zero, List.getElem?_cons_succ, List.set_cons_zero, List.set_cons_succ, List.length_cons, List.length_nil, List.length_set, true_and, and_true, Nat.add_zero, Nat.zero_add, Nat.le_refl, Nat.reduceAdd, Nat.reduceLT, Nat.reduceLeDiff, Nat.zero_le, not_false_eq_true, not_true_eq_false, false_implies, implies_true, true_implies, Nat.zero_lt_succ, Nat.lt_add_one, pm_tl_n, pm_tl_s, sc_uL, l1, show ¬ (1 : Int32) = 0 by decide]
    exact ⟨0, p1, b1, rfl, P1, by omega, Or.inl ⟨0, by omega, rfl, c1, S1, by have := lt1 c1; omega⟩⟩
  rw [no _ c1] at S1
  obtain ⟨e1, f1⟩ := at1 c1 hf
  simp only [if_neg (show ¬ taB (cuF bs dm).1 (nI (256 + 0)) s = true by rw [c1]; decide)]
  show W_X12_fact _ _ _ _ _ _ _ _ _
  simp only [w_X12_fact_6, w_X12_fact_13, w_X12_fact_14, w_X12_fact_16, pm_1i_c, pm_2i_c, pm_1l_c, pm_2l_c, pm_1a_c, pm_ia_c, pm_iia_c, pm_va_c, pm_cp_c, pm_k0_c, pm_k1_c, pm_k2_c, pm_k3_c, pm_s1_c, pm_s2_c, pm_s3_c, pm_s4_c, pm_ri_c, pm_ra_c, pm_rn_c, pm_rk_i, pm_rk_z, pm_rk_a, pm_vk_i, pm_vk_z, pm_vk_a, pm_cti, pm_ctr, pm_ldi_z, pm_ldi_s, pm_lda_z, pm_lda_s, pm_cat_n, pm_cat_i, pm_cat_r, pm_cat_l, pm_obj, pm_arr, pm_opt, pm_ird, pm_aln, List.getElem?_cons_zero, List.getElem?_cons_succ, List.set_cons_zero, List.set_cons_succ, List.length_cons, List.length_nil, List.length_set, true_and, and_true, Nat.add_zero, Nat.zero_add, Nat.le_refl, Nat.reduceAdd, Nat.reduceLT, Nat.reduceLeDiff, Nat.zero_le, not_false_eq_true, not_true_eq_false, false_implies, implies_true, true_implies, Nat.zero_lt_succ, Nat.lt_add_one, pm_tl_n, pm_tl_s, sc_uL, H1, l1]
  refine PM_use (c_Y_takesWord P1 T S1 wdk_vict (a := 1000005) rfl d) ?_
  rintro x h2 l2 ⟨rfl, p2, b2, P2, S2, le2, lt2, at2, -⟩
  have H2 := P2.c0
  rcases Bool.eq_false_or_eq_true (taB (cuF bs dm).1 (nI (256 + 1)) s) with c2 | c2
  · simp only [if_pos c2]
    show W_X12_fact _ _ _ _ _ _ _ _ _
    simp only [w_X12_fact_19, w_X12_fact_22, w_X12_fact_23, w_X12_fact_107, pm_1i_c, pm_2i_c, pm_1l_c, pm_2l_c, pm_1a_c, pm_ia_c, pm_iia_c, pm_va_c, pm_cp_c, pm_k0_c, pm_k1_c, pm_k2_c, pm_k3_c, pm_s1_c, pm_s2_c, pm_s3_c, pm_s4_c, pm_ri_c, pm_ra_c, pm_rn_c, pm_rk_i, pm_rk_z, pm_rk_a, pm_vk_i, pm_vk_z, pm_vk_a, pm_cti, pm_ctr, pm_ldi_z, pm_ldi_s, pm_lda_z, pm_lda_s, pm_cat_n, pm_cat_i, pm_cat_r, pm_cat_l, pm_obj, pm_arr, pm_opt, pm_ird, pm_aln, List.getElem?_cons_zero, List.getElem?_cons_succ, List.set_cons_zero, List.set_cons_succ, List.length_cons, List.length_nil, List.length_set, true_and, and_true, Nat.add_zero, Nat.zero_add, Nat.le_refl, Nat.reduceAdd, Nat.reduceLT, Nat.reduceLeDiff, Nat.zero_le, not_false_eq_true, not_true_eq_false, false_implies, implies_true, true_implies, Nat.zero_lt_succ, Nat.lt_add_one, pm_tl_n, pm_tl_s, sc_uL, l1, l2, show ¬ (1 : Int32) = 0 by decide]
    exact ⟨1, p2, b2, rfl, P2, by omega, Or.inl ⟨1, by omega, rfl, c2, S2, by have := lt2 c2; omega⟩⟩
  rw [no _ c2] at S2
  obtain ⟨e2, f2⟩ := at2 c2 hf
  rw [e1] at e2 f2
  rw [kk] at e2 f2
  simp only [if_neg (show ¬ taB (cuF bs dm).1 (nI (256 + 1)) s = true by rw [c2]; decide)]
  show W_X12_fact _ _ _ _ _ _ _ _ _
  simp only [w_X12_fact_19, w_X12_fact_26, w_X12_fact_27, w_X12_fact_29, pm_1i_c, pm_2i_c, pm_1l_c, pm_2l_c, pm_1a_c, pm_ia_c, pm_iia_c, pm_va_c, pm_cp_c, pm_k0_c, pm_k1_c, pm_k2_c, pm_k3_c, pm_s1_c, pm_s2_c, pm_s3_c, pm_s4_c, pm_ri_c, pm_ra_c, pm_rn_c, pm_rk_i, pm_rk_z, pm_rk_a, pm_vk_i, pm_vk_z, pm_vk_a, pm_cti, pm_ctr, pm_ldi_z, pm_ldi_s, pm_lda_z, pm_lda_s, pm_cat_n, pm_cat_i, pm_cat_r, pm_cat_l, pm_obj, pm_arr, pm_opt, pm_ird, pm_aln, List.getElem?_cons_zero, List.getElem?_cons_succ, List.set_cons_zero, List.set_cons_succ, List.length_cons, List.length_nil, List.length_set, true_and, and_true, Nat.add_zero, Nat.zero_add, Nat.le_refl, Nat.reduceAdd, Nat.reduceLT, Nat.reduceLeDiff, Nat.zero_le, not_false_eq_true, not_true_eq_false, false_implies, implies_true, true_implies, Nat.zero_lt_succ, Nat.lt_add_one, pm_tl_n, pm_tl_s, sc_uL, H2, l1, l2]
  refine PM_use (c_Y_takesWord P2 T S2 wdk_hits (a := 1000006) rfl d) ?_
  rintro x h3 l3 ⟨rfl, p3, b3, P3, S3, le3, lt3, at3, -⟩
  have H3 := P3.c0
  rcases Bool.eq_false_or_eq_true (taB (cuF bs dm).1 (nI (256 + 2)) s) with c3 | c3
  · simp only [if_pos c3]
    show W_X12_fact _ _ _ _ _ _ _ _ _
    simp only [w_X12_fact_32, w_X12_fact_35, w_X12_fact_36, w_X12_fact_107, pm_1i_c, pm_2i_c, pm_1l_c, pm_2l_c, pm_1a_c, pm_ia_c, pm_iia_c, pm_va_c, pm_cp_c, pm_k0_c, pm_k1_c, pm_k2_c, pm_k3_c, pm_s1_c, pm_s2_c, pm_s3_c, pm_s4_c, pm_ri_c, pm_ra_c, pm_rn_c, pm_rk_i, pm_rk_z, pm_rk_a, pm_vk_i, pm_vk_z, pm_vk_a, pm_cti, pm_ctr, pm_ldi_z, pm_ldi_s, pm_lda_z, pm_lda_s, pm_cat_n, pm_cat_i, pm_cat_r, pm_cat_l, pm_obj, pm_arr, pm_opt, pm_ird, pm_aln, List.getElem?_cons_zero, List.getElem?_cons_succ, List.set_cons_zero, List.set_cons_succ, List.length_cons, List.length_nil, List.length_set, true_and, and_true, Nat.add_zero, Nat.zero_add, Nat.le_refl, Nat.reduceAdd, Nat.reduceLT, Nat.reduceLeDiff, Nat.zero_le, not_false_eq_true, not_true_eq_false, false_implies, implies_true, true_implies, Nat.zero_lt_succ, Nat.lt_add_one, pm_tl_n, pm_tl_s, sc_uL, l1, l2, l3, show ¬ (1 : Int32) = 0 by decide]
    exact ⟨2, p3, b3, rfl, P3, by omega, Or.inl ⟨2, by omega, rfl, c3, S3, by have := lt3 c3; omega⟩⟩
  rw [no _ c3] at S3
  obtain ⟨e3, f3⟩ := at3 c3 hf
  rw [e2] at e3 f3
  rw [kk] at e3 f3
  simp only [if_neg (show ¬ taB (cuF bs dm).1 (nI (256 + 2)) s = true by rw [c3]; decide)]
  show W_X12_fact _ _ _ _ _ _ _ _ _
  simp only [w_X12_fact_32, w_X12_fact_39, w_X12_fact_40, w_X12_fact_42, pm_1i_c, pm_2i_c, pm_1l_c, pm_2l_c, pm_1a_c, pm_ia_c, pm_iia_c, pm_va_c, pm_cp_c, pm_k0_c, pm_k1_c, pm_k2_c, pm_k3_c, pm_s1_c, pm_s2_c, pm_s3_c, pm_s4_c, pm_ri_c, pm_ra_c, pm_rn_c, pm_rk_i, pm_rk_z, pm_rk_a, pm_vk_i, pm_vk_z, pm_vk_a, pm_cti, pm_ctr, pm_ldi_z, pm_ldi_s, pm_lda_z, pm_lda_s, pm_cat_n, pm_cat_i, pm_cat_r, pm_cat_l, pm_obj, pm_arr, pm_opt, pm_ird, pm_aln, List.getElem?_cons_zero, List.getElem?_cons_succ, List.set_cons_zero, List.set_cons_succ, List.length_cons, List.length_nil, List.length_set, true_and, and_true, Nat.add_zero, Nat.zero_add, Nat.le_refl, Nat.reduceAdd, Nat.reduceLT, Nat.reduceLeDiff, Nat.zero_le, not_false_eq_true, not_true_eq_false, false_implies, implies_true, true_implies, Nat.zero_lt_succ, Nat.lt_add_one, pm_tl_n, pm_tl_s, sc_uL, H3, l1, l2, l3]
  refine PM_use (c_Y_takesWord P3 T S3 wdk_asks (a := 1000007) rfl d) ?_
  rintro x h4 l4 ⟨rfl, p4, b4, P4, S4, le4, lt4, at4, -⟩
  have H4 := P4.c0
  rcases Bool.eq_false_or_eq_true (taB (cuF bs dm).1 (nI (256 + 3)) s) with c4 | c4
  · simp only [if_pos c4]
    show W_X12_fact _ _ _ _ _ _ _ _ _
    simp only [w_X12_fact_45, w_X12_fact_48, w_X12_fact_49, w_X12_fact_107, pm_1i_c, pm_2i_c, pm_1l_c, pm_2l_c, pm_1a_c, pm_ia_c, pm_iia_c, pm_va_c, pm_cp_c, pm_k0_c, pm_k1_c, pm_k2_c, pm_k3_c, pm_s1_c, pm_s2_c, pm_s3_c, pm_s4_c, pm_ri_c, pm_ra_c, pm_rn_c, pm_rk_i, pm_rk_z, pm_rk_a, pm_vk_i, pm_vk_z, pm_vk_a, pm_cti, pm_ctr, pm_ldi_z, pm_ldi_s, pm_lda_z, pm_lda_s, pm_cat_n, pm_cat_i, pm_cat_r, pm_cat_l, pm_obj, pm_arr, pm_opt, pm_ird, pm_aln, List.getElem?_cons_zero, List.getElem?_cons_succ, List.set_cons_zero, List.set_cons_succ, List.length_cons, List.length_nil, List.length_set, true_and, and_true, Nat.add_zero, Nat.zero_add, Nat.le_refl, Nat.reduceAdd, Nat.reduceLT, Nat.reduceLeDiff, Nat.zero_le, not_false_eq_true, not_true_eq_false, false_implies, implies_true, true_implies, Nat.zero_lt_succ, Nat.lt_add_one, pm_tl_n, pm_tl_s, sc_uL, l1, l2, l3, l4, show ¬ (1 : Int32) = 0 by decide]
    exact ⟨3, p4, b4, rfl, P4, by omega, Or.inl ⟨3, by omega, rfl, c4, S4, by have := lt4 c4; omega⟩⟩
  rw [no _ c4] at S4
  obtain ⟨e4, f4⟩ := at4 c4 hf
  rw [e3] at e4 f4
  rw [kk] at e4 f4
  simp only [if_neg (show ¬ taB (cuF bs dm).1 (nI (256 + 3)) s = true by rw [c4]; decide)]
  show W_X12_fact _ _ _ _ _ _ _ _ _
  simp only [w_X12_fact_45, w_X12_fact_52, w_X12_fact_53, w_X12_fact_55, pm_1i_c, pm_2i_c, pm_1l_c, pm_2l_c, pm_1a_c, pm_ia_c, pm_iia_c, pm_va_c, pm_cp_c, pm_k0_c, pm_k1_c, pm_k2_c, pm_k3_c, pm_s1_c, pm_s2_c, pm_s3_c, pm_s4_c, pm_ri_c, pm_ra_c, pm_rn_c, pm_rk_i, pm_rk_z, pm_rk_a, pm_vk_i, pm_vk_z, pm_vk_a, pm_cti, pm_ctr, pm_ldi_z, pm_ldi_s, pm_lda_z, pm_lda_s, pm_cat_n, pm_cat_i, pm_cat_r, pm_cat_l, pm_obj, pm_arr, pm_opt, pm_ird, pm_aln, List.getElem?_cons_zero, List.getElem?_cons_succ, List.set_cons_zero, List.set_cons_succ, List.length_cons, List.length_nil, List.length_set, true_and, and_true, Nat.add_zero, Nat.zero_add, Nat.le_refl, Nat.reduceAdd, Nat.reduceLT, Nat.reduceLeDiff, Nat.zero_le, not_false_eq_true, not_true_eq_false, false_implies, implies_true, true_implies, Nat.zero_lt_succ, Nat.lt_add_one, pm_tl_n, pm_tl_s, sc_uL, H4, l1, l2, l3, l4]
  refine PM_use (c_Y_takesWord P4 T S4 wdk_out (a := 1000008) rfl d) ?_
  rintro x h5 l5 ⟨rfl, p5, b5, P5, S5, le5, lt5, at5, -⟩
  have H5 := P5.c0
  rcases Bool.eq_false_or_eq_true (taB (cuF bs dm).1 (nI (256 + 4)) s) with c5 | c5
  · simp only [if_pos c5]
    show W_X12_fact _ _ _ _ _ _ _ _ _
    simp only [w_X12_fact_58, w_X12_fact_61, w_X12_fact_62, w_X12_fact_107, pm_1i_c, pm_2i_c, pm_1l_c, pm_2l_c, pm_1a_c, pm_ia_c, pm_iia_c, pm_va_c, pm_cp_c, pm_k0_c, pm_k1_c, pm_k2_c, pm_k3_c, pm_s1_c, pm_s2_c, pm_s3_c, pm_s4_c, pm_ri_c, pm_ra_c, pm_rn_c, pm_rk_i, pm_rk_z, pm_rk_a, pm_vk_i, pm_vk_z, pm_vk_a, pm_cti, pm_ctr, pm_ldi_z, pm_ldi_s, pm_lda_z, pm_lda_s, pm_cat_n, pm_cat_i, pm_cat_r, pm_cat_l, pm_obj, pm_arr, pm_opt, pm_ird, pm_aln, List.getElem?_cons_zero, List.getElem?_cons_succ, List.set_cons_zero, List.set_cons_succ, List.length_cons, List.length_nil, List.length_set, true_and, and_true, Nat.add_zero, Nat.zero_add, Nat.le_refl, Nat.reduceAdd, Nat.reduceLT, Nat.reduceLeDiff, Nat.zero_le, not_false_eq_true, not_true_eq_false, false_implies, implies_true, true_implies, Nat.zero_lt_succ, Nat.lt_add_one, pm_tl_n, pm_tl_s, sc_uL, l1, l2, l3, l4, l5, show ¬ (1 : Int32) = 0 by decide]
    exact ⟨4, p5, b5, rfl, P5, by omega, Or.inl ⟨4, by omega, rfl, c5, S5, by have := lt5 c5; omega⟩⟩
  rw [no _ c5] at S5
  obtain ⟨e5, f5⟩ := at5 c5 hf
  rw [e4] at e5 f5
  rw [kk] at e5 f5
  simp only [if_neg (show ¬ taB (cuF bs dm).1 (nI (256 + 4)) s = true by rw [c5]; decide)]
  show W_X12_fact _ _ _ _ _ _ _ _ _
  simp only [w_X12_fact_58, w_X12_fact_65, w_X12_fact_66, w_X12_fact_68, pm_1i_c, pm_2i_c, pm_1l_c, pm_2l_c, pm_1a_c, pm_ia_c, pm_iia_c, pm_va_c, pm_cp_c, pm_k0_c, pm_k1_c, pm_k2_c, pm_k3_c, pm_s1_c, pm_s2_c, pm_s3_c, pm_s4_c, pm_ri_c, pm_ra_c, pm_rn_c, pm_rk_i, pm_rk_z, pm_rk_a, pm_vk_i, pm_vk_z, pm_vk_a, pm_cti, pm_ctr, pm_ldi_z, pm_ldi_s, pm_lda_z, pm_lda_s, pm_cat_n, pm_cat_i, pm_cat_r, pm_cat_l, pm_obj, pm_arr, pm_opt, pm_ird, pm_aln, List.getElem?_cons_zero, List.getElem?_cons_succ, List.set_cons_zero, List.set_cons_succ, List.length_cons, List.length_nil, List.length_set, true_and, and_true, Nat.add_zero, Nat.zero_add, Nat.le_refl, Nat.reduceAdd, Nat.reduceLT, Nat.reduceLeDiff, Nat.zero_le, not_false_eq_true, not_true_eq_false, false_implies, implies_true, true_implies, Nat.zero_lt_succ, Nat.lt_add_one, pm_tl_n, pm_tl_s, sc_uL, H5, l1, l2, l3, l4, l5]
  refine PM_use (c_Y_takesWord P5 T S5 wdk_door (a := 1000009) rfl d) ?_
  rintro x h6 l6 ⟨rfl, p6, b6, P6, S6, le6, lt6, at6, -⟩
  have H6 := P6.c0
  rcases Bool.eq_false_or_eq_true (taB (cuF bs dm).1 (nI (256 + 5)) s) with c6 | c6
  · simp only [if_pos c6]
    show W_X12_fact _ _ _ _ _ _ _ _ _
    simp only [w_X12_fact_71, w_X12_fact_74, w_X12_fact_75, w_X12_fact_107, pm_1i_c, pm_2i_c, pm_1l_c, pm_2l_c, pm_1a_c, pm_ia_c, pm_iia_c, pm_va_c, pm_cp_c, pm_k0_c, pm_k1_c, pm_k2_c, pm_k3_c, pm_s1_c, pm_s2_c, pm_s3_c, pm_s4_c, pm_ri_c, pm_ra_c, pm_rn_c, pm_rk_i, pm_rk_z, pm_rk_a, pm_vk_i, pm_vk_z, pm_vk_a, pm_cti, pm_ctr, pm_ldi_z, pm_ldi_s, pm_lda_z, pm_lda_s, pm_cat_n, pm_cat_i, pm_cat_r, pm_cat_l, pm_obj, pm_arr, pm_opt, pm_ird, pm_aln, List.getElem?_cons_zero, List.getElem?_cons_succ, List.set_cons_zero, List.set_cons_succ, List.length_cons, List.length_nil, List.length_set, true_and, and_true, Nat.add_zero, Nat.zero_add, Nat.le_refl, Nat.reduceAdd, Nat.reduceLT, Nat.reduceLeDiff, Nat.zero_le, not_false_eq_true, not_true_eq_false, false_implies, implies_true, true_implies, Nat.zero_lt_succ, Nat.lt_add_one, pm_tl_n, pm_tl_s, sc_uL, l1, l2, l3, l4, l5, l6, show ¬ (1 : Int32) = 0 by decide]
    exact ⟨5, p6, b6, rfl, P6, by omega, Or.inl ⟨5, by omega, rfl, c6, S6, by have := lt6 c6; omega⟩⟩
  rw [no _ c6] at S6
  obtain ⟨e6, f6⟩ := at6 c6 hf
  rw [e5] at e6 f6
  rw [kk] at e6 f6
  simp only [if_neg (show ¬ taB (cuF bs dm).1 (nI (256 + 5)) s = true by rw [c6]; decide)]
  show W_X12_fact _ _ _ _ _ _ _ _ _
  simp only [w_X12_fact_71, w_X12_fact_78, w_X12_fact_79, w_X12_fact_81, pm_1i_c, pm_2i_c, pm_1l_c, pm_2l_c, pm_1a_c, pm_ia_c, pm_iia_c, pm_va_c, pm_cp_c, pm_k0_c, pm_k1_c, pm_k2_c, pm_k3_c, pm_s1_c, pm_s2_c, pm_s3_c, pm_s4_c, pm_ri_c, pm_ra_c, pm_rn_c, pm_rk_i, pm_rk_z, pm_rk_a, pm_vk_i, pm_vk_z, pm_vk_a, pm_cti, pm_ctr, pm_ldi_z, pm_ldi_s, pm_lda_z, pm_lda_s, pm_cat_n, pm_cat_i, pm_cat_r, pm_cat_l, pm_obj, pm_arr, pm_opt, pm_ird, pm_aln, List.getElem?_cons_zero, List.getElem?_cons_succ, List.set_cons_zero, List.set_cons_succ, List.length_cons, List.length_nil, List.length_set, true_and, and_true, Nat.add_zero, Nat.zero_add, Nat.le_refl, Nat.reduceAdd, Nat.reduceLT, Nat.reduceLeDiff, Nat.zero_le, not_false_eq_true, not_true_eq_false, false_implies, implies_true, true_implies, Nat.zero_lt_succ, Nat.lt_add_one, pm_tl_n, pm_tl_s, sc_uL, H6, l1, l2, l3, l4, l5, l6]
  refine PM_use (c_Y_takesWord P6 T S6 wdk_room (a := 1000010) rfl d) ?_
  rintro x h7 l7 ⟨rfl, p7, b7, P7, S7, le7, lt7, at7, -⟩
  have H7 := P7.c0
  rcases Bool.eq_false_or_eq_true (taB (cuF bs dm).1 (nI (256 + 6)) s) with c7 | c7
  · simp only [if_pos c7]
    show W_X12_fact _ _ _ _ _ _ _ _ _
    simp only [w_X12_fact_84, w_X12_fact_87, w_X12_fact_89, w_X12_fact_107, pm_1i_c, pm_2i_c, pm_1l_c, pm_2l_c, pm_1a_c, pm_ia_c, pm_iia_c, pm_va_c, pm_cp_c, pm_k0_c, pm_k1_c, pm_k2_c, pm_k3_c, pm_s1_c, pm_s2_c, pm_s3_c, pm_s4_c, pm_ri_c, pm_ra_c, pm_rn_c, pm_rk_i, pm_rk_z, pm_rk_a, pm_vk_i, pm_vk_z, pm_vk_a, pm_cti, pm_ctr, pm_ldi_z, pm_ldi_s, pm_lda_z, pm_lda_s, pm_cat_n, pm_cat_i, pm_cat_r, pm_cat_l, pm_obj, pm_arr, pm_opt, pm_ird, pm_aln, List.getElem?_cons_zero, List.getElem?_cons_succ, List.set_cons_zero, List.set_cons_succ, List.length_cons, List.length_nil, List.length_set, true_and, and_true, Nat.add_zero, Nat.zero_add, Nat.le_refl, Nat.reduceAdd, Nat.reduceLT, Nat.reduceLeDiff, Nat.zero_le, not_false_eq_true, not_true_eq_false, false_implies, implies_true, true_implies, Nat.zero_lt_succ, Nat.lt_add_one, pm_tl_n, pm_tl_s, sc_uL, l1, l2, l3, l4, l5, l6, l7, show ¬ (1 : Int32) = 0 by decide]
    exact ⟨6, p7, b7, rfl, P7, by omega, Or.inl ⟨6, by omega, rfl, c7, S7, by have := lt7 c7; omega⟩⟩
  rw [no _ c7] at S7
  obtain ⟨e7, f7⟩ := at7 c7 hf
  rw [e6] at e7 f7
  rw [kk] at e7 f7
  simp only [if_neg (show ¬ taB (cuF bs dm).1 (nI (256 + 6)) s = true by rw [c7]; decide)]
  show W_X12_fact _ _ _ _ _ _ _ _ _
  simp only [w_X12_fact_84, w_X12_fact_92, w_X12_fact_93, w_X12_fact_95, pm_1i_c, pm_2i_c, pm_1l_c, pm_2l_c, pm_1a_c, pm_ia_c, pm_iia_c, pm_va_c, pm_cp_c, pm_k0_c, pm_k1_c, pm_k2_c, pm_k3_c, pm_s1_c, pm_s2_c, pm_s3_c, pm_s4_c, pm_ri_c, pm_ra_c, pm_rn_c, pm_rk_i, pm_rk_z, pm_rk_a, pm_vk_i, pm_vk_z, pm_vk_a, pm_cti, pm_ctr, pm_ldi_z, pm_ldi_s, pm_lda_z, pm_lda_s, pm_cat_n, pm_cat_i, pm_cat_r, pm_cat_l, pm_obj, pm_arr, pm_opt, pm_ird, pm_aln, List.getElem?_cons_zero, List.getElem?_cons_succ, List.set_cons_zero, List.set_cons_succ, List.length_cons, List.length_nil, List.length_set, true_and, and_true, Nat.add_zero, Nat.zero_add, Nat.le_refl, Nat.reduceAdd, Nat.reduceLT, Nat.reduceLeDiff, Nat.zero_le, not_false_eq_true, not_true_eq_false, false_implies, implies_true, true_implies, Nat.zero_lt_succ, Nat.lt_add_one, pm_tl_n, pm_tl_s, sc_uL, H7, l1, l2, l3, l4, l5, l6, l7]
  refine PM_use (c_Y_takesWord P7 T S7 wdk_key (a := 1000011) rfl d) ?_
  rintro x h8 l8 ⟨rfl, p8, b8, P8, S8, le8, lt8, at8, -⟩
  have H8 := P8.c0
  rcases Bool.eq_false_or_eq_true (taB (cuF bs dm).1 (nI (256 + 7)) s) with c8 | c8
  · simp only [if_pos c8]
    show W_X12_fact _ _ _ _ _ _ _ _ _
    simp only [w_X12_fact_98, w_X12_fact_101, w_X12_fact_103, w_X12_fact_107, pm_1i_c, pm_2i_c, pm_1l_c, pm_2l_c, pm_1a_c, pm_ia_c, pm_iia_c, pm_va_c, pm_cp_c, pm_k0_c, pm_k1_c, pm_k2_c, pm_k3_c, pm_s1_c, pm_s2_c, pm_s3_c, pm_s4_c, pm_ri_c, pm_ra_c, pm_rn_c, pm_rk_i, pm_rk_z, pm_rk_a, pm_vk_i, pm_vk_z, pm_vk_a, pm_cti, pm_ctr, pm_ldi_z, pm_ldi_s, pm_lda_z, pm_lda_s, pm_cat_n, pm_cat_i, pm_cat_r, pm_cat_l, pm_obj, pm_arr, pm_opt, pm_ird, pm_aln, List.getElem?_cons_zero, List.getElem?_cons_succ, List.set_cons_zero, List.set_cons_succ, List.length_cons, List.length_nil, List.length_set, true_and, and_true, Nat.add_zero, Nat.zero_add, Nat.le_refl, Nat.reduceAdd, Nat.reduceLT, Nat.reduceLeDiff, Nat.zero_le, not_false_eq_true, not_true_eq_false, false_implies, implies_true, true_implies, Nat.zero_lt_succ, Nat.lt_add_one, pm_tl_n, pm_tl_s, sc_uL, l1, l2, l3, l4, l5, l6, l7, l8, show ¬ (1 : Int32) = 0 by decide]
    exact ⟨7, p8, b8, rfl, P8, by omega, Or.inl ⟨7, by omega, rfl, c8, S8, by have := lt8 c8; omega⟩⟩
  rw [no _ c8] at S8
  obtain ⟨e8, f8⟩ := at8 c8 hf
  rw [e7] at e8 f8
  rw [kk] at e8 f8
  simp only [if_neg (show ¬ taB (cuF bs dm).1 (nI (256 + 7)) s = true by rw [c8]; decide)]
  show W_X12_fact _ _ _ _ _ _ _ _ _
  simp only [w_X12_fact_98, w_X12_fact_106, w_X12_fact_107, pm_1i_c, pm_2i_c, pm_1l_c, pm_2l_c, pm_1a_c, pm_ia_c, pm_iia_c, pm_va_c, pm_cp_c, pm_k0_c, pm_k1_c, pm_k2_c, pm_k3_c, pm_s1_c, pm_s2_c, pm_s3_c, pm_s4_c, pm_ri_c, pm_ra_c, pm_rn_c, pm_rk_i, pm_rk_z, pm_rk_a, pm_vk_i, pm_vk_z, pm_vk_a, pm_cti, pm_ctr, pm_ldi_z, pm_ldi_s, pm_lda_z, pm_lda_s, pm_cat_n, pm_cat_i, pm_cat_r, pm_cat_l, pm_obj, pm_arr, pm_opt, pm_ird, pm_aln, List.getElem?_cons_zero, List.getElem?_cons_succ, List.set_cons_zero, List.set_cons_succ, List.length_cons, List.length_nil, List.length_set, true_and, and_true, Nat.add_zero, Nat.zero_add, Nat.le_refl, Nat.reduceAdd, Nat.reduceLT, Nat.reduceLeDiff, Nat.zero_le, not_false_eq_true, not_true_eq_false, false_implies, implies_true, true_implies, Nat.zero_lt_succ, Nat.lt_add_one, pm_tl_n, pm_tl_s, sc_uL, l1, l2, l3, l4, l5, l6, l7, l8]
  refine ⟨-1, p8, b8, rfl, P8, by omega, Or.inr ⟨rfl, fun i hi => ?_, S8, f8.trans e8.symm, e8⟩⟩
  have hi : i = 0 ∨ i = 1 ∨ i = 2 ∨ i = 3 ∨ i = 4 ∨ i = 5 ∨ i = 6 ∨ i = 7 := by omega
  rcases hi with rfl | rfl | rfl | rfl | rfl | rfl | rfl | rfl
  · exact c1
  · exact c2
  · exact c3
  · exact c4
  · exact c5
  · exact c6
  · exact c7
  · exact c8
end ML
