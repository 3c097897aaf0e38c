/-! Desk: moving up, contests. -/
section DP
variable {h : pmH} {B : Nat} {A : AD}
/-- what the pure machine does at 'tried.insert(0, row.removeLast())', as two rows change -/
theorem dk_.mv1 {h1 : pmH} (D : dk_ h B A) {q : Nat} (hq : q = 1 ∨ q = 3) (K1 : rw_ h1 (B + (10 + 2 * q)) 65 (li A q).dropLast) (f1 : fr2 h h1 (B + (10 + 2 * q))) : dk_ h1 B (drpR A q) ∧ frd h h1 B := by
  refine ⟨D.ur (p := q) (by omega) (by omega) ?_ f1, frd_2 q f1 (by omega)⟩
  have : capR q = 65 := by unfold capR; rw [if_pos (by omega)]
  rw [this]
  exact K1
theorem c_Desk_moveUp (D0 : dk_ h B A) {p : Nat} (hp1 : 1 ≤ p) (hp3 : p ≤ 3) (key : Int32) (d : Nat) : PM (d + 4) 13 [.ref B, .int (nI p), .int key] h (fun v h' => v = none ∧ dk_ h' B (mvF A p key) ∧ frd h h' B) := by
  refine en_X2_moveUp rfl rfl rfl ?_
  have tail : ∀ (h4 : pmH) (A2 : AD) (x4 : Option Value), dk_ h4 B A2 → h4.length = h.length → frd h h4 B → mvE A2 = mvF A p key → W_X2_moveUp (d + 3) (h.length + 0) 0 (fun v h' => v = none ∧ dk_ h' B (mvF A p key) ∧ frd h h' B) 41 [some (.ref B), some (.int (nI p)), some (.int key), some (.ref (B + (10 + 2 * p))), x4] [] h4 0 := by
    intro h4 A2 x4 D2 l4 f4 eq
    have xo2 := D2.o
    have xa2 := D2.sh
    have xb2 := D2.ko
    have xc2 := D2.lo
    have xf2 := D2.co
    have x12 := D2.wo
    have x22 := D2.to
    have x32 := D2.so
    have x42 := D2.go
    have x52 := D2.po
    simp only [w_X2_moveUp_0, w_X2_moveUp_1, w_X2_moveUp_2, w_X2_moveUp_5, w_X2_moveUp_6, w_X2_moveUp_7, w_X2_moveUp_8, w_X2_moveUp_9, w_X2_moveUp_12, w_X2_moveUp_15, w_X2_moveUp_16, w_X2_moveUp_17, w_X2_moveUp_18, w_X2_moveUp_21, w_X2_moveUp_22, w_X2_moveUp_25, w_X2_moveUp_28, w_X2_moveUp_29, w_X2_moveUp_32, w_X2_moveUp_34, w_X2_moveUp_36, w_X2_moveUp_37, w_X2_moveUp_38, w_X2_moveUp_41, w_X2_moveUp_42, w_X2_moveUp_45, w_X2_moveUp_48, w_X2_moveUp_49, w_X2_moveUp_52, w_X2_moveUp_55, w_X2_moveUp_58, w_X2_moveUp_59, w_X2_moveUp_62, w_X2_moveUp_63, w_X2_moveUp_64, w_X2_moveUp_67, w_X2_moveUp_70, w_X2_moveUp_73, pm_1i_c, pm_2i_c, pm_1l_c, pm_2l_c, pm_1a_c, pm_ia_c, pm_iia_c, pm_va_c, pm_cp_c, pm_k0_c, pm_k1_c, pm_k2_c, pm_k3_c, pm_s1_c, pm_s2_c, pm_s3_c, pm_s4_c, pm_ri_c, pm_ra_c, pm_rn_c, pm_rk_i, pm_rk_z, pm_rk_a, pm_vk_i, pm_vk_z, pm_vk_a, pm_cti, pm_ctr, pm_ldi_z, pm_ldi_s, pm_lda_z, pm_lda_s, pm_cat_n, pm_cat_i, pm_cat_r, pm_cat_l, pm_obj, pm_arr, pm_opt, pm_ird, pm_aln, List.getElem?_cons_zero, List.getElem?_cons_succ, List.set_cons_zero, List.set_cons_succ, List.length_cons, List.length_nil, List.length_set, true_and, and_true, Nat.add_zero, Nat.zero_add, Nat.le_refl, Nat.reduceAdd, Nat.reduceLT, Nat.reduceLeDiff, Nat.zero_le, not_false_eq_true, not_true_eq_false, false_implies, implies_true, true_implies, Nat.zero_lt_succ, Nat.lt_add_one, xo2, xa2, xb2, xc2, xf2, x12, x22, x32, x42, x52, l4]
    refine PM_use (c_Row_size D2.s (d + 2)) ?_
    rintro v h5 l5 ⟨rfl, rfl⟩
    show W_X2_moveUp _ _ _ _ _ _ _ _ _
    simp only [w_X2_moveUp_0, w_X2_moveUp_1, w_X2_moveUp_2, w_X2_moveUp_5, w_X2_moveUp_6, w_X2_moveUp_7, w_X2_moveUp_8, w_X2_moveUp_9, w_X2_moveUp_12, w_X2_moveUp_15, w_X2_moveUp_16, w_X2_moveUp_17, w_X2_moveUp_18, w_X2_moveUp_21, w_X2_moveUp_22, w_X2_moveUp_25, w_X2_moveUp_28, w_X2_moveUp_29, w_X2_moveUp_32, w_X2_moveUp_34, w_X2_moveUp_36, w_X2_moveUp_37, w_X2_moveUp_38, w_X2_moveUp_41, w_X2_moveUp_42, w_X2_moveUp_45, w_X2_moveUp_48, w_X2_moveUp_49, w_X2_moveUp_52, w_X2_moveUp_55, w_X2_moveUp_58, w_X2_moveUp_59, w_X2_moveUp_62, w_X2_moveUp_63, w_X2_moveUp_64, w_X2_moveUp_67, w_X2_moveUp_70, w_X2_moveUp_73, pm_1i_c, pm_2i_c, pm_1l_c, pm_2l_c, pm_1a_c, pm_ia_c, pm_iia_c, pm_va_c, pm_cp_c, pm_k0_c, pm_k1_c, pm_k2_c, pm_k3_c, pm_s1_c, pm_s2_c, pm_s3_c, pm_s4_c, pm_ri_c, pm_ra_c, pm_rn_c, pm_rk_i, pm_rk_z, pm_rk_a, pm_vk_i, pm_vk_z, pm_vk_a, pm_cti, pm_ctr, pm_ldi_z, pm_ldi_s, pm_lda_z, pm_lda_s, pm_cat_n, pm_cat_i, pm_cat_r, pm_cat_l, pm_obj, pm_arr, pm_opt, pm_ird, pm_aln, List.getElem?_cons_zero, List.getElem?_cons_succ, List.set_cons_zero, List.set_cons_succ, List.length_cons, List.length_nil, List.length_set, true_and, and_true, Nat.add_zero, Nat.zero_add, Nat.le_refl, Nat.reduceAdd, Nat.reduceLT, Nat.reduceLeDiff, Nat.zero_le, not_false_eq_true, not_true_eq_false, false_implies, implies_true, true_implies, Nat.zero_lt_succ, Nat.lt_add_one, pm_tl_n, pm_tl_s, sc_uL, xo2, xa2, xb2, xc2, xf2, x12, x22, x32, x42, x52, l4]
    refine PM_use (c_Shares_safeFor D2.sh d) ?_
    rintro v h6 l6 ⟨rfl, rfl⟩
    show W_X2_moveUp _ _ _ _ _ _ _ _ _
    simp only [w_X2_moveUp_0, w_X2_moveUp_1, w_X2_moveUp_2, w_X2_moveUp_5, w_X2_moveUp_6, w_X2_moveUp_7, w_X2_moveUp_8, w_X2_moveUp_9, w_X2_moveUp_12, w_X2_moveUp_15, w_X2_moveUp_16, w_X2_moveUp_17, w_X2_moveUp_18, w_X2_moveUp_21, w_X2_moveUp_22, w_X2_moveUp_25, w_X2_moveUp_28, w_X2_moveUp_29, w_X2_moveUp_32, w_X2_moveUp_34, w_X2_moveUp_36, w_X2_moveUp_37, w_X2_moveUp_38, w_X2_moveUp_41, w_X2_moveUp_42, w_X2_moveUp_45, w_X2_moveUp_48, w_X2_moveUp_49, w_X2_moveUp_52, w_X2_moveUp_55, w_X2_moveUp_58, w_X2_moveUp_59, w_X2_moveUp_62, w_X2_moveUp_63, w_X2_moveUp_64, w_X2_moveUp_67, w_X2_moveUp_70, w_X2_moveUp_73, pm_1i_c, pm_2i_c, pm_1l_c, pm_2l_c, pm_1a_c, pm_ia_c, pm_iia_c, pm_va_c, pm_cp_c, pm_k0_c, pm_k1_c, pm_k2_c, pm_k3_c, pm_s1_c, pm_s2_c, pm_s3_c, pm_s4_c, pm_ri_c, pm_ra_c, pm_rn_c, pm_rk_i, pm_rk_z, pm_rk_a, pm_vk_i, pm_vk_z, pm_vk_a, pm_cti, pm_ctr, pm_ldi_z, pm_ldi_s, pm_lda_z, pm_lda_s, pm_cat_n, pm_cat_i, pm_cat_r, pm_cat_l, pm_obj, pm_arr, pm_opt, pm_ird, pm_aln, List.getElem?_cons_zero, List.getElem?_cons_succ, List.set_cons_zero, List.set_cons_succ, List.length_cons, List.length_nil, List.length_set, true_and, and_true, Nat.add_zero, Nat.zero_add, Nat.le_refl, Nat.reduceAdd, Nat.reduceLT, Nat.reduceLeDiff, Nat.zero_le, not_false_eq_true, not_true_eq_false, false_implies, implies_true, true_implies, Nat.zero_lt_succ, Nat.lt_add_one, pm_tl_n, pm_tl_s, sc_uL, xo2, xa2, xb2, xc2, xf2, x12, x22, x32, x42, x52, l4]
    rw [← eq]
    unfold mvE
    refine ⟨fun c => by rw [if_neg c]; exact ⟨D2, f4⟩, fun c => ?_⟩
    rw [if_pos c]
    refine PM_use (c_Row_removeLast D2.s (d + 1)) ?_
    rintro v h7 l7 ⟨rfl, K3, K4⟩
    obtain ⟨D3, f3⟩ := D2.mv1 (q := 3) (Or.inr rfl) K3 K4
    have xo3 := D3.o
    have xa3 := D3.sh
    have xb3 := D3.ko
    have xc3 := D3.lo
    have xf3 := D3.co
    have x13 := D3.wo
    have x23 := D3.to
    have x33 := D3.so
    have x43 := D3.go
    have x53 := D3.po
    show W_X2_moveUp _ _ _ _ _ _ _ _ _
    simp only [w_X2_moveUp_0, w_X2_moveUp_1, w_X2_moveUp_2, w_X2_moveUp_5, w_X2_moveUp_6, w_X2_moveUp_7, w_X2_moveUp_8, w_X2_moveUp_9, w_X2_moveUp_12, w_X2_moveUp_15, w_X2_moveUp_16, w_X2_moveUp_17, w_X2_moveUp_18, w_X2_moveUp_21, w_X2_moveUp_22, w_X2_moveUp_25, w_X2_moveUp_28, w_X2_moveUp_29, w_X2_moveUp_32, w_X2_moveUp_34, w_X2_moveUp_36, w_X2_moveUp_37, w_X2_moveUp_38, w_X2_moveUp_41, w_X2_moveUp_42, w_X2_moveUp_45, w_X2_moveUp_48, w_X2_moveUp_49, w_X2_moveUp_52, w_X2_moveUp_55, w_X2_moveUp_58, w_X2_moveUp_59, w_X2_moveUp_62, w_X2_moveUp_63, w_X2_moveUp_64, w_X2_moveUp_67, w_X2_moveUp_70, w_X2_moveUp_73, pm_1i_c, pm_2i_c, pm_1l_c, pm_2l_c, pm_1a_c, pm_ia_c, pm_iia_c, pm_va_c, pm_cp_c, pm_k0_c, pm_k1_c, pm_k2_c, pm_k3_c, pm_s1_c, pm_s2_c, pm_s3_c, pm_s4_c, pm_ri_c, pm_ra_c, pm_rn_c, pm_rk_i, pm_rk_z, pm_rk_a, pm_vk_i, pm_vk_z, pm_vk_a, pm_cti, pm_ctr, pm_ldi_z, pm_ldi_s, pm_lda_z, pm_lda_s, pm_cat_n, pm_cat_i, pm_cat_r, pm_cat_l, pm_obj, pm_arr, pm_opt, pm_ird, pm_aln, List.getElem?_cons_zero, List.getElem?_cons_succ, List.set_cons_zero, List.set_cons_succ, List.length_cons, List.length_nil, List.length_set, true_and, and_true, Nat.add_zero, Nat.zero_add, Nat.le_refl, Nat.reduceAdd, Nat.reduceLT, Nat.reduceLeDiff, Nat.zero_le, not_false_eq_true, not_true_eq_false, false_implies, implies_true, true_implies, Nat.zero_lt_succ, Nat.lt_add_one, pm_tl_n, pm_tl_s, sc_uL, xo3, xa3, xb3, xc3, xf3, x13, x23, x33, x43, x53, l7, l4]
    refine PM_use (c_Row_ins0 D3.t (by omega) ((li A2 3).getLastD (-1)) (d + 2)) ?_
    rintro v h8 l8 ⟨rfl, K5, K6⟩
    show W_X2_moveUp _ _ _ _ _ _ _ _ _
    simp only [w_X2_moveUp_0, w_X2_moveUp_1, w_X2_moveUp_2, w_X2_moveUp_5, w_X2_moveUp_6, w_X2_moveUp_7, w_X2_moveUp_8, w_X2_moveUp_9, w_X2_moveUp_12, w_X2_moveUp_15, w_X2_moveUp_16, w_X2_moveUp_17, w_X2_moveUp_18, w_X2_moveUp_21, w_X2_moveUp_22, w_X2_moveUp_25, w_X2_moveUp_28, w_X2_moveUp_29, w_X2_moveUp_32, w_X2_moveUp_34, w_X2_moveUp_36, w_X2_moveUp_37, w_X2_moveUp_38, w_X2_moveUp_41, w_X2_moveUp_42, w_X2_moveUp_45, w_X2_moveUp_48, w_X2_moveUp_49, w_X2_moveUp_52, w_X2_moveUp_55, w_X2_moveUp_58, w_X2_moveUp_59, w_X2_moveUp_62, w_X2_moveUp_63, w_X2_moveUp_64, w_X2_moveUp_67, w_X2_moveUp_70, w_X2_moveUp_73, pm_1i_c, pm_2i_c, pm_1l_c, pm_2l_c, pm_1a_c, pm_ia_c, pm_iia_c, pm_va_c, pm_cp_c, pm_k0_c, pm_k1_c, pm_k2_c, pm_k3_c, pm_s1_c, pm_s2_c, pm_s3_c, pm_s4_c, pm_ri_c, pm_ra_c, pm_rn_c, pm_rk_i, pm_rk_z, pm_rk_a, pm_vk_i, pm_vk_z, pm_vk_a, pm_cti, pm_ctr, pm_ldi_z, pm_ldi_s, pm_lda_z, pm_lda_s, pm_cat_n, pm_cat_i, pm_cat_r, pm_cat_l, pm_obj, pm_arr, pm_opt, pm_ird, pm_aln, List.getElem?_cons_zero, List.getElem?_cons_succ, List.set_cons_zero, List.set_cons_succ, List.length_cons, List.length_nil, List.length_set, true_and, and_true, Nat.add_zero, Nat.zero_add, Nat.le_refl, Nat.reduceAdd, Nat.reduceLT, Nat.reduceLeDiff, Nat.zero_le, not_false_eq_true, not_true_eq_false, false_implies, implies_true, true_implies, Nat.zero_lt_succ, Nat.lt_add_one, pm_tl_n, pm_tl_s, sc_uL, l8, l7, l4]
    exact ⟨D3.ut K5 K6, (f4.tr f3).tr (frd_2 2 K6 (by omega))⟩
  have xo0 := D0.o
  have xa0 := D0.sh
  have xb0 := D0.ko
  have xc0 := D0.lo
  have xf0 := D0.co
  have x10 := D0.wo
  have x20 := D0.to
  have x30 := D0.so
  have x40 := D0.go
  have x50 := D0.po
  simp only [w_X2_moveUp_0, w_X2_moveUp_1, w_X2_moveUp_2, w_X2_moveUp_5, w_X2_moveUp_6, w_X2_moveUp_7, w_X2_moveUp_8, w_X2_moveUp_9, w_X2_moveUp_12, w_X2_moveUp_15, w_X2_moveUp_16, w_X2_moveUp_17, w_X2_moveUp_18, w_X2_moveUp_21, w_X2_moveUp_22, w_X2_moveUp_25, w_X2_moveUp_28, w_X2_moveUp_29, w_X2_moveUp_32, w_X2_moveUp_34, w_X2_moveUp_36, w_X2_moveUp_37, w_X2_moveUp_38, w_X2_moveUp_41, w_X2_moveUp_42, w_X2_moveUp_45, w_X2_moveUp_48, w_X2_moveUp_49, w_X2_moveUp_52, w_X2_moveUp_55, w_X2_moveUp_58, w_X2_moveUp_59, w_X2_moveUp_62, w_X2_moveUp_63, w_X2_moveUp_64, w_X2_moveUp_67, w_X2_moveUp_70, w_X2_moveUp_73, pm_1i_c, pm_2i_c, pm_1l_c, pm_2l_c, pm_1a_c, pm_ia_c, pm_iia_c, pm_va_c, pm_cp_c, pm_k0_c, pm_k1_c, pm_k2_c, pm_k3_c, pm_s1_c, pm_s2_c, pm_s3_c, pm_s4_c, pm_ri_c, pm_ra_c, pm_rn_c, pm_rk_i, pm_rk_z, pm_rk_a, pm_vk_i, pm_vk_z, pm_vk_a, pm_cti, pm_ctr, pm_ldi_z, pm_ldi_s, pm_lda_z, pm_lda_s, pm_cat_n, pm_cat_i, pm_cat_r, pm_cat_l, pm_obj, pm_arr, pm_opt, pm_ird, pm_aln, List.getElem?_cons_zero, List.getElem?_cons_succ, List.set_cons_zero, List.set_cons_succ, List.length_cons, List.length_nil, List.length_set, true_and, and_true, Nat.add_zero, Nat.zero_add, Nat.le_refl, Nat.reduceAdd, Nat.reduceLT, Nat.reduceLeDiff, Nat.zero_le, not_false_eq_true, not_true_eq_false, false_implies, implies_true, true_implies, Nat.zero_lt_succ, Nat.lt_add_one, xo0, xa0, xb0, xc0, xf0, x10, x20, x30, x40, x50]
  refine PM_use (c_Desk_rowOf D0 hp1 hp3 (d + 2)) ?_
  rintro v h1 l1 ⟨rfl, rfl⟩
  have row := D0.row hp1 (by omega : p ≤ 5)
  have ro := row.o
  show W_X2_moveUp _ _ _ _ _ _ _ _ _
  simp only [w_X2_moveUp_0, w_X2_moveUp_1, w_X2_moveUp_2, w_X2_moveUp_5, w_X2_moveUp_6, w_X2_moveUp_7, w_X2_moveUp_8, w_X2_moveUp_9, w_X2_moveUp_12, w_X2_moveUp_15, w_X2_moveUp_16, w_X2_moveUp_17, w_X2_moveUp_18, w_X2_moveUp_21, w_X2_moveUp_22, w_X2_moveUp_25, w_X2_moveUp_28, w_X2_moveUp_29, w_X2_moveUp_32, w_X2_moveUp_34, w_X2_moveUp_36, w_X2_moveUp_37, w_X2_moveUp_38, w_X2_moveUp_41, w_X2_moveUp_42, w_X2_moveUp_45, w_X2_moveUp_48, w_X2_moveUp_49, w_X2_moveUp_52, w_X2_moveUp_55, w_X2_moveUp_58, w_X2_moveUp_59, w_X2_moveUp_62, w_X2_moveUp_63, w_X2_moveUp_64, w_X2_moveUp_67, w_X2_moveUp_70, w_X2_moveUp_73, pm_1i_c, pm_2i_c, pm_1l_c, pm_2l_c, pm_1a_c, pm_ia_c, pm_iia_c, pm_va_c, pm_cp_c, pm_k0_c, pm_k1_c, pm_k2_c, pm_k3_c, pm_s1_c, pm_s2_c, pm_s3_c, pm_s4_c, pm_ri_c, pm_ra_c, pm_rn_c, pm_rk_i, pm_rk_z, pm_rk_a, pm_vk_i, pm_vk_z, pm_vk_a, pm_cti, pm_ctr, pm_ldi_z, pm_ldi_s, pm_lda_z, pm_lda_s, pm_cat_n, pm_cat_i, pm_cat_r, pm_cat_l, pm_obj, pm_arr, pm_opt, pm_ird, pm_aln, List.getElem?_cons_zero, List.getElem?_cons_succ, List.set_cons_zero, List.set_cons_succ, List.length_cons, List.length_nil, List.length_set, true_and, and_true, Nat.add_zero, Nat.zero_add, Nat.le_refl, Nat.reduceAdd, Nat.reduceLT, Nat.reduceLeDiff, Nat.zero_le, not_false_eq_true, not_true_eq_false, false_implies, implies_true, true_implies, Nat.zero_lt_succ, Nat.lt_add_one, pm_tl_n, pm_tl_s, sc_uL, xo0, xa0, xb0, xc0, xf0, x10, x20, x30, x40, x50, ro]
  refine PM_use (c_Row_find row key (d + 2)) ?_
  rintro v h2 l2 ⟨rfl, rfl⟩
  show W_X2_moveUp _ _ _ _ _ _ _ _ _
  simp only [w_X2_moveUp_0, w_X2_moveUp_1, w_X2_moveUp_2, w_X2_moveUp_5, w_X2_moveUp_6, w_X2_moveUp_7, w_X2_moveUp_8, w_X2_moveUp_9, w_X2_moveUp_12, w_X2_moveUp_15, w_X2_moveUp_16, w_X2_moveUp_17, w_X2_moveUp_18, w_X2_moveUp_21, w_X2_moveUp_22, w_X2_moveUp_25, w_X2_moveUp_28, w_X2_moveUp_29, w_X2_moveUp_32, w_X2_moveUp_34, w_X2_moveUp_36, w_X2_moveUp_37, w_X2_moveUp_38, w_X2_moveUp_41, w_X2_moveUp_42, w_X2_moveUp_45, w_X2_moveUp_48, w_X2_moveUp_49, w_X2_moveUp_52, w_X2_moveUp_55, w_X2_moveUp_58, w_X2_moveUp_59, w_X2_moveUp_62, w_X2_moveUp_63, w_X2_moveUp_64, w_X2_moveUp_67, w_X2_moveUp_70, w_X2_moveUp_73, pm_1i_c, pm_2i_c, pm_1l_c, pm_2l_c, pm_1a_c, pm_ia_c, pm_iia_c, pm_va_c, pm_cp_c, pm_k0_c, pm_k1_c, pm_k2_c, pm_k3_c, pm_s1_c, pm_s2_c, pm_s3_c, pm_s4_c, pm_ri_c, pm_ra_c, pm_rn_c, pm_rk_i, pm_rk_z, pm_rk_a, pm_vk_i, pm_vk_z, pm_vk_a, pm_cti, pm_ctr, pm_ldi_z, pm_ldi_s, pm_lda_z, pm_lda_s, pm_cat_n, pm_cat_i, pm_cat_r, pm_cat_l, pm_obj, pm_arr, pm_opt, pm_ird, pm_aln, List.getElem?_cons_zero, List.getElem?_cons_succ, List.set_cons_zero, List.set_cons_succ, List.length_cons, List.length_nil, List.length_set, true_and, and_true, Nat.add_zero, Nat.zero_add, Nat.le_refl, Nat.reduceAdd, Nat.reduceLT, Nat.reduceLeDiff, Nat.zero_le, not_false_eq_true, not_true_eq_false, false_implies, implies_true, true_implies, Nat.zero_lt_succ, Nat.lt_add_one, pm_tl_n, pm_tl_s, sc_uL, xo0, xa0, xb0, xc0, xf0, x10, x20, x30, x40, x50, ro]
  refine PM_use (c_Row_rem row key (d + 2)) ?_
  rintro v h3 l3 ⟨⟨y, rfl⟩, K1, K2⟩
  have D1 := D0.ur hp1 (by omega) K1 K2
  have f1 := frd_2 p K2 (by omega)
  obtain ⟨A1, hA1⟩ : ∃ A1, A1 = uL A p ((li A p).erase key) := ⟨_, rfl⟩
  rw [← hA1] at D1
  have xo1 := D1.o
  have xa1 := D1.sh
  have xb1 := D1.ko
  have xc1 := D1.lo
  have xf1 := D1.co
  have x11 := D1.wo
  have x21 := D1.to
  have x31 := D1.so
  have x41 := D1.go
  have x51 := D1.po
  by_cases c : p = 1
  · have e1 : nI p = 1 := by rw [c]; rfl
    show W_X2_moveUp _ _ _ _ _ _ _ _ _
    simp only [w_X2_moveUp_0, w_X2_moveUp_1, w_X2_moveUp_2, w_X2_moveUp_5, w_X2_moveUp_6, w_X2_moveUp_7, w_X2_moveUp_8, w_X2_moveUp_9, w_X2_moveUp_12, w_X2_moveUp_15, w_X2_moveUp_16, w_X2_moveUp_17, w_X2_moveUp_18, w_X2_moveUp_21, w_X2_moveUp_22, w_X2_moveUp_25, w_X2_moveUp_28, w_X2_moveUp_29, w_X2_moveUp_32, w_X2_moveUp_34, w_X2_moveUp_36, w_X2_moveUp_37, w_X2_moveUp_38, w_X2_moveUp_42, w_X2_moveUp_45, w_X2_moveUp_48, w_X2_moveUp_49, w_X2_moveUp_52, w_X2_moveUp_55, w_X2_moveUp_58, w_X2_moveUp_59, w_X2_moveUp_62, w_X2_moveUp_63, w_X2_moveUp_64, w_X2_moveUp_67, w_X2_moveUp_70, w_X2_moveUp_73, pm_1i_c, pm_2i_c, pm_1l_c, pm_2l_c, pm_1a_c, pm_ia_c, pm_iia_c, pm_va_c, pm_cp_c, pm_k0_c, pm_k1_c, pm_k2_c, pm_k3_c, pm_s1_c, pm_s2_c, pm_s3_c, pm_s4_c, pm_ri_c, pm_ra_c, pm_rn_c, pm_rk_i, pm_rk_z, pm_rk_a, pm_vk_i, pm_vk_z, pm_vk_a, pm_cti, pm_ctr, pm_ldi_z, pm_ldi_s, pm_lda_z, pm_lda_s, pm_cat_n, pm_cat_i, pm_cat_r, pm_cat_l, pm_obj, pm_arr, pm_opt, pm_ird, pm_aln, List.getElem?_cons_zero, List.getElem?_cons_succ, List.set_cons_zero, List.set_cons_succ, List.length_cons, List.length_nil, List.length_set, true_and, and_true, Nat.add_zero, Nat.zero_add, Nat.le_refl, Nat.reduceAdd, Nat.reduceLT, Nat.reduceLeDiff, Nat.zero_le, not_false_eq_true, not_true_eq_false, false_implies, implies_true, true_implies, Nat.zero_lt_succ, Nat.lt_add_one, pm_tl_n, pm_tl_s, sc_uL, xo1, xa1, xb1, xc1, xf1, x11, x21, x31, x41, x51, l3, e1]
    refine PM_use (c_Row_ins0 D1.w (by omega) key (d + 2)) ?_
    rintro v h4 l4 ⟨rfl, K3, K4⟩
    have D2 := D1.uw K3 K4
    show W_X2_moveUp _ _ _ _ _ _ _ _ _
    have T := tail h4 (insR A1 1 key) (some (.ref (B + 12))) D2 (by rw [l4, l3]; rfl) (f1.tr (frd_2 1 K4 (by omega))) (by unfold mvF; rw [if_pos c, ← hA1])
    rw [e1] at T
    exact T
  · have e1 : ¬ nI p = 1 := by
      have : p = 2 ∨ p = 3 := by omega
      rcases this with rfl | rfl <;> decide
    show W_X2_moveUp _ _ _ _ _ _ _ _ _
    simp only [w_X2_moveUp_0, w_X2_moveUp_1, w_X2_moveUp_2, w_X2_moveUp_5, w_X2_moveUp_6, w_X2_moveUp_7, w_X2_moveUp_8, w_X2_moveUp_9, w_X2_moveUp_12, w_X2_moveUp_15, w_X2_moveUp_16, w_X2_moveUp_17, w_X2_moveUp_18, w_X2_moveUp_21, w_X2_moveUp_22, w_X2_moveUp_25, w_X2_moveUp_28, w_X2_moveUp_29, w_X2_moveUp_32, w_X2_moveUp_34, w_X2_moveUp_36, w_X2_moveUp_37, w_X2_moveUp_38, w_X2_moveUp_42, w_X2_moveUp_45, w_X2_moveUp_48, w_X2_moveUp_49, w_X2_moveUp_52, w_X2_moveUp_55, w_X2_moveUp_58, w_X2_moveUp_59, w_X2_moveUp_62, w_X2_moveUp_63, w_X2_moveUp_64, w_X2_moveUp_67, w_X2_moveUp_70, w_X2_moveUp_73, pm_1i_c, pm_2i_c, pm_1l_c, pm_2l_c, pm_1a_c, pm_ia_c, pm_iia_c, pm_va_c, pm_cp_c, pm_k0_c, pm_k1_c, pm_k2_c, pm_k3_c, pm_s1_c, pm_s2_c, pm_s3_c, pm_s4_c, pm_ri_c, pm_ra_c, pm_rn_c, pm_rk_i, pm_rk_z, pm_rk_a, pm_vk_i, pm_vk_z, pm_vk_a, pm_cti, pm_ctr, pm_ldi_z, pm_ldi_s, pm_lda_z, pm_lda_s, pm_cat_n, pm_cat_i, pm_cat_r, pm_cat_l, pm_obj, pm_arr, pm_opt, pm_ird, pm_aln, List.getElem?_cons_zero, List.getElem?_cons_succ, List.set_cons_zero, List.set_cons_succ, List.length_cons, List.length_nil, List.length_set, true_and, and_true, Nat.add_zero, Nat.zero_add, Nat.le_refl, Nat.reduceAdd, Nat.reduceLT, Nat.reduceLeDiff, Nat.zero_le, not_false_eq_true, not_true_eq_false, false_implies, implies_true, true_implies, Nat.zero_lt_succ, Nat.lt_add_one, pm_tl_n, pm_tl_s, sc_uL, xo1, xa1, xb1, xc1, xf1, x11, x21, x31, x41, x51, l3, e1]
    refine PM_use (c_Row_ins0 D1.s (by omega) key (d + 2)) ?_
    rintro v h4 l4 ⟨rfl, K3, K4⟩
    have D2 := D1.us K3 K4
    show W_X2_moveUp _ _ _ _ _ _ _ _ _
    exact tail h4 (insR A1 3 key) _ D2 (by rw [l4, l3]; rfl) (f1.tr (frd_2 3 K4 (by omega))) (by unfold mvF; rw [if_neg c, ← hA1])
theorem c_Desk_beats (hl : h.length ≤ 1000000) (D0 : dk_ h B A) (V : skV A) (c v : Int32) (d : Nat) : PM (d + 4) 17 [.ref B, .int c, .int v] h (fun x h' => x = some (.int (if beF A c v then 1 else 0)) ∧ dk_ h' B A ∧ frd h h' B) := by
  refine en_X2_beats rfl rfl rfl ?_
  have xo0 := D0.o
  have xa0 := D0.sh
  have xb0 := D0.ko
  have xc0 := D0.lo
  have xf0 := D0.co
  have x10 := D0.wo
  have x20 := D0.to
  have x30 := D0.so
  have x40 := D0.go
  have x50 := D0.po
  simp only [w_X2_beats_0, w_X2_beats_1, w_X2_beats_4, w_X2_beats_5, w_X2_beats_8, w_X2_beats_9, w_X2_beats_10, w_X2_beats_13, w_X2_beats_14, w_X2_beats_17, w_X2_beats_19, w_X2_beats_20, w_X2_beats_23, w_X2_beats_26, w_X2_beats_29, w_X2_beats_30, w_X2_beats_32, w_X2_beats_35, w_X2_beats_36, w_X2_beats_39, w_X2_beats_40, w_X2_beats_41, w_X2_beats_42, w_X2_beats_45, w_X2_beats_46, w_X2_beats_49, w_X2_beats_50, w_X2_beats_53, w_X2_beats_54, w_X2_beats_57, w_X2_beats_58, w_X2_beats_61, w_X2_beats_63, w_X2_beats_66, w_X2_beats_67, w_X2_beats_70, w_X2_beats_71, w_X2_beats_74, w_X2_beats_77, w_X2_beats_78, w_X2_beats_81, w_X2_beats_82, w_X2_beats_85, w_X2_beats_88, w_X2_beats_89, w_X2_beats_92, w_X2_beats_93, w_X2_beats_96, w_X2_beats_99, w_X2_beats_100, w_X2_beats_103, w_X2_beats_104, w_X2_beats_107, w_X2_beats_110, w_X2_beats_113, w_X2_beats_114, w_X2_beats_117, w_X2_beats_118, w_X2_beats_121, w_X2_beats_124, w_X2_beats_127, w_X2_beats_128, w_X2_beats_131, w_X2_beats_132, w_X2_beats_134, w_X2_beats_135, w_X2_beats_138, w_X2_beats_139, w_X2_beats_142, w_X2_beats_143, w_X2_beats_146, w_X2_beats_149, pm_1i_c, pm_2i_c, pm_1l_c, pm_2l_c, pm_1a_c, pm_ia_c, pm_iia_c, pm_va_c, pm_cp_c, pm_k0_c, pm_k1_c, pm_k2_c, pm_k3_c, pm_s1_c, pm_s2_c, pm_s3_c, pm_s4_c, pm_ri_c, pm_ra_c, pm_rn_c, pm_rk_i, pm_rk_z, pm_rk_a, pm_vk_i, pm_vk_z, pm_vk_a, pm_cti, pm_ctr, pm_ldi_z, pm_ldi_s, pm_lda_z, pm_lda_s, pm_cat_n, pm_cat_i, pm_cat_r, pm_cat_l, pm_obj, pm_arr, pm_opt, pm_ird, pm_aln, List.getElem?_cons_zero, List.getElem?_cons_succ, List.set_cons_zero, List.set_cons_succ, List.length_cons, List.length_nil, List.length_set, true_and, and_true, Nat.add_zero, Nat.zero_add, Nat.le_refl, Nat.reduceAdd, Nat.reduceLT, Nat.reduceLeDiff, Nat.zero_le, not_false_eq_true, not_true_eq_false, false_implies, implies_true, true_implies, Nat.zero_lt_succ, Nat.lt_add_one, xo0, xa0, xb0, xc0, xf0, x10, x20, x30, x40, x50]
  refine PM_use (c_Sketch_estimateOf hl D0.sk V c d) ?_
  rintro x h1 l1 ⟨rfl, rfl⟩
  show W_X2_beats _ _ _ _ _ _ _ _ _
  simp only [w_X2_beats_0, w_X2_beats_1, w_X2_beats_4, w_X2_beats_5, w_X2_beats_8, w_X2_beats_9, w_X2_beats_10, w_X2_beats_13, w_X2_beats_14, w_X2_beats_17, w_X2_beats_19, w_X2_beats_20, w_X2_beats_23, w_X2_beats_26, w_X2_beats_29, w_X2_beats_30, w_X2_beats_32, w_X2_beats_35, w_X2_beats_36, w_X2_beats_39, w_X2_beats_40, w_X2_beats_41, w_X2_beats_42, w_X2_beats_45, w_X2_beats_46, w_X2_beats_49, w_X2_beats_50, w_X2_beats_53, w_X2_beats_54, w_X2_beats_57, w_X2_beats_58, w_X2_beats_61, w_X2_beats_63, w_X2_beats_66, w_X2_beats_67, w_X2_beats_70, w_X2_beats_71, w_X2_beats_74, w_X2_beats_77, w_X2_beats_78, w_X2_beats_81, w_X2_beats_82, w_X2_beats_85, w_X2_beats_88, w_X2_beats_89, w_X2_beats_92, w_X2_beats_93, w_X2_beats_96, w_X2_beats_99, w_X2_beats_100, w_X2_beats_103, w_X2_beats_104, w_X2_beats_107, w_X2_beats_110, w_X2_beats_113, w_X2_beats_114, w_X2_beats_117, w_X2_beats_118, w_X2_beats_121, w_X2_beats_124, w_X2_beats_127, w_X2_beats_128, w_X2_beats_131, w_X2_beats_132, w_X2_beats_134, w_X2_beats_135, w_X2_beats_138, w_X2_beats_139, w_X2_beats_142, w_X2_beats_143, w_X2_beats_146, w_X2_beats_149, pm_1i_c, pm_2i_c, pm_1l_c, pm_2l_c, pm_1a_c, pm_ia_c, pm_iia_c, pm_va_c, pm_cp_c, pm_k0_c, pm_k1_c, pm_k2_c, pm_k3_c, pm_s1_c, pm_s2_c, pm_s3_c, pm_s4_c, pm_ri_c, pm_ra_c, pm_rn_c, pm_rk_i, pm_rk_z, pm_rk_a, pm_vk_i, pm_vk_z, pm_vk_a, pm_cti, pm_ctr, pm_ldi_z, pm_ldi_s, pm_lda_z, pm_lda_s, pm_cat_n, pm_cat_i, pm_cat_r, pm_cat_l, pm_obj, pm_arr, pm_opt, pm_ird, pm_aln, List.getElem?_cons_zero, List.getElem?_cons_succ, List.set_cons_zero, List.set_cons_succ, List.length_cons, List.length_nil, List.length_set, true_and, and_true, Nat.add_zero, Nat.zero_add, Nat.le_refl, Nat.reduceAdd, Nat.reduceLT, Nat.reduceLeDiff, Nat.zero_le, not_false_eq_true, not_true_eq_false, false_implies, implies_true, true_implies, Nat.zero_lt_succ, Nat.lt_add_one, pm_tl_n, pm_tl_s, sc_uL, xo0, xa0, xb0, xc0, xf0, x10, x20, x30, x40, x50]
  refine PM_use (c_Sketch_estimateOf hl D0.sk V v d) ?_
  rintro x h2 l2 ⟨rfl, rfl⟩
  show W_X2_beats _ _ _ _ _ _ _ _ _
  simp only [w_X2_beats_0, w_X2_beats_1, w_X2_beats_4, w_X2_beats_5, w_X2_beats_8, w_X2_beats_9, w_X2_beats_10, w_X2_beats_13, w_X2_beats_14, w_X2_beats_17, w_X2_beats_19, w_X2_beats_20, w_X2_beats_23, w_X2_beats_26, w_X2_beats_29, w_X2_beats_30, w_X2_beats_32, w_X2_beats_35, w_X2_beats_36, w_X2_beats_39, w_X2_beats_40, w_X2_beats_41, w_X2_beats_42, w_X2_beats_45, w_X2_beats_46, w_X2_beats_49, w_X2_beats_50, w_X2_beats_53, w_X2_beats_54, w_X2_beats_57, w_X2_beats_58, w_X2_beats_61, w_X2_beats_63, w_X2_beats_66, w_X2_beats_67, w_X2_beats_70, w_X2_beats_71, w_X2_beats_74, w_X2_beats_77, w_X2_beats_78, w_X2_beats_81, w_X2_beats_82, w_X2_beats_85, w_X2_beats_88, w_X2_beats_89, w_X2_beats_92, w_X2_beats_93, w_X2_beats_96, w_X2_beats_99, w_X2_beats_100, w_X2_beats_103, w_X2_beats_104, w_X2_beats_107, w_X2_beats_110, w_X2_beats_113, w_X2_beats_114, w_X2_beats_117, w_X2_beats_118, w_X2_beats_121, w_X2_beats_124, w_X2_beats_127, w_X2_beats_128, w_X2_beats_131, w_X2_beats_132, w_X2_beats_134, w_X2_beats_135, w_X2_beats_138, w_X2_beats_139, w_X2_beats_142, w_X2_beats_143, w_X2_beats_146, w_X2_beats_149, pm_1i_c, pm_2i_c, pm_1l_c, pm_2l_c, pm_1a_c, pm_ia_c, pm_iia_c, pm_va_c, pm_cp_c, pm_k0_c, pm_k1_c, pm_k2_c, pm_k3_c, pm_s1_c, pm_s2_c, pm_s3_c, pm_s4_c, pm_ri_c, pm_ra_c, pm_rn_c, pm_rk_i, pm_rk_z, pm_rk_a, pm_vk_i, pm_vk_z, pm_vk_a, pm_cti, pm_ctr, pm_ldi_z, pm_ldi_s, pm_lda_z, pm_lda_s, pm_cat_n, pm_cat_i, pm_cat_r, pm_cat_l, pm_obj, pm_arr, pm_opt, pm_ird, pm_aln, List.getElem?_cons_zero, List.getElem?_cons_succ, List.set_cons_zero, List.set_cons_succ, List.length_cons, List.length_nil, List.length_set, true_and, and_true, Nat.add_zero, Nat.zero_add, Nat.le_refl, Nat.reduceAdd, Nat.reduceLT, Nat.reduceLeDiff, Nat.zero_le, not_false_eq_true, not_true_eq_false, false_implies, implies_true, true_implies, Nat.zero_lt_succ, Nat.lt_add_one, pm_tl_n, pm_tl_s, sc_uL, xo0, xa0, xb0, xc0, xf0, x10, x20, x30, x40, x50]
  refine PM_use (c_Law_isText D0.lo (d + 2)) ?_
  rintro x h3 l3 ⟨rfl, rfl⟩
  by_cases cl : sc A 23 = -1
  · have hb : beF A c v = decide (estF A v < estF A c) := if_pos cl
    show W_X2_beats _ _ _ _ _ _ _ _ _
    simp only [w_X2_beats_0, w_X2_beats_1, w_X2_beats_4, w_X2_beats_5, w_X2_beats_8, w_X2_beats_9, w_X2_beats_10, w_X2_beats_13, w_X2_beats_14, w_X2_beats_17, w_X2_beats_19, w_X2_beats_20, w_X2_beats_23, w_X2_beats_26, w_X2_beats_29, w_X2_beats_30, w_X2_beats_32, w_X2_beats_35, w_X2_beats_36, w_X2_beats_39, w_X2_beats_40, w_X2_beats_41, w_X2_beats_42, w_X2_beats_45, w_X2_beats_46, w_X2_beats_49, w_X2_beats_50, w_X2_beats_53, w_X2_beats_54, w_X2_beats_57, w_X2_beats_58, w_X2_beats_61, w_X2_beats_63, w_X2_beats_66, w_X2_beats_67, w_X2_beats_70, w_X2_beats_71, w_X2_beats_74, w_X2_beats_77, w_X2_beats_78, w_X2_beats_81, w_X2_beats_82, w_X2_beats_85, w_X2_beats_88, w_X2_beats_89, w_X2_beats_92, w_X2_beats_93, w_X2_beats_96, w_X2_beats_99, w_X2_beats_100, w_X2_beats_103, w_X2_beats_104, w_X2_beats_107, w_X2_beats_110, w_X2_beats_113, w_X2_beats_114, w_X2_beats_117, w_X2_beats_118, w_X2_beats_121, w_X2_beats_124, w_X2_beats_127, w_X2_beats_128, w_X2_beats_131, w_X2_beats_132, w_X2_beats_134, w_X2_beats_135, w_X2_beats_138, w_X2_beats_139, w_X2_beats_142, w_X2_beats_143, w_X2_beats_146, w_X2_beats_149, pm_1i_c, pm_2i_c, pm_1l_c, pm_2l_c, pm_1a_c, pm_ia_c, pm_iia_c, pm_va_c, pm_cp_c, pm_k0_c, pm_k1_c, pm_k2_c, pm_k3_c, pm_s1_c, pm_s2_c, pm_s3_c, pm_s4_c, pm_ri_c, pm_ra_c, pm_rn_c, pm_rk_i, pm_rk_z, pm_rk_a, pm_vk_i, pm_vk_z, pm_vk_a, pm_cti, pm_ctr, pm_ldi_z, pm_ldi_s, pm_lda_z, pm_lda_s, pm_cat_n, pm_cat_i, pm_cat_r, pm_cat_l, pm_obj, pm_arr, pm_opt, pm_ird, pm_aln, List.getElem?_cons_zero, List.getElem?_cons_succ, List.set_cons_zero, List.set_cons_succ, List.length_cons, List.length_nil, List.length_set, true_and, and_true, Nat.add_zero, Nat.zero_add, Nat.le_refl, Nat.reduceAdd, Nat.reduceLT, Nat.reduceLeDiff, Nat.zero_le, not_false_eq_true, not_true_eq_false, false_implies, implies_true, true_implies, Nat.zero_lt_succ, Nat.lt_add_one, pm_tl_n, pm_tl_s, sc_uL, xo0, xa0, xb0, xc0, xf0, x10, x20, x30, x40, x50, if_pos cl]
    rw [hb]
    refine ⟨fun q => by rw [if_neg (by rw [decide_eq_true_eq]; exact q)]; exact ⟨Or.inl trivial, rfl, D0, frd.rf⟩, fun q => by rw [if_pos (decide_eq_true q)]; exact ⟨Or.inr trivial, rfl, D0, frd.rf⟩⟩
  · have hb : beF A c v = lw A (fcF A c v) := if_neg cl
    obtain ⟨vs, dv⟩ := D0.v
    have vo := dv.o
    have e10 : ¬ (1 : Int32) = 0 := by decide
    show W_X2_beats _ _ _ _ _ _ _ _ _
    simp only [w_X2_beats_0, w_X2_beats_1, w_X2_beats_4, w_X2_beats_5, w_X2_beats_8, w_X2_beats_9, w_X2_beats_10, w_X2_beats_13, w_X2_beats_14, w_X2_beats_17, w_X2_beats_19, w_X2_beats_20, w_X2_beats_23, w_X2_beats_26, w_X2_beats_29, w_X2_beats_30, w_X2_beats_32, w_X2_beats_35, w_X2_beats_36, w_X2_beats_39, w_X2_beats_40, w_X2_beats_41, w_X2_beats_42, w_X2_beats_45, w_X2_beats_46, w_X2_beats_49, w_X2_beats_50, w_X2_beats_53, w_X2_beats_54, w_X2_beats_57, w_X2_beats_58, w_X2_beats_61, w_X2_beats_63, w_X2_beats_66, w_X2_beats_67, w_X2_beats_70, w_X2_beats_71, w_X2_beats_74, w_X2_beats_77, w_X2_beats_78, w_X2_beats_81, w_X2_beats_82, w_X2_beats_85, w_X2_beats_88, w_X2_beats_89, w_X2_beats_92, w_X2_beats_93, w_X2_beats_96, w_X2_beats_99, w_X2_beats_100, w_X2_beats_103, w_X2_beats_104, w_X2_beats_107, w_X2_beats_110, w_X2_beats_113, w_X2_beats_114, w_X2_beats_117, w_X2_beats_118, w_X2_beats_121, w_X2_beats_124, w_X2_beats_127, w_X2_beats_128, w_X2_beats_131, w_X2_beats_132, w_X2_beats_134, w_X2_beats_135, w_X2_beats_138, w_X2_beats_139, w_X2_beats_142, w_X2_beats_143, w_X2_beats_146, w_X2_beats_149, pm_1i_c, pm_2i_c, pm_1l_c, pm_2l_c, pm_1a_c, pm_ia_c, pm_iia_c, pm_va_c, pm_cp_c, pm_k0_c, pm_k1_c, pm_k2_c, pm_k3_c, pm_s1_c, pm_s2_c, pm_s3_c, pm_s4_c, pm_ri_c, pm_ra_c, pm_rn_c, pm_rk_i, pm_rk_z, pm_rk_a, pm_vk_i, pm_vk_z, pm_vk_a, pm_cti, pm_ctr, pm_ldi_z, pm_ldi_s, pm_lda_z, pm_lda_s, pm_cat_n, pm_cat_i, pm_cat_r, pm_cat_l, pm_obj, pm_arr, pm_opt, pm_ird, pm_aln, List.getElem?_cons_zero, List.getElem?_cons_succ, List.set_cons_zero, List.set_cons_succ, List.length_cons, List.length_nil, List.length_set, true_and, and_true, Nat.add_zero, Nat.zero_add, Nat.le_refl, Nat.reduceAdd, Nat.reduceLT, Nat.reduceLeDiff, Nat.zero_le, not_false_eq_true, not_true_eq_false, false_implies, implies_true, true_implies, Nat.zero_lt_succ, Nat.lt_add_one, pm_tl_n, pm_tl_s, sc_uL, xo0, xa0, xb0, xc0, xf0, x10, x20, x30, x40, x50, vo, if_neg cl, e10]
    refine PM_use (c_Row_cut0 dv (d + 2)) ?_
    rintro x h4 l4 ⟨rfl, K1, K2⟩
    have D1 := D0.uv K1 K2
    have f1 := frd_2 6 K2 (by omega)
    have v1 := K1.o
    have xo1 := D1.o
    have xa1 := D1.sh
    have xb1 := D1.ko
    have xc1 := D1.lo
    have xf1 := D1.co
    have x11 := D1.wo
    have x21 := D1.to
    have x31 := D1.so
    have x41 := D1.go
    have x51 := D1.po
    show W_X2_beats _ _ _ _ _ _ _ _ _
    simp only [w_X2_beats_0, w_X2_beats_1, w_X2_beats_4, w_X2_beats_5, w_X2_beats_8, w_X2_beats_9, w_X2_beats_10, w_X2_beats_13, w_X2_beats_14, w_X2_beats_17, w_X2_beats_19, w_X2_beats_20, w_X2_beats_23, w_X2_beats_26, w_X2_beats_29, w_X2_beats_30, w_X2_beats_32, w_X2_beats_35, w_X2_beats_36, w_X2_beats_39, w_X2_beats_40, w_X2_beats_41, w_X2_beats_42, w_X2_beats_45, w_X2_beats_46, w_X2_beats_49, w_X2_beats_50, w_X2_beats_53, w_X2_beats_54, w_X2_beats_57, w_X2_beats_58, w_X2_beats_61, w_X2_beats_63, w_X2_beats_66, w_X2_beats_67, w_X2_beats_70, w_X2_beats_71, w_X2_beats_74, w_X2_beats_77, w_X2_beats_78, w_X2_beats_81, w_X2_beats_82, w_X2_beats_85, w_X2_beats_88, w_X2_beats_89, w_X2_beats_92, w_X2_beats_93, w_X2_beats_96, w_X2_beats_99, w_X2_beats_100, w_X2_beats_103, w_X2_beats_104, w_X2_beats_107, w_X2_beats_110, w_X2_beats_113, w_X2_beats_114, w_X2_beats_117, w_X2_beats_118, w_X2_beats_121, w_X2_beats_124, w_X2_beats_127, w_X2_beats_128, w_X2_beats_131, w_X2_beats_132, w_X2_beats_134, w_X2_beats_135, w_X2_beats_138, w_X2_beats_139, w_X2_beats_142, w_X2_beats_143, w_X2_beats_146, w_X2_beats_149, pm_1i_c, pm_2i_c, pm_1l_c, pm_2l_c, pm_1a_c, pm_ia_c, pm_iia_c, pm_va_c, pm_cp_c, pm_k0_c, pm_k1_c, pm_k2_c, pm_k3_c, pm_s1_c, pm_s2_c, pm_s3_c, pm_s4_c, pm_ri_c, pm_ra_c, pm_rn_c, pm_rk_i, pm_rk_z, pm_rk_a, pm_vk_i, pm_vk_z, pm_vk_a, pm_cti, pm_ctr, pm_ldi_z, pm_ldi_s, pm_lda_z, pm_lda_s, pm_cat_n, pm_cat_i, pm_cat_r, pm_cat_l, pm_obj, pm_arr, pm_opt, pm_ird, pm_aln, List.getElem?_cons_zero, List.getElem?_cons_succ, List.set_cons_zero, List.set_cons_succ, List.length_cons, List.length_nil, List.length_set, true_and, and_true, Nat.add_zero, Nat.zero_add, Nat.le_refl, Nat.reduceAdd, Nat.reduceLT, Nat.reduceLeDiff, Nat.zero_le, not_false_eq_true, not_true_eq_false, false_implies, implies_true, true_implies, Nat.zero_lt_succ, Nat.lt_add_one, pm_tl_n, pm_tl_s, sc_uL, xo1, xa1, xb1, xc1, xf1, x11, x21, x31, x41, x51, v1, l4]
    refine PM_use (c_Row_append K1 (estF A c) (d + 2)) ?_
    rintro x h5 l5 ⟨rfl, K3, K4⟩
    rw [if_pos (by simp), List.nil_append] at K3
    have D2 := D1.uv K3 K4
    have f2 := f1.tr (frd_2 6 K4 (by omega))
    have v2 := K3.o
    have xo2 := D2.o
    have xa2 := D2.sh
    have xb2 := D2.ko
    have xc2 := D2.lo
    have xf2 := D2.co
    have x12 := D2.wo
    have x22 := D2.to
    have x32 := D2.so
    have x42 := D2.go
    have x52 := D2.po
    show W_X2_beats _ _ _ _ _ _ _ _ _
    simp only [w_X2_beats_0, w_X2_beats_1, w_X2_beats_4, w_X2_beats_5, w_X2_beats_8, w_X2_beats_9, w_X2_beats_10, w_X2_beats_13, w_X2_beats_14, w_X2_beats_17, w_X2_beats_19, w_X2_beats_20, w_X2_beats_23, w_X2_beats_26, w_X2_beats_29, w_X2_beats_30, w_X2_beats_32, w_X2_beats_35, w_X2_beats_36, w_X2_beats_39, w_X2_beats_40, w_X2_beats_41, w_X2_beats_42, w_X2_beats_45, w_X2_beats_46, w_X2_beats_49, w_X2_beats_50, w_X2_beats_53, w_X2_beats_54, w_X2_beats_57, w_X2_beats_58, w_X2_beats_61, w_X2_beats_63, w_X2_beats_66, w_X2_beats_67, w_X2_beats_70, w_X2_beats_71, w_X2_beats_74, w_X2_beats_77, w_X2_beats_78, w_X2_beats_81, w_X2_beats_82, w_X2_beats_85, w_X2_beats_88, w_X2_beats_89, w_X2_beats_92, w_X2_beats_93, w_X2_beats_96, w_X2_beats_99, w_X2_beats_100, w_X2_beats_103, w_X2_beats_104, w_X2_beats_107, w_X2_beats_110, w_X2_beats_113, w_X2_beats_114, w_X2_beats_117, w_X2_beats_118, w_X2_beats_121, w_X2_beats_124, w_X2_beats_127, w_X2_beats_128, w_X2_beats_131, w_X2_beats_132, w_X2_beats_134, w_X2_beats_135, w_X2_beats_138, w_X2_beats_139, w_X2_beats_142, w_X2_beats_143, w_X2_beats_146, w_X2_beats_149, pm_1i_c, pm_2i_c, pm_1l_c, pm_2l_c, pm_1a_c, pm_ia_c, pm_iia_c, pm_va_c, pm_cp_c, pm_k0_c, pm_k1_c, pm_k2_c, pm_k3_c, pm_s1_c, pm_s2_c, pm_s3_c, pm_s4_c, pm_ri_c, pm_ra_c, pm_rn_c, pm_rk_i, pm_rk_z, pm_rk_a, pm_vk_i, pm_vk_z, pm_vk_a, pm_cti, pm_ctr, pm_ldi_z, pm_ldi_s, pm_lda_z, pm_lda_s, pm_cat_n, pm_cat_i, pm_cat_r, pm_cat_l, pm_obj, pm_arr, pm_opt, pm_ird, pm_aln, List.getElem?_cons_zero, List.getElem?_cons_succ, List.set_cons_zero, List.set_cons_succ, List.length_cons, List.length_nil, List.length_set, true_and, and_true, Nat.add_zero, Nat.zero_add, Nat.le_refl, Nat.reduceAdd, Nat.reduceLT, Nat.reduceLeDiff, Nat.zero_le, not_false_eq_true, not_true_eq_false, false_implies, implies_true, true_implies, Nat.zero_lt_succ, Nat.lt_add_one, pm_tl_n, pm_tl_s, sc_uL, xo2, xa2, xb2, xc2, xf2, x12, x22, x32, x42, x52, v2, l5, l4]
    refine PM_use (c_Row_append K3 (estF A v) (d + 2)) ?_
    rintro x h6 l6 ⟨rfl, K5, K6⟩
    rw [if_pos (by simp), List.singleton_append] at K5
    have D3 := D2.uv K5 K6
    have f3 := f2.tr (frd_2 6 K6 (by omega))
    have v3 := K5.o
    have xo3 := D3.o
    have xa3 := D3.sh
    have xb3 := D3.ko
    have xc3 := D3.lo
    have xf3 := D3.co
    have x13 := D3.wo
    have x23 := D3.to
    have x33 := D3.so
    have x43 := D3.go
    have x53 := D3.po
    show W_X2_beats _ _ _ _ _ _ _ _ _
    simp only [w_X2_beats_0, w_X2_beats_1, w_X2_beats_4, w_X2_beats_5, w_X2_beats_8, w_X2_beats_9, w_X2_beats_10, w_X2_beats_13, w_X2_beats_14, w_X2_beats_17, w_X2_beats_19, w_X2_beats_20, w_X2_beats_23, w_X2_beats_26, w_X2_beats_29, w_X2_beats_30, w_X2_beats_32, w_X2_beats_35, w_X2_beats_36, w_X2_beats_39, w_X2_beats_40, w_X2_beats_41, w_X2_beats_42, w_X2_beats_45, w_X2_beats_46, w_X2_beats_49, w_X2_beats_50, w_X2_beats_53, w_X2_beats_54, w_X2_beats_57, w_X2_beats_58, w_X2_beats_61, w_X2_beats_63, w_X2_beats_66, w_X2_beats_67, w_X2_beats_70, w_X2_beats_71, w_X2_beats_74, w_X2_beats_77, w_X2_beats_78, w_X2_beats_81, w_X2_beats_82, w_X2_beats_85, w_X2_beats_88, w_X2_beats_89, w_X2_beats_92, w_X2_beats_93, w_X2_beats_96, w_X2_beats_99, w_X2_beats_100, w_X2_beats_103, w_X2_beats_104, w_X2_beats_107, w_X2_beats_110, w_X2_beats_113, w_X2_beats_114, w_X2_beats_117, w_X2_beats_118, w_X2_beats_121, w_X2_beats_124, w_X2_beats_127, w_X2_beats_128, w_X2_beats_131, w_X2_beats_132, w_X2_beats_134, w_X2_beats_135, w_X2_beats_138, w_X2_beats_139, w_X2_beats_142, w_X2_beats_143, w_X2_beats_146, w_X2_beats_149, pm_1i_c, pm_2i_c, pm_1l_c, pm_2l_c, pm_1a_c, pm_ia_c, pm_iia_c, pm_va_c, pm_cp_c, pm_k0_c, pm_k1_c, pm_k2_c, pm_k3_c, pm_s1_c, pm_s2_c, pm_s3_c, pm_s4_c, pm_ri_c, pm_ra_c, pm_rn_c, pm_rk_i, pm_rk_z, pm_rk_a, pm_vk_i, pm_vk_z, pm_vk_a, pm_cti, pm_ctr, pm_ldi_z, pm_ldi_s, pm_lda_z, pm_lda_s, pm_cat_n, pm_cat_i, pm_cat_r, pm_cat_l, pm_obj, pm_arr, pm_opt, pm_ird, pm_aln, List.getElem?_cons_zero, List.getElem?_cons_succ, List.set_cons_zero, List.set_cons_succ, List.length_cons, List.length_nil, List.length_set, true_and, and_true, Nat.add_zero, Nat.zero_add, Nat.le_refl, Nat.reduceAdd, Nat.reduceLT, Nat.reduceLeDiff, Nat.zero_le, not_false_eq_true, not_true_eq_false, false_implies, implies_true, true_implies, Nat.zero_lt_succ, Nat.lt_add_one, pm_tl_n, pm_tl_s, sc_uL, xo3, xa3, xb3, xc3, xf3, x13, x23, x33, x43, x53, v3, l6, l5, l4]
    refine PM_use (c_Row_append K5 (sc A 3) (d + 2)) ?_
    rintro x h7 l7 ⟨rfl, K7, K8⟩
    rw [if_pos (by simp)] at K7
    have D4 := D3.uv K7 K8
    have f4 := f3.tr (frd_2 6 K8 (by omega))
    have v4 := K7.o
    have xo4 := D4.o
    have xa4 := D4.sh
    have xb4 := D4.ko
    have xc4 := D4.lo
    have xf4 := D4.co
    have x14 := D4.wo
    have x24 := D4.to
    have x34 := D4.so
    have x44 := D4.go
    have x54 := D4.po
    show W_X2_beats _ _ _ _ _ _ _ _ _
    simp only [w_X2_beats_0, w_X2_beats_1, w_X2_beats_4, w_X2_beats_5, w_X2_beats_8, w_X2_beats_9, w_X2_beats_10, w_X2_beats_13, w_X2_beats_14, w_X2_beats_17, w_X2_beats_19, w_X2_beats_20, w_X2_beats_23, w_X2_beats_26, w_X2_beats_29, w_X2_beats_30, w_X2_beats_32, w_X2_beats_35, w_X2_beats_36, w_X2_beats_39, w_X2_beats_40, w_X2_beats_41, w_X2_beats_42, w_X2_beats_45, w_X2_beats_46, w_X2_beats_49, w_X2_beats_50, w_X2_beats_53, w_X2_beats_54, w_X2_beats_57, w_X2_beats_58, w_X2_beats_61, w_X2_beats_63, w_X2_beats_66, w_X2_beats_67, w_X2_beats_70, w_X2_beats_71, w_X2_beats_74, w_X2_beats_77, w_X2_beats_78, w_X2_beats_81, w_X2_beats_82, w_X2_beats_85, w_X2_beats_88, w_X2_beats_89, w_X2_beats_92, w_X2_beats_93, w_X2_beats_96, w_X2_beats_99, w_X2_beats_100, w_X2_beats_103, w_X2_beats_104, w_X2_beats_107, w_X2_beats_110, w_X2_beats_113, w_X2_beats_114, w_X2_beats_117, w_X2_beats_118, w_X2_beats_121, w_X2_beats_124, w_X2_beats_127, w_X2_beats_128, w_X2_beats_131, w_X2_beats_132, w_X2_beats_134, w_X2_beats_135, w_X2_beats_138, w_X2_beats_139, w_X2_beats_142, w_X2_beats_143, w_X2_beats_146, w_X2_beats_149, pm_1i_c, pm_2i_c, pm_1l_c, pm_2l_c, pm_1a_c, pm_ia_c, pm_iia_c, pm_va_c, pm_cp_c, pm_k0_c, pm_k1_c, pm_k2_c, pm_k3_c, pm_s1_c, pm_s2_c, pm_s3_c, pm_s4_c, pm_ri_c, pm_ra_c, pm_rn_c, pm_rk_i, pm_rk_z, pm_rk_a, pm_vk_i, pm_vk_z, pm_vk_a, pm_cti, pm_ctr, pm_ldi_z, pm_ldi_s, pm_lda_z, pm_lda_s, pm_cat_n, pm_cat_i, pm_cat_r, pm_cat_l, pm_obj, pm_arr, pm_opt, pm_ird, pm_aln, List.getElem?_cons_zero, List.getElem?_cons_succ, List.set_cons_zero, List.set_cons_succ, List.length_cons, List.length_nil, List.length_set, true_and, and_true, Nat.add_zero, Nat.zero_add, Nat.le_refl, Nat.reduceAdd, Nat.reduceLT, Nat.reduceLeDiff, Nat.zero_le, not_false_eq_true, not_true_eq_false, false_implies, implies_true, true_implies, Nat.zero_lt_succ, Nat.lt_add_one, pm_tl_n, pm_tl_s, sc_uL, xo4, xa4, xb4, xc4, xf4, x14, x24, x34, x44, x54, v4, l7, l6, l5, l4]
    refine PM_use (c_Row_append K7 (sc A 2) (d + 2)) ?_
    rintro x h8 l8 ⟨rfl, K9, K10⟩
    rw [if_pos (by simp)] at K9
    have D5 := D4.uv K9 K10
    have f5 := f4.tr (frd_2 6 K10 (by omega))
    have v5 := K9.o
    have xo5 := D5.o
    have xa5 := D5.sh
    have xb5 := D5.ko
    have xc5 := D5.lo
    have xf5 := D5.co
    have x15 := D5.wo
    have x25 := D5.to
    have x35 := D5.so
    have x45 := D5.go
    have x55 := D5.po
    show W_X2_beats _ _ _ _ _ _ _ _ _
    simp only [w_X2_beats_0, w_X2_beats_1, w_X2_beats_4, w_X2_beats_5, w_X2_beats_8, w_X2_beats_9, w_X2_beats_10, w_X2_beats_13, w_X2_beats_14, w_X2_beats_17, w_X2_beats_19, w_X2_beats_20, w_X2_beats_23, w_X2_beats_26, w_X2_beats_29, w_X2_beats_30, w_X2_beats_32, w_X2_beats_35, w_X2_beats_36, w_X2_beats_39, w_X2_beats_40, w_X2_beats_41, w_X2_beats_42, w_X2_beats_45, w_X2_beats_46, w_X2_beats_49, w_X2_beats_50, w_X2_beats_53, w_X2_beats_54, w_X2_beats_57, w_X2_beats_58, w_X2_beats_61, w_X2_beats_63, w_X2_beats_66, w_X2_beats_67, w_X2_beats_70, w_X2_beats_71, w_X2_beats_74, w_X2_beats_77, w_X2_beats_78, w_X2_beats_81, w_X2_beats_82, w_X2_beats_85, w_X2_beats_88, w_X2_beats_89, w_X2_beats_92, w_X2_beats_93, w_X2_beats_96, w_X2_beats_99, w_X2_beats_100, w_X2_beats_103, w_X2_beats_104, w_X2_beats_107, w_X2_beats_110, w_X2_beats_113, w_X2_beats_114, w_X2_beats_117, w_X2_beats_118, w_X2_beats_121, w_X2_beats_124, w_X2_beats_127, w_X2_beats_128, w_X2_beats_131, w_X2_beats_132, w_X2_beats_134, w_X2_beats_135, w_X2_beats_138, w_X2_beats_139, w_X2_beats_142, w_X2_beats_143, w_X2_beats_146, w_X2_beats_149, pm_1i_c, pm_2i_c, pm_1l_c, pm_2l_c, pm_1a_c, pm_ia_c, pm_iia_c, pm_va_c, pm_cp_c, pm_k0_c, pm_k1_c, pm_k2_c, pm_k3_c, pm_s1_c, pm_s2_c, pm_s3_c, pm_s4_c, pm_ri_c, pm_ra_c, pm_rn_c, pm_rk_i, pm_rk_z, pm_rk_a, pm_vk_i, pm_vk_z, pm_vk_a, pm_cti, pm_ctr, pm_ldi_z, pm_ldi_s, pm_lda_z, pm_lda_s, pm_cat_n, pm_cat_i, pm_cat_r, pm_cat_l, pm_obj, pm_arr, pm_opt, pm_ird, pm_aln, List.getElem?_cons_zero, List.getElem?_cons_succ, List.set_cons_zero, List.set_cons_succ, List.length_cons, List.length_nil, List.length_set, true_and, and_true, Nat.add_zero, Nat.zero_add, Nat.le_refl, Nat.reduceAdd, Nat.reduceLT, Nat.reduceLeDiff, Nat.zero_le, not_false_eq_true, not_true_eq_false, false_implies, implies_true, true_implies, Nat.zero_lt_succ, Nat.lt_add_one, pm_tl_n, pm_tl_s, sc_uL, xo5, xa5, xb5, xc5, xf5, x15, x25, x35, x45, x55, v5, l8, l7, l6, l5, l4]
    refine PM_use (c_Row_append K9 (sc A 4) (d + 2)) ?_
    rintro x h9 l9 ⟨rfl, K11, K12⟩
    rw [if_pos (by simp)] at K11
    have D6 := D5.uv K11 K12
    have f6 := f5.tr (frd_2 6 K12 (by omega))
    have v6 := K11.o
    have xo6 := D6.o
    have xa6 := D6.sh
    have xb6 := D6.ko
    have xc6 := D6.lo
    have xf6 := D6.co
    have x16 := D6.wo
    have x26 := D6.to
    have x36 := D6.so
    have x46 := D6.go
    have x56 := D6.po
    show W_X2_beats _ _ _ _ _ _ _ _ _
    simp only [w_X2_beats_0, w_X2_beats_1, w_X2_beats_4, w_X2_beats_5, w_X2_beats_8, w_X2_beats_9, w_X2_beats_10, w_X2_beats_13, w_X2_beats_14, w_X2_beats_17, w_X2_beats_19, w_X2_beats_20, w_X2_beats_23, w_X2_beats_26, w_X2_beats_29, w_X2_beats_30, w_X2_beats_32, w_X2_beats_35, w_X2_beats_36, w_X2_beats_39, w_X2_beats_40, w_X2_beats_41, w_X2_beats_42, w_X2_beats_45, w_X2_beats_46, w_X2_beats_49, w_X2_beats_50, w_X2_beats_53, w_X2_beats_54, w_X2_beats_57, w_X2_beats_58, w_X2_beats_61, w_X2_beats_63, w_X2_beats_66, w_X2_beats_67, w_X2_beats_70, w_X2_beats_71, w_X2_beats_74, w_X2_beats_77, w_X2_beats_78, w_X2_beats_81, w_X2_beats_82, w_X2_beats_85, w_X2_beats_88, w_X2_beats_89, w_X2_beats_92, w_X2_beats_93, w_X2_beats_96, w_X2_beats_99, w_X2_beats_100, w_X2_beats_103, w_X2_beats_104, w_X2_beats_107, w_X2_beats_110, w_X2_beats_113, w_X2_beats_114, w_X2_beats_117, w_X2_beats_118, w_X2_beats_121, w_X2_beats_124, w_X2_beats_127, w_X2_beats_128, w_X2_beats_131, w_X2_beats_132, w_X2_beats_134, w_X2_beats_135, w_X2_beats_138, w_X2_beats_139, w_X2_beats_142, w_X2_beats_143, w_X2_beats_146, w_X2_beats_149, pm_1i_c, pm_2i_c, pm_1l_c, pm_2l_c, pm_1a_c, pm_ia_c, pm_iia_c, pm_va_c, pm_cp_c, pm_k0_c, pm_k1_c, pm_k2_c, pm_k3_c, pm_s1_c, pm_s2_c, pm_s3_c, pm_s4_c, pm_ri_c, pm_ra_c, pm_rn_c, pm_rk_i, pm_rk_z, pm_rk_a, pm_vk_i, pm_vk_z, pm_vk_a, pm_cti, pm_ctr, pm_ldi_z, pm_ldi_s, pm_lda_z, pm_lda_s, pm_cat_n, pm_cat_i, pm_cat_r, pm_cat_l, pm_obj, pm_arr, pm_opt, pm_ird, pm_aln, List.getElem?_cons_zero, List.getElem?_cons_succ, List.set_cons_zero, List.set_cons_succ, List.length_cons, List.length_nil, List.length_set, true_and, and_true, Nat.add_zero, Nat.zero_add, Nat.le_refl, Nat.reduceAdd, Nat.reduceLT, Nat.reduceLeDiff, Nat.zero_le, not_false_eq_true, not_true_eq_false, false_implies, implies_true, true_implies, Nat.zero_lt_succ, Nat.lt_add_one, pm_tl_n, pm_tl_s, sc_uL, xo6, xa6, xb6, xc6, xf6, x16, x26, x36, x46, x56, v6, l9, l8, l7, l6, l5, l4]
    refine PM_use (c_Row_append K11 (sc A 9) (d + 2)) ?_
    rintro x h10 l10 ⟨rfl, K13, K14⟩
    rw [if_pos (by simp)] at K13
    have D7 := D6.uv K13 K14
    have f7 := f6.tr (frd_2 6 K14 (by omega))
    have v7 := K13.o
    have xo7 := D7.o
    have xa7 := D7.sh
    have xb7 := D7.ko
    have xc7 := D7.lo
    have xf7 := D7.co
    have x17 := D7.wo
    have x27 := D7.to
    have x37 := D7.so
    have x47 := D7.go
    have x57 := D7.po
    show W_X2_beats _ _ _ _ _ _ _ _ _
    simp only [w_X2_beats_0, w_X2_beats_1, w_X2_beats_4, w_X2_beats_5, w_X2_beats_8, w_X2_beats_9, w_X2_beats_10, w_X2_beats_13, w_X2_beats_14, w_X2_beats_17, w_X2_beats_19, w_X2_beats_20, w_X2_beats_23, w_X2_beats_26, w_X2_beats_29, w_X2_beats_30, w_X2_beats_32, w_X2_beats_35, w_X2_beats_36, w_X2_beats_39, w_X2_beats_40, w_X2_beats_41, w_X2_beats_42, w_X2_beats_45, w_X2_beats_46, w_X2_beats_49, w_X2_beats_50, w_X2_beats_53, w_X2_beats_54, w_X2_beats_57, w_X2_beats_58, w_X2_beats_61, w_X2_beats_63, w_X2_beats_66, w_X2_beats_67, w_X2_beats_70, w_X2_beats_71, w_X2_beats_74, w_X2_beats_77, w_X2_beats_78, w_X2_beats_81, w_X2_beats_82, w_X2_beats_85, w_X2_beats_88, w_X2_beats_89, w_X2_beats_92, w_X2_beats_93, w_X2_beats_96, w_X2_beats_99, w_X2_beats_100, w_X2_beats_103, w_X2_beats_104, w_X2_beats_107, w_X2_beats_110, w_X2_beats_113, w_X2_beats_114, w_X2_beats_117, w_X2_beats_118, w_X2_beats_121, w_X2_beats_124, w_X2_beats_127, w_X2_beats_128, w_X2_beats_131, w_X2_beats_132, w_X2_beats_134, w_X2_beats_135, w_X2_beats_138, w_X2_beats_139, w_X2_beats_142, w_X2_beats_143, w_X2_beats_146, w_X2_beats_149, pm_1i_c, pm_2i_c, pm_1l_c, pm_2l_c, pm_1a_c, pm_ia_c, pm_iia_c, pm_va_c, pm_cp_c, pm_k0_c, pm_k1_c, pm_k2_c, pm_k3_c, pm_s1_c, pm_s2_c, pm_s3_c, pm_s4_c, pm_ri_c, pm_ra_c, pm_rn_c, pm_rk_i, pm_rk_z, pm_rk_a, pm_vk_i, pm_vk_z, pm_vk_a, pm_cti, pm_ctr, pm_ldi_z, pm_ldi_s, pm_lda_z, pm_lda_s, pm_cat_n, pm_cat_i, pm_cat_r, pm_cat_l, pm_obj, pm_arr, pm_opt, pm_ird, pm_aln, List.getElem?_cons_zero, List.getElem?_cons_succ, List.set_cons_zero, List.set_cons_succ, List.length_cons, List.length_nil, List.length_set, true_and, and_true, Nat.add_zero, Nat.zero_add, Nat.le_refl, Nat.reduceAdd, Nat.reduceLT, Nat.reduceLeDiff, Nat.zero_le, not_false_eq_true, not_true_eq_false, false_implies, implies_true, true_implies, Nat.zero_lt_succ, Nat.lt_add_one, pm_tl_n, pm_tl_s, sc_uL, xo7, xa7, xb7, xc7, xf7, x17, x27, x37, x47, x57, v7, l10, l9, l8, l7, l6, l5, l4]
    refine PM_use (c_Row_append K13 (sc A 8) (d + 2)) ?_
    rintro x h11 l11 ⟨rfl, K15, K16⟩
    rw [if_pos (by simp)] at K15
    have D8 := D7.uv K15 K16
    have f8 := f7.tr (frd_2 6 K16 (by omega))
    have v8 := K15.o
    have e11 : ¬ (10 : Int32) = 0 := by decide
    have xo8 := D8.o
    have xa8 := D8.sh
    have xb8 := D8.ko
    have xc8 := D8.lo
    have xf8 := D8.co
    have x18 := D8.wo
    have x28 := D8.to
    have x38 := D8.so
    have x48 := D8.go
    have x58 := D8.po
    show W_X2_beats _ _ _ _ _ _ _ _ _
    simp only [w_X2_beats_0, w_X2_beats_1, w_X2_beats_4, w_X2_beats_5, w_X2_beats_8, w_X2_beats_9, w_X2_beats_10, w_X2_beats_13, w_X2_beats_14, w_X2_beats_17, w_X2_beats_19, w_X2_beats_20, w_X2_beats_23, w_X2_beats_26, w_X2_beats_29, w_X2_beats_30, w_X2_beats_32, w_X2_beats_35, w_X2_beats_36, w_X2_beats_39, w_X2_beats_40, w_X2_beats_41, w_X2_beats_42, w_X2_beats_45, w_X2_beats_46, w_X2_beats_49, w_X2_beats_50, w_X2_beats_53, w_X2_beats_54, w_X2_beats_57, w_X2_beats_58, w_X2_beats_61, w_X2_beats_63, w_X2_beats_66, w_X2_beats_67, w_X2_beats_70, w_X2_beats_71, w_X2_beats_74, w_X2_beats_77, w_X2_beats_78, w_X2_beats_81, w_X2_beats_82, w_X2_beats_85, w_X2_beats_88, w_X2_beats_89, w_X2_beats_92, w_X2_beats_93, w_X2_beats_96, w_X2_beats_99, w_X2_beats_100, w_X2_beats_103, w_X2_beats_104, w_X2_beats_107, w_X2_beats_110, w_X2_beats_113, w_X2_beats_114, w_X2_beats_117, w_X2_beats_118, w_X2_beats_121, w_X2_beats_124, w_X2_beats_127, w_X2_beats_128, w_X2_beats_131, w_X2_beats_132, w_X2_beats_134, w_X2_beats_135, w_X2_beats_138, w_X2_beats_139, w_X2_beats_142, w_X2_beats_143, w_X2_beats_146, w_X2_beats_149, pm_1i_c, pm_2i_c, pm_1l_c, pm_2l_c, pm_1a_c, pm_ia_c, pm_iia_c, pm_va_c, pm_cp_c, pm_k0_c, pm_k1_c, pm_k2_c, pm_k3_c, pm_s1_c, pm_s2_c, pm_s3_c, pm_s4_c, pm_ri_c, pm_ra_c, pm_rn_c, pm_rk_i, pm_rk_z, pm_rk_a, pm_vk_i, pm_vk_z, pm_vk_a, pm_cti, pm_ctr, pm_ldi_z, pm_ldi_s, pm_lda_z, pm_lda_s, pm_cat_n, pm_cat_i, pm_cat_r, pm_cat_l, pm_obj, pm_arr, pm_opt, pm_ird, pm_aln, List.getElem?_cons_zero, List.getElem?_cons_succ, List.set_cons_zero, List.set_cons_succ, List.length_cons, List.length_nil, List.length_set, true_and, and_true, Nat.add_zero, Nat.zero_add, Nat.le_refl, Nat.reduceAdd, Nat.reduceLT, Nat.reduceLeDiff, Nat.zero_le, not_false_eq_true, not_true_eq_false, false_implies, implies_true, true_implies, Nat.zero_lt_succ, Nat.lt_add_one, pm_tl_n, pm_tl_s, sc_uL, xo8, xa8, xb8, xc8, xf8, x18, x28, x38, x48, x58, v8, l11, l10, l9, l8, l7, l6, l5, l4, e11]
    refine PM_use (c_Row_append K15 (c - c / 10 * 10) (d + 2)) ?_
    rintro x h12 l12 ⟨rfl, K17, K18⟩
    rw [if_pos (by simp)] at K17
    have D9 := D8.uv K17 K18
    have f9 := f8.tr (frd_2 6 K18 (by omega))
    have v9 := K17.o
    have xo9 := D9.o
    have xa9 := D9.sh
    have xb9 := D9.ko
    have xc9 := D9.lo
    have xf9 := D9.co
    have x19 := D9.wo
    have x29 := D9.to
    have x39 := D9.so
    have x49 := D9.go
    have x59 := D9.po
    show W_X2_beats _ _ _ _ _ _ _ _ _
    simp only [w_X2_beats_0, w_X2_beats_1, w_X2_beats_4, w_X2_beats_5, w_X2_beats_8, w_X2_beats_9, w_X2_beats_10, w_X2_beats_13, w_X2_beats_14, w_X2_beats_17, w_X2_beats_19, w_X2_beats_20, w_X2_beats_23, w_X2_beats_26, w_X2_beats_29, w_X2_beats_30, w_X2_beats_32, w_X2_beats_35, w_X2_beats_36, w_X2_beats_39, w_X2_beats_40, w_X2_beats_41, w_X2_beats_42, w_X2_beats_45, w_X2_beats_46, w_X2_beats_49, w_X2_beats_50, w_X2_beats_53, w_X2_beats_54, w_X2_beats_57, w_X2_beats_58, w_X2_beats_61, w_X2_beats_63, w_X2_beats_66, w_X2_beats_67, w_X2_beats_70, w_X2_beats_71, w_X2_beats_74, w_X2_beats_77, w_X2_beats_78, w_X2_beats_81, w_X2_beats_82, w_X2_beats_85, w_X2_beats_88, w_X2_beats_89, w_X2_beats_92, w_X2_beats_93, w_X2_beats_96, w_X2_beats_99, w_X2_beats_100, w_X2_beats_103, w_X2_beats_104, w_X2_beats_107, w_X2_beats_110, w_X2_beats_113, w_X2_beats_114, w_X2_beats_117, w_X2_beats_118, w_X2_beats_121, w_X2_beats_124, w_X2_beats_127, w_X2_beats_128, w_X2_beats_131, w_X2_beats_132, w_X2_beats_134, w_X2_beats_135, w_X2_beats_138, w_X2_beats_139, w_X2_beats_142, w_X2_beats_143, w_X2_beats_146, w_X2_beats_149, pm_1i_c, pm_2i_c, pm_1l_c, pm_2l_c, pm_1a_c, pm_ia_c, pm_iia_c, pm_va_c, pm_cp_c, pm_k0_c, pm_k1_c, pm_k2_c, pm_k3_c, pm_s1_c, pm_s2_c, pm_s3_c, pm_s4_c, pm_ri_c, pm_ra_c, pm_rn_c, pm_rk_i, pm_rk_z, pm_rk_a, pm_vk_i, pm_vk_z, pm_vk_a, pm_cti, pm_ctr, pm_ldi_z, pm_ldi_s, pm_lda_z, pm_lda_s, pm_cat_n, pm_cat_i, pm_cat_r, pm_cat_l, pm_obj, pm_arr, pm_opt, pm_ird, pm_aln, List.getElem?_cons_zero, List.getElem?_cons_succ, List.set_cons_zero, List.set_cons_succ, List.length_cons, List.length_nil, List.length_set, true_and, and_true, Nat.add_zero, Nat.zero_add, Nat.le_refl, Nat.reduceAdd, Nat.reduceLT, Nat.reduceLeDiff, Nat.zero_le, not_false_eq_true, not_true_eq_false, false_implies, implies_true, true_implies, Nat.zero_lt_succ, Nat.lt_add_one, pm_tl_n, pm_tl_s, sc_uL, xo9, xa9, xb9, xc9, xf9, x19, x29, x39, x49, x59, v9, l12, l11, l10, l9, l8, l7, l6, l5, l4]
    obtain ⟨cs, k1, k2⟩ := D9.la.2.1
    obtain ⟨st, k3⟩ := D9.la.2.2
    refine PM_use (c_Law_holds D9.lo k1 k3 K17 (by omega) d) ?_
    rintro x h13 l13 ⟨rfl, ⟨st2, k4⟩, k5⟩
    show W_X2_beats _ _ _ _ _ _ _ _ _
    simp only [w_X2_beats_0, w_X2_beats_1, w_X2_beats_4, w_X2_beats_5, w_X2_beats_8, w_X2_beats_9, w_X2_beats_10, w_X2_beats_13, w_X2_beats_14, w_X2_beats_17, w_X2_beats_19, w_X2_beats_20, w_X2_beats_23, w_X2_beats_26, w_X2_beats_29, w_X2_beats_30, w_X2_beats_32, w_X2_beats_35, w_X2_beats_36, w_X2_beats_39, w_X2_beats_40, w_X2_beats_41, w_X2_beats_42, w_X2_beats_45, w_X2_beats_46, w_X2_beats_49, w_X2_beats_50, w_X2_beats_53, w_X2_beats_54, w_X2_beats_57, w_X2_beats_58, w_X2_beats_61, w_X2_beats_63, w_X2_beats_66, w_X2_beats_67, w_X2_beats_70, w_X2_beats_71, w_X2_beats_74, w_X2_beats_77, w_X2_beats_78, w_X2_beats_81, w_X2_beats_82, w_X2_beats_85, w_X2_beats_88, w_X2_beats_89, w_X2_beats_92, w_X2_beats_93, w_X2_beats_96, w_X2_beats_99, w_X2_beats_100, w_X2_beats_103, w_X2_beats_104, w_X2_beats_107, w_X2_beats_110, w_X2_beats_113, w_X2_beats_114, w_X2_beats_117, w_X2_beats_118, w_X2_beats_121, w_X2_beats_124, w_X2_beats_127, w_X2_beats_128, w_X2_beats_131, w_X2_beats_132, w_X2_beats_134, w_X2_beats_135, w_X2_beats_138, w_X2_beats_139, w_X2_beats_142, w_X2_beats_143, w_X2_beats_146, w_X2_beats_149, pm_1i_c, pm_2i_c, pm_1l_c, pm_2l_c, pm_1a_c, pm_ia_c, pm_iia_c, pm_va_c, pm_cp_c, pm_k0_c, pm_k1_c, pm_k2_c, pm_k3_c, pm_s1_c, pm_s2_c, pm_s3_c, pm_s4_c, pm_ri_c, pm_ra_c, pm_rn_c, pm_rk_i, pm_rk_z, pm_rk_a, pm_vk_i, pm_vk_z, pm_vk_a, pm_cti, pm_ctr, pm_ldi_z, pm_ldi_s, pm_lda_z, pm_lda_s, pm_cat_n, pm_cat_i, pm_cat_r, pm_cat_l, pm_obj, pm_arr, pm_opt, pm_ird, pm_aln, List.getElem?_cons_zero, List.getElem?_cons_succ, List.set_cons_zero, List.set_cons_succ, List.length_cons, List.length_nil, List.length_set, true_and, and_true, Nat.add_zero, Nat.zero_add, Nat.le_refl, Nat.reduceAdd, Nat.reduceLT, Nat.reduceLeDiff, Nat.zero_le, not_false_eq_true, not_true_eq_false, false_implies, implies_true, true_implies, Nat.zero_lt_succ, Nat.lt_add_one, pm_tl_n, pm_tl_s, sc_uL, l13, l12, l11, l10, l9, l8, l7, l6, l5, l4]
    have k6 : lawE cs (fctL (fcF A c v)) = lw A (fcF A c v) := (k2.resolve_left cl) _
    rw [hb, ← k6]
    have k7 : ∀ i, i < B + 5 ∨ B + 9 < i → h13[i]? = h12[i]? := fun i hi => k5 i (by omega) (by omega)
    refine ⟨?_, rfl, D9.ulw (A' := A) ⟨(k5 _ (by omega) (by omega)).trans D9.lo, ⟨cs, k1.kept (k5 _ (by omega) (by omega)) (k5 _ (by omega) (by omega)), k2⟩, st2, k4⟩ k7 (fun _ _ => rfl) rfl rfl rfl, f9.tr (fun i hi => k5 i (by omega) (by omega))⟩
    cases lawE cs (fctL (fcF A c v)) <;> simp
end DP
