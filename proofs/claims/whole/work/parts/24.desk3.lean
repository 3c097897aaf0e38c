/-! Desk: its small methods. -/
section DM
variable {h : pmH} {B : Nat} {A : AD}
theorem c_Desk_partOf (D0 : dk_ h B A) (key : Int32) (d : Nat) : PM (d + 2) 11 [.ref B, .int key] h (fun v h' => v = some (.int (nI (partN A key))) ∧ h' = h) := by
  refine en_X2_partOf rfl rfl ?_
  have xo0 := D0.o
  have xa0 := D0.sh
  have xb0 := D0.ko
  have xc0 := D0.lo
  have xf0 := D0.co
  have x10 := D0.wo
  have x20 := D0.to
  have x30 := D0.so
  have x40 := D0.go
  have x50 := D0.po
  have p1 := D0.w.le
  have p2 := D0.t.le
  have p3 := D0.s.le
  have q1 : rw_fnd (li A 1) key = -1 ↔ ¬ key ∈ li A 1 := fnd_m (by omega)
  have q2 : rw_fnd (li A 2) key = -1 ↔ ¬ key ∈ li A 2 := fnd_m (by omega)
  have q3 : rw_fnd (li A 3) key = -1 ↔ ¬ key ∈ li A 3 := fnd_m (by omega)
  unfold partN
  simp only [w_X2_partOf_0, w_X2_partOf_1, w_X2_partOf_4, w_X2_partOf_5, w_X2_partOf_8, w_X2_partOf_9, w_X2_partOf_12, w_X2_partOf_13, w_X2_partOf_14, w_X2_partOf_15, w_X2_partOf_18, w_X2_partOf_19, w_X2_partOf_22, w_X2_partOf_23, w_X2_partOf_26, w_X2_partOf_27, w_X2_partOf_28, w_X2_partOf_29, w_X2_partOf_32, w_X2_partOf_33, w_X2_partOf_36, w_X2_partOf_37, w_X2_partOf_40, w_X2_partOf_41, w_X2_partOf_44, w_X2_partOf_45, pm_1i_c, pm_2i_c, pm_1l_c, pm_2l_c, pm_1a_c, pm_ia_c, pm_iia_c, pm_va_c, pm_cp_c, pm_k0_c, pm_k1_c, pm_k2_c, pm_k3_c, pm_s1_c, pm_s2_c, pm_s3_c, pm_s4_c, pm_ri_c, pm_ra_c, pm_rn_c, pm_rk_i, pm_rk_z, pm_rk_a, pm_vk_i, pm_vk_z, pm_vk_a, pm_cti, pm_ctr, pm_ldi_z, pm_ldi_s, pm_lda_z, pm_lda_s, pm_cat_n, pm_cat_i, pm_cat_r, pm_cat_l, pm_obj, pm_arr, pm_opt, pm_ird, pm_aln, List.getElem?_cons_zero, List.getElem?_cons_succ, List.set_cons_zero, List.set_cons_succ, List.length_cons, List.length_nil, List.length_set, true_and, and_true, Nat.add_zero, Nat.zero_add, Nat.le_refl, Nat.reduceAdd, Nat.reduceLT, Nat.reduceLeDiff, Nat.zero_le, not_false_eq_true, not_true_eq_false, false_implies, implies_true, true_implies, Nat.zero_lt_succ, Nat.lt_add_one, xo0, xa0, xb0, xc0, xf0, x10, x20, x30, x40, x50]
  refine PM_use (c_Row_find D0.w key d) ?_
  rintro v h1 l1 ⟨rfl, rfl⟩
  show W_X2_partOf _ _ _ _ _ _ _ _ _
  simp only [w_X2_partOf_0, w_X2_partOf_1, w_X2_partOf_4, w_X2_partOf_5, w_X2_partOf_8, w_X2_partOf_9, w_X2_partOf_12, w_X2_partOf_13, w_X2_partOf_14, w_X2_partOf_15, w_X2_partOf_18, w_X2_partOf_19, w_X2_partOf_22, w_X2_partOf_23, w_X2_partOf_26, w_X2_partOf_27, w_X2_partOf_28, w_X2_partOf_29, w_X2_partOf_32, w_X2_partOf_33, w_X2_partOf_36, w_X2_partOf_37, w_X2_partOf_40, w_X2_partOf_41, w_X2_partOf_44, w_X2_partOf_45, pm_1i_c, pm_2i_c, pm_1l_c, pm_2l_c, pm_1a_c, pm_ia_c, pm_iia_c, pm_va_c, pm_cp_c, pm_k0_c, pm_k1_c, pm_k2_c, pm_k3_c, pm_s1_c, pm_s2_c, pm_s3_c, pm_s4_c, pm_ri_c, pm_ra_c, pm_rn_c, pm_rk_i, pm_rk_z, pm_rk_a, pm_vk_i, pm_vk_z, pm_vk_a, pm_cti, pm_ctr, pm_ldi_z, pm_ldi_s, pm_lda_z, pm_lda_s, pm_cat_n, pm_cat_i, pm_cat_r, pm_cat_l, pm_obj, pm_arr, pm_opt, pm_ird, pm_aln, List.getElem?_cons_zero, List.getElem?_cons_succ, List.set_cons_zero, List.set_cons_succ, List.length_cons, List.length_nil, List.length_set, true_and, and_true, Nat.add_zero, Nat.zero_add, Nat.le_refl, Nat.reduceAdd, Nat.reduceLT, Nat.reduceLeDiff, Nat.zero_le, not_false_eq_true, not_true_eq_false, false_implies, implies_true, true_implies, Nat.zero_lt_succ, Nat.lt_add_one, pm_tl_n, pm_tl_s, sc_uL, xo0, xa0, xb0, xc0, xf0, x10, x20, x30, x40, x50, q1]
  by_cases m1 : key ∈ li A 1
  · simp only [m1, not_true_eq_false, false_implies, true_implies, not_false_eq_true, if_true, true_and, and_true]
    rfl
  · simp only [m1, not_true_eq_false, false_implies, true_implies, not_false_eq_true, if_false, true_and, and_true]
    refine PM_use (c_Row_find D0.t key d) ?_
    rintro v h1 l1 ⟨rfl, rfl⟩
    show W_X2_partOf _ _ _ _ _ _ _ _ _
    simp only [w_X2_partOf_0, w_X2_partOf_1, w_X2_partOf_4, w_X2_partOf_5, w_X2_partOf_8, w_X2_partOf_9, w_X2_partOf_12, w_X2_partOf_13, w_X2_partOf_14, w_X2_partOf_15, w_X2_partOf_18, w_X2_partOf_19, w_X2_partOf_22, w_X2_partOf_23, w_X2_partOf_26, w_X2_partOf_27, w_X2_partOf_28, w_X2_partOf_29, w_X2_partOf_32, w_X2_partOf_33, w_X2_partOf_36, w_X2_partOf_37, w_X2_partOf_40, w_X2_partOf_41, w_X2_partOf_44, w_X2_partOf_45, pm_1i_c, pm_2i_c, pm_1l_c, pm_2l_c, pm_1a_c, pm_ia_c, pm_iia_c, pm_va_c, pm_cp_c, pm_k0_c, pm_k1_c, pm_k2_c, pm_k3_c, pm_s1_c, pm_s2_c, pm_s3_c, pm_s4_c, pm_ri_c, pm_ra_c, pm_rn_c, pm_rk_i, pm_rk_z, pm_rk_a, pm_vk_i, pm_vk_z, pm_vk_a, pm_cti, pm_ctr, pm_ldi_z, pm_ldi_s, pm_lda_z, pm_lda_s, pm_cat_n, pm_cat_i, pm_cat_r, pm_cat_l, pm_obj, pm_arr, pm_opt, pm_ird, pm_aln, List.getElem?_cons_zero, List.getElem?_cons_succ, List.set_cons_zero, List.set_cons_succ, List.length_cons, List.length_nil, List.length_set, true_and, and_true, Nat.add_zero, Nat.zero_add, Nat.le_refl, Nat.reduceAdd, Nat.reduceLT, Nat.reduceLeDiff, Nat.zero_le, not_false_eq_true, not_true_eq_false, false_implies, implies_true, true_implies, Nat.zero_lt_succ, Nat.lt_add_one, pm_tl_n, pm_tl_s, sc_uL, xo0, xa0, xb0, xc0, xf0, x10, x20, x30, x40, x50, q2]
    by_cases m2 : key ∈ li A 2
    · simp only [m2, not_true_eq_false, false_implies, true_implies, not_false_eq_true, if_true, true_and, and_true]
      rfl
    · simp only [m2, not_true_eq_false, false_implies, true_implies, not_false_eq_true, if_false, true_and, and_true]
      refine PM_use (c_Row_find D0.s key d) ?_
      rintro v h1 l1 ⟨rfl, rfl⟩
      show W_X2_partOf _ _ _ _ _ _ _ _ _
      simp only [w_X2_partOf_0, w_X2_partOf_1, w_X2_partOf_4, w_X2_partOf_5, w_X2_partOf_8, w_X2_partOf_9, w_X2_partOf_12, w_X2_partOf_13, w_X2_partOf_14, w_X2_partOf_15, w_X2_partOf_18, w_X2_partOf_19, w_X2_partOf_22, w_X2_partOf_23, w_X2_partOf_26, w_X2_partOf_27, w_X2_partOf_28, w_X2_partOf_29, w_X2_partOf_32, w_X2_partOf_33, w_X2_partOf_36, w_X2_partOf_37, w_X2_partOf_40, w_X2_partOf_41, w_X2_partOf_44, w_X2_partOf_45, pm_1i_c, pm_2i_c, pm_1l_c, pm_2l_c, pm_1a_c, pm_ia_c, pm_iia_c, pm_va_c, pm_cp_c, pm_k0_c, pm_k1_c, pm_k2_c, pm_k3_c, pm_s1_c, pm_s2_c, pm_s3_c, pm_s4_c, pm_ri_c, pm_ra_c, pm_rn_c, pm_rk_i, pm_rk_z, pm_rk_a, pm_vk_i, pm_vk_z, pm_vk_a, pm_cti, pm_ctr, pm_ldi_z, pm_ldi_s, pm_lda_z, pm_lda_s, pm_cat_n, pm_cat_i, pm_cat_r, pm_cat_l, pm_obj, pm_arr, pm_opt, pm_ird, pm_aln, List.getElem?_cons_zero, List.getElem?_cons_succ, List.set_cons_zero, List.set_cons_succ, List.length_cons, List.length_nil, List.length_set, true_and, and_true, Nat.add_zero, Nat.zero_add, Nat.le_refl, Nat.reduceAdd, Nat.reduceLT, Nat.reduceLeDiff, Nat.zero_le, not_false_eq_true, not_true_eq_false, false_implies, implies_true, true_implies, Nat.zero_lt_succ, Nat.lt_add_one, pm_tl_n, pm_tl_s, sc_uL, xo0, xa0, xb0, xc0, xf0, x10, x20, x30, x40, x50, q3]
      by_cases m3 : key ∈ li A 3
      · simp only [m3, not_true_eq_false, false_implies, true_implies, not_false_eq_true, if_true, true_and, and_true]
        rfl
      · simp only [m3, not_true_eq_false, false_implies, true_implies, not_false_eq_true, if_false, true_and, and_true]
        rfl
theorem c_Desk_rowOf (D0 : dk_ h B A) {p : Nat} (h1 : 1 ≤ p) (h2 : p ≤ 3) (d : Nat) : PM (d + 1) 12 [.ref B, .int (nI p)] h (fun v h' => v = some (.ref (B + (10 + 2 * p))) ∧ h' = h) := by
  refine en_X2_rowOf rfl rfl ?_
  have xo0 := D0.o
  have xa0 := D0.sh
  have xb0 := D0.ko
  have xc0 := D0.lo
  have xf0 := D0.co
  have x10 := D0.wo
  have x20 := D0.to
  have x30 := D0.so
  have x40 := D0.go
  have x50 := D0.po
  have e1 : nI 1 = 1 := rfl
  have e2 : nI 2 = 2 := rfl
  have e3 : ¬ (2 : Int32) = 1 := by decide
  have e4 : ¬ nI 3 = 1 := by decide
  have e5 : ¬ nI 3 = 2 := by decide
  have : p = 1 ∨ p = 2 ∨ p = 3 := by omega
  rcases this with rfl | rfl | rfl
  · simp only [w_X2_rowOf_0, w_X2_rowOf_1, w_X2_rowOf_2, w_X2_rowOf_5, w_X2_rowOf_6, w_X2_rowOf_9, w_X2_rowOf_10, w_X2_rowOf_11, w_X2_rowOf_12, w_X2_rowOf_15, w_X2_rowOf_16, w_X2_rowOf_19, w_X2_rowOf_22, w_X2_rowOf_23, w_X2_rowOf_26, pm_1i_c, pm_2i_c, pm_1l_c, pm_2l_c, pm_1a_c, pm_ia_c, pm_iia_c, pm_va_c, pm_cp_c, pm_k0_c, pm_k1_c, pm_k2_c, pm_k3_c, pm_s1_c, pm_s2_c, pm_s3_c, pm_s4_c, pm_ri_c, pm_ra_c, pm_rn_c, pm_rk_i, pm_rk_z, pm_rk_a, pm_vk_i, pm_vk_z, pm_vk_a, pm_cti, pm_ctr, pm_ldi_z, pm_ldi_s, pm_lda_z, pm_lda_s, pm_cat_n, pm_cat_i, pm_cat_r, pm_cat_l, pm_obj, pm_arr, pm_opt, pm_ird, pm_aln, List.getElem?_cons_zero, List.getElem?_cons_succ, List.set_cons_zero, List.set_cons_succ, List.length_cons, List.length_nil, List.length_set, true_and, and_true, Nat.add_zero, Nat.zero_add, Nat.le_refl, Nat.reduceAdd, Nat.reduceLT, Nat.reduceLeDiff, Nat.zero_le, not_false_eq_true, not_true_eq_false, false_implies, implies_true, true_implies, Nat.zero_lt_succ, Nat.lt_add_one, xo0, xa0, xb0, xc0, xf0, x10, x20, x30, x40, x50, e1]
  · simp only [w_X2_rowOf_0, w_X2_rowOf_1, w_X2_rowOf_2, w_X2_rowOf_5, w_X2_rowOf_6, w_X2_rowOf_9, w_X2_rowOf_10, w_X2_rowOf_11, w_X2_rowOf_12, w_X2_rowOf_15, w_X2_rowOf_16, w_X2_rowOf_19, w_X2_rowOf_22, w_X2_rowOf_23, w_X2_rowOf_26, pm_1i_c, pm_2i_c, pm_1l_c, pm_2l_c, pm_1a_c, pm_ia_c, pm_iia_c, pm_va_c, pm_cp_c, pm_k0_c, pm_k1_c, pm_k2_c, pm_k3_c, pm_s1_c, pm_s2_c, pm_s3_c, pm_s4_c, pm_ri_c, pm_ra_c, pm_rn_c, pm_rk_i, pm_rk_z, pm_rk_a, pm_vk_i, pm_vk_z, pm_vk_a, pm_cti, pm_ctr, pm_ldi_z, pm_ldi_s, pm_lda_z, pm_lda_s, pm_cat_n, pm_cat_i, pm_cat_r, pm_cat_l, pm_obj, pm_arr, pm_opt, pm_ird, pm_aln, List.getElem?_cons_zero, List.getElem?_cons_succ, List.set_cons_zero, List.set_cons_succ, List.length_cons, List.length_nil, List.length_set, true_and, and_true, Nat.add_zero, Nat.zero_add, Nat.le_refl, Nat.reduceAdd, Nat.reduceLT, Nat.reduceLeDiff, Nat.zero_le, not_false_eq_true, not_true_eq_false, false_implies, implies_true, true_implies, Nat.zero_lt_succ, Nat.lt_add_one, xo0, xa0, xb0, xc0, xf0, x10, x20, x30, x40, x50, e2, e3]
  · simp only [w_X2_rowOf_0, w_X2_rowOf_1, w_X2_rowOf_2, w_X2_rowOf_5, w_X2_rowOf_6, w_X2_rowOf_9, w_X2_rowOf_10, w_X2_rowOf_11, w_X2_rowOf_12, w_X2_rowOf_15, w_X2_rowOf_16, w_X2_rowOf_19, w_X2_rowOf_22, w_X2_rowOf_23, w_X2_rowOf_26, pm_1i_c, pm_2i_c, pm_1l_c, pm_2l_c, pm_1a_c, pm_ia_c, pm_iia_c, pm_va_c, pm_cp_c, pm_k0_c, pm_k1_c, pm_k2_c, pm_k3_c, pm_s1_c, pm_s2_c, pm_s3_c, pm_s4_c, pm_ri_c, pm_ra_c, pm_rn_c, pm_rk_i, pm_rk_z, pm_rk_a, pm_vk_i, pm_vk_z, pm_vk_a, pm_cti, pm_ctr, pm_ldi_z, pm_ldi_s, pm_lda_z, pm_lda_s, pm_cat_n, pm_cat_i, pm_cat_r, pm_cat_l, pm_obj, pm_arr, pm_opt, pm_ird, pm_aln, List.getElem?_cons_zero, List.getElem?_cons_succ, List.set_cons_zero, List.set_cons_succ, List.length_cons, List.length_nil, List.length_set, true_and, and_true, Nat.add_zero, Nat.zero_add, Nat.le_refl, Nat.reduceAdd, Nat.reduceLT, Nat.reduceLeDiff, Nat.zero_le, not_false_eq_true, not_true_eq_false, false_implies, implies_true, true_implies, Nat.zero_lt_succ, Nat.lt_add_one, xo0, xa0, xb0, xc0, xf0, x10, x20, x30, x40, x50, e4, e5]
theorem c_Desk_goOut (D0 : dk_ h B A) (key : Int32) (d : Nat) : PM (d + 2) 16 [.ref B, .int key] h (fun v h' => v = none ∧ dk_ h' B (gnF A key) ∧ frd h h' B) := by
  refine en_X2_goOut rfl rfl ?_
  have xo0 := D0.o
  have xa0 := D0.sh
  have xb0 := D0.ko
  have xc0 := D0.lo
  have xf0 := D0.co
  have x10 := D0.wo
  have x20 := D0.to
  have x30 := D0.so
  have x40 := D0.go
  have x50 := D0.po
  simp only [w_X2_goOut_0, w_X2_goOut_1, w_X2_goOut_4, w_X2_goOut_5, w_X2_goOut_6, w_X2_goOut_9, w_X2_goOut_10, w_X2_goOut_11, w_X2_goOut_14, w_X2_goOut_15, w_X2_goOut_16, w_X2_goOut_19, pm_1i_c, pm_2i_c, pm_1l_c, pm_2l_c, pm_1a_c, pm_ia_c, pm_iia_c, pm_va_c, pm_cp_c, pm_k0_c, pm_k1_c, pm_k2_c, pm_k3_c, pm_s1_c, pm_s2_c, pm_s3_c, pm_s4_c, pm_ri_c, pm_ra_c, pm_rn_c, pm_rk_i, pm_rk_z, pm_rk_a, pm_vk_i, pm_vk_z, pm_vk_a, pm_cti, pm_ctr, pm_ldi_z, pm_ldi_s, pm_lda_z, pm_lda_s, pm_cat_n, pm_cat_i, pm_cat_r, pm_cat_l, pm_obj, pm_arr, pm_opt, pm_ird, pm_aln, List.getElem?_cons_zero, List.getElem?_cons_succ, List.set_cons_zero, List.set_cons_succ, List.length_cons, List.length_nil, List.length_set, true_and, and_true, Nat.add_zero, Nat.zero_add, Nat.le_refl, Nat.reduceAdd, Nat.reduceLT, Nat.reduceLeDiff, Nat.zero_le, not_false_eq_true, not_true_eq_false, false_implies, implies_true, true_implies, Nat.zero_lt_succ, Nat.lt_add_one, xo0, xa0, xb0, xc0, xf0, x10, x20, x30, x40, x50]
  refine PM_use (c_Row_ins0 D0.g (by omega) key d) ?_
  rintro v h1 l1 ⟨rfl, K1, K2⟩
  have D1 := D0.ug K1 K2
  have f1 := frd_2 4 K2 (by omega)
  have xo1 := D1.o
  have xa1 := D1.sh
  have xb1 := D1.ko
  have xc1 := D1.lo
  have xf1 := D1.co
  have x11 := D1.wo
  have x21 := D1.to
  have x31 := D1.so
  have x41 := D1.go
  have x51 := D1.po
  show W_X2_goOut _ _ _ _ _ _ _ _ _
  simp only [w_X2_goOut_0, w_X2_goOut_1, w_X2_goOut_4, w_X2_goOut_5, w_X2_goOut_6, w_X2_goOut_9, w_X2_goOut_10, w_X2_goOut_11, w_X2_goOut_14, w_X2_goOut_15, w_X2_goOut_16, w_X2_goOut_19, pm_1i_c, pm_2i_c, pm_1l_c, pm_2l_c, pm_1a_c, pm_ia_c, pm_iia_c, pm_va_c, pm_cp_c, pm_k0_c, pm_k1_c, pm_k2_c, pm_k3_c, pm_s1_c, pm_s2_c, pm_s3_c, pm_s4_c, pm_ri_c, pm_ra_c, pm_rn_c, pm_rk_i, pm_rk_z, pm_rk_a, pm_vk_i, pm_vk_z, pm_vk_a, pm_cti, pm_ctr, pm_ldi_z, pm_ldi_s, pm_lda_z, pm_lda_s, pm_cat_n, pm_cat_i, pm_cat_r, pm_cat_l, pm_obj, pm_arr, pm_opt, pm_ird, pm_aln, List.getElem?_cons_zero, List.getElem?_cons_succ, List.set_cons_zero, List.set_cons_succ, List.length_cons, List.length_nil, List.length_set, true_and, and_true, Nat.add_zero, Nat.zero_add, Nat.le_refl, Nat.reduceAdd, Nat.reduceLT, Nat.reduceLeDiff, Nat.zero_le, not_false_eq_true, not_true_eq_false, false_implies, implies_true, true_implies, Nat.zero_lt_succ, Nat.lt_add_one, pm_tl_n, pm_tl_s, sc_uL, xo1, xa1, xb1, xc1, xf1, x11, x21, x31, x41, x51, l1]
  obtain ⟨h2, E2, l2, f2, D2⟩ := D1.pd (gnF A key) (sc A 2) (sc A 3) (sc A 4 + 1) (sc A 5) (sc A 6) (sc A 7)
  have E3 := E2
  exact ⟨E2 ▸ D2, f1.tr (E2 ▸ f2)⟩
theorem c_Desk_remember (D0 : dk_ h B A) (key : Int32) (d : Nat) : PM (d + 2) 10 [.ref B, .int key] h (fun v h' => v = none ∧ dk_ h' B (remF A key) ∧ frd h h' B) := by
  refine en_X2_remember rfl rfl ?_
  have xo0 := D0.o
  have xa0 := D0.sh
  have xb0 := D0.ko
  have xc0 := D0.lo
  have xf0 := D0.co
  have x10 := D0.wo
  have x20 := D0.to
  have x30 := D0.so
  have x40 := D0.go
  have x50 := D0.po
  have len := D0.p.le
  simp only [w_X2_remember_0, w_X2_remember_1, w_X2_remember_4, w_X2_remember_7, w_X2_remember_9, w_X2_remember_12, w_X2_remember_13, w_X2_remember_16, w_X2_remember_17, w_X2_remember_20, w_X2_remember_21, w_X2_remember_22, w_X2_remember_25, w_X2_remember_26, w_X2_remember_29, pm_1i_c, pm_2i_c, pm_1l_c, pm_2l_c, pm_1a_c, pm_ia_c, pm_iia_c, pm_va_c, pm_cp_c, pm_k0_c, pm_k1_c, pm_k2_c, pm_k3_c, pm_s1_c, pm_s2_c, pm_s3_c, pm_s4_c, pm_ri_c, pm_ra_c, pm_rn_c, pm_rk_i, pm_rk_z, pm_rk_a, pm_vk_i, pm_vk_z, pm_vk_a, pm_cti, pm_ctr, pm_ldi_z, pm_ldi_s, pm_lda_z, pm_lda_s, pm_cat_n, pm_cat_i, pm_cat_r, pm_cat_l, pm_obj, pm_arr, pm_opt, pm_ird, pm_aln, List.getElem?_cons_zero, List.getElem?_cons_succ, List.set_cons_zero, List.set_cons_succ, List.length_cons, List.length_nil, List.length_set, true_and, and_true, Nat.add_zero, Nat.zero_add, Nat.le_refl, Nat.reduceAdd, Nat.reduceLT, Nat.reduceLeDiff, Nat.zero_le, not_false_eq_true, not_true_eq_false, false_implies, implies_true, true_implies, Nat.zero_lt_succ, Nat.lt_add_one, xo0, xa0, xb0, xc0, xf0, x10, x20, x30, x40, x50]
  refine PM_use (c_Row_size D0.p d) ?_
  rintro v h1 l1 ⟨rfl, rfl⟩
  unfold remF hisF
  by_cases c : (li A 5).length < 100
  · have e1 : nI (li A 5).length < 100 := nI_lt (b := 100) c (by omega)
    show W_X2_remember _ _ _ _ _ _ _ _ _
    simp only [w_X2_remember_0, w_X2_remember_1, w_X2_remember_4, w_X2_remember_7, w_X2_remember_9, w_X2_remember_12, w_X2_remember_13, w_X2_remember_16, w_X2_remember_17, w_X2_remember_20, w_X2_remember_21, w_X2_remember_22, w_X2_remember_25, w_X2_remember_26, w_X2_remember_29, pm_1i_c, pm_2i_c, pm_1l_c, pm_2l_c, pm_1a_c, pm_ia_c, pm_iia_c, pm_va_c, pm_cp_c, pm_k0_c, pm_k1_c, pm_k2_c, pm_k3_c, pm_s1_c, pm_s2_c, pm_s3_c, pm_s4_c, pm_ri_c, pm_ra_c, pm_rn_c, pm_rk_i, pm_rk_z, pm_rk_a, pm_vk_i, pm_vk_z, pm_vk_a, pm_cti, pm_ctr, pm_ldi_z, pm_ldi_s, pm_lda_z, pm_lda_s, pm_cat_n, pm_cat_i, pm_cat_r, pm_cat_l, pm_obj, pm_arr, pm_opt, pm_ird, pm_aln, List.getElem?_cons_zero, List.getElem?_cons_succ, List.set_cons_zero, List.set_cons_succ, List.length_cons, List.length_nil, List.length_set, true_and, and_true, Nat.add_zero, Nat.zero_add, Nat.le_refl, Nat.reduceAdd, Nat.reduceLT, Nat.reduceLeDiff, Nat.zero_le, not_false_eq_true, not_true_eq_false, false_implies, implies_true, true_implies, Nat.zero_lt_succ, Nat.lt_add_one, pm_tl_n, pm_tl_s, sc_uL, xo0, xa0, xb0, xc0, xf0, x10, x20, x30, x40, x50, e1]
    refine PM_use (c_Row_append D0.p key d) ?_
    rintro v h2 l2 ⟨rfl, K1, K2⟩
    show W_X2_remember _ _ _ _ _ _ _ _ _
    simp only [w_X2_remember_0, w_X2_remember_1, w_X2_remember_4, w_X2_remember_7, w_X2_remember_9, w_X2_remember_12, w_X2_remember_13, w_X2_remember_16, w_X2_remember_17, w_X2_remember_20, w_X2_remember_21, w_X2_remember_22, w_X2_remember_25, w_X2_remember_26, w_X2_remember_29, pm_1i_c, pm_2i_c, pm_1l_c, pm_2l_c, pm_1a_c, pm_ia_c, pm_iia_c, pm_va_c, pm_cp_c, pm_k0_c, pm_k1_c, pm_k2_c, pm_k3_c, pm_s1_c, pm_s2_c, pm_s3_c, pm_s4_c, pm_ri_c, pm_ra_c, pm_rn_c, pm_rk_i, pm_rk_z, pm_rk_a, pm_vk_i, pm_vk_z, pm_vk_a, pm_cti, pm_ctr, pm_ldi_z, pm_ldi_s, pm_lda_z, pm_lda_s, pm_cat_n, pm_cat_i, pm_cat_r, pm_cat_l, pm_obj, pm_arr, pm_opt, pm_ird, pm_aln, List.getElem?_cons_zero, List.getElem?_cons_succ, List.set_cons_zero, List.set_cons_succ, List.length_cons, List.length_nil, List.length_set, true_and, and_true, Nat.add_zero, Nat.zero_add, Nat.le_refl, Nat.reduceAdd, Nat.reduceLT, Nat.reduceLeDiff, Nat.zero_le, not_false_eq_true, not_true_eq_false, false_implies, implies_true, true_implies, Nat.zero_lt_succ, Nat.lt_add_one, pm_tl_n, pm_tl_s, sc_uL, l2]
    rw [if_pos c] at K1
    rw [if_pos c]
    exact ⟨D0.up K1 K2, frd_2 5 K2 (by omega)⟩
  · have e1 : ¬ nI (li A 5).length < 100 := nI_nlt (b := 100) (by omega) (by omega)
    show W_X2_remember _ _ _ _ _ _ _ _ _
    simp only [w_X2_remember_0, w_X2_remember_1, w_X2_remember_4, w_X2_remember_7, w_X2_remember_9, w_X2_remember_12, w_X2_remember_13, w_X2_remember_16, w_X2_remember_17, w_X2_remember_20, w_X2_remember_21, w_X2_remember_22, w_X2_remember_25, w_X2_remember_26, w_X2_remember_29, pm_1i_c, pm_2i_c, pm_1l_c, pm_2l_c, pm_1a_c, pm_ia_c, pm_iia_c, pm_va_c, pm_cp_c, pm_k0_c, pm_k1_c, pm_k2_c, pm_k3_c, pm_s1_c, pm_s2_c, pm_s3_c, pm_s4_c, pm_ri_c, pm_ra_c, pm_rn_c, pm_rk_i, pm_rk_z, pm_rk_a, pm_vk_i, pm_vk_z, pm_vk_a, pm_cti, pm_ctr, pm_ldi_z, pm_ldi_s, pm_lda_z, pm_lda_s, pm_cat_n, pm_cat_i, pm_cat_r, pm_cat_l, pm_obj, pm_arr, pm_opt, pm_ird, pm_aln, List.getElem?_cons_zero, List.getElem?_cons_succ, List.set_cons_zero, List.set_cons_succ, List.length_cons, List.length_nil, List.length_set, true_and, and_true, Nat.add_zero, Nat.zero_add, Nat.le_refl, Nat.reduceAdd, Nat.reduceLT, Nat.reduceLeDiff, Nat.zero_le, not_false_eq_true, not_true_eq_false, false_implies, implies_true, true_implies, Nat.zero_lt_succ, Nat.lt_add_one, pm_tl_n, pm_tl_s, sc_uL, xo0, xa0, xb0, xc0, xf0, x10, x20, x30, x40, x50, e1]
    refine PM_use (c_Row_rm0 D0.p d) ?_
    rintro v h2 l2 ⟨⟨y, rfl⟩, K1, K2⟩
    have D1 := D0.up K1 K2
    have xo1 := D1.o
    have xa1 := D1.sh
    have xb1 := D1.ko
    have xc1 := D1.lo
    have xf1 := D1.co
    have x11 := D1.wo
    have x21 := D1.to
    have x31 := D1.so
    have x41 := D1.go
    have x51 := D1.po
    show W_X2_remember _ _ _ _ _ _ _ _ _
    simp only [w_X2_remember_0, w_X2_remember_1, w_X2_remember_4, w_X2_remember_7, w_X2_remember_9, w_X2_remember_12, w_X2_remember_13, w_X2_remember_16, w_X2_remember_17, w_X2_remember_20, w_X2_remember_21, w_X2_remember_22, w_X2_remember_25, w_X2_remember_26, w_X2_remember_29, pm_1i_c, pm_2i_c, pm_1l_c, pm_2l_c, pm_1a_c, pm_ia_c, pm_iia_c, pm_va_c, pm_cp_c, pm_k0_c, pm_k1_c, pm_k2_c, pm_k3_c, pm_s1_c, pm_s2_c, pm_s3_c, pm_s4_c, pm_ri_c, pm_ra_c, pm_rn_c, pm_rk_i, pm_rk_z, pm_rk_a, pm_vk_i, pm_vk_z, pm_vk_a, pm_cti, pm_ctr, pm_ldi_z, pm_ldi_s, pm_lda_z, pm_lda_s, pm_cat_n, pm_cat_i, pm_cat_r, pm_cat_l, pm_obj, pm_arr, pm_opt, pm_ird, pm_aln, List.getElem?_cons_zero, List.getElem?_cons_succ, List.set_cons_zero, List.set_cons_succ, List.length_cons, List.length_nil, List.length_set, true_and, and_true, Nat.add_zero, Nat.zero_add, Nat.le_refl, Nat.reduceAdd, Nat.reduceLT, Nat.reduceLeDiff, Nat.zero_le, not_false_eq_true, not_true_eq_false, false_implies, implies_true, true_implies, Nat.zero_lt_succ, Nat.lt_add_one, pm_tl_n, pm_tl_s, sc_uL, xo1, xa1, xb1, xc1, xf1, x11, x21, x31, x41, x51, l2]
    refine PM_use (c_Row_append D1.p key d) ?_
    rintro v h3 l3 ⟨rfl, K3, K4⟩
    show W_X2_remember _ _ _ _ _ _ _ _ _
    simp only [w_X2_remember_0, w_X2_remember_1, w_X2_remember_4, w_X2_remember_7, w_X2_remember_9, w_X2_remember_12, w_X2_remember_13, w_X2_remember_16, w_X2_remember_17, w_X2_remember_20, w_X2_remember_21, w_X2_remember_22, w_X2_remember_25, w_X2_remember_26, w_X2_remember_29, pm_1i_c, pm_2i_c, pm_1l_c, pm_2l_c, pm_1a_c, pm_ia_c, pm_iia_c, pm_va_c, pm_cp_c, pm_k0_c, pm_k1_c, pm_k2_c, pm_k3_c, pm_s1_c, pm_s2_c, pm_s3_c, pm_s4_c, pm_ri_c, pm_ra_c, pm_rn_c, pm_rk_i, pm_rk_z, pm_rk_a, pm_vk_i, pm_vk_z, pm_vk_a, pm_cti, pm_ctr, pm_ldi_z, pm_ldi_s, pm_lda_z, pm_lda_s, pm_cat_n, pm_cat_i, pm_cat_r, pm_cat_l, pm_obj, pm_arr, pm_opt, pm_ird, pm_aln, List.getElem?_cons_zero, List.getElem?_cons_succ, List.set_cons_zero, List.set_cons_succ, List.length_cons, List.length_nil, List.length_set, true_and, and_true, Nat.add_zero, Nat.zero_add, Nat.le_refl, Nat.reduceAdd, Nat.reduceLT, Nat.reduceLeDiff, Nat.zero_le, not_false_eq_true, not_true_eq_false, false_implies, implies_true, true_implies, Nat.zero_lt_succ, Nat.lt_add_one, pm_tl_n, pm_tl_s, sc_uL, l3, l2]
    rw [li_same] at K3
    rw [if_pos (by rw [List.length_eraseIdx]; split <;> omega)] at K3
    rw [if_neg c, ← uL_uL (x := (li A 5).eraseIdx 0)]
    exact ⟨D1.up K3 K4, (frd_2 5 K2 (by omega)).tr (frd_2 5 K4 (by omega))⟩
theorem c_Desk_comeIn (D0 : dk_ h B A) (key : Int32) (d : Nat) : PM (d + 2) 14 [.ref B, .int key] h (fun v h' => v = none ∧ dk_ h' B (cmF A key) ∧ frd h h' B) := by
  refine en_X2_comeIn rfl rfl ?_
  have xo0 := D0.o
  have xa0 := D0.sh
  have xb0 := D0.ko
  have xc0 := D0.lo
  have xf0 := D0.co
  have x10 := D0.wo
  have x20 := D0.to
  have x30 := D0.so
  have x40 := D0.go
  have x50 := D0.po
  have len := D0.g.le
  simp only [w_X2_comeIn_0, w_X2_comeIn_1, w_X2_comeIn_4, w_X2_comeIn_7, w_X2_comeIn_8, w_X2_comeIn_11, w_X2_comeIn_12, w_X2_comeIn_15, w_X2_comeIn_16, w_X2_comeIn_17, w_X2_comeIn_18, w_X2_comeIn_21, w_X2_comeIn_22, w_X2_comeIn_25, w_X2_comeIn_26, w_X2_comeIn_29, w_X2_comeIn_30, w_X2_comeIn_31, w_X2_comeIn_32, w_X2_comeIn_35, w_X2_comeIn_36, w_X2_comeIn_37, w_X2_comeIn_40, w_X2_comeIn_41, w_X2_comeIn_44, w_X2_comeIn_45, w_X2_comeIn_46, w_X2_comeIn_49, pm_1i_c, pm_2i_c, pm_1l_c, pm_2l_c, pm_1a_c, pm_ia_c, pm_iia_c, pm_va_c, pm_cp_c, pm_k0_c, pm_k1_c, pm_k2_c, pm_k3_c, pm_s1_c, pm_s2_c, pm_s3_c, pm_s4_c, pm_ri_c, pm_ra_c, pm_rn_c, pm_rk_i, pm_rk_z, pm_rk_a, pm_vk_i, pm_vk_z, pm_vk_a, pm_cti, pm_ctr, pm_ldi_z, pm_ldi_s, pm_lda_z, pm_lda_s, pm_cat_n, pm_cat_i, pm_cat_r, pm_cat_l, pm_obj, pm_arr, pm_opt, pm_ird, pm_aln, List.getElem?_cons_zero, List.getElem?_cons_succ, List.set_cons_zero, List.set_cons_succ, List.length_cons, List.length_nil, List.length_set, true_and, and_true, Nat.add_zero, Nat.zero_add, Nat.le_refl, Nat.reduceAdd, Nat.reduceLT, Nat.reduceLeDiff, Nat.zero_le, not_false_eq_true, not_true_eq_false, false_implies, implies_true, true_implies, Nat.zero_lt_succ, Nat.lt_add_one, xo0, xa0, xb0, xc0, xf0, x10, x20, x30, x40, x50]
  refine PM_use (c_Contest_clear D0.co d) ?_
  rintro v h1 l1 ⟨rfl, E⟩
  obtain ⟨h2, E1, l1', f1, D1⟩ := D0.pc (clrF A) (-1) (-1) (-1) (-1)
  rw [E1] at E
  subst E
  obtain ⟨A1, hA1⟩ : ∃ A1, A1 = clrF A := ⟨_, rfl⟩
  have len1 : (li A1 4).length ≤ 16 := by rw [hA1]; exact len.1
  unfold cmF
  rw [← hA1] at D1 ⊢
  have xo1 := D1.o
  have xa1 := D1.sh
  have xb1 := D1.ko
  have xc1 := D1.lo
  have xf1 := D1.co
  have x11 := D1.wo
  have x21 := D1.to
  have x31 := D1.so
  have x41 := D1.go
  have x51 := D1.po
  show W_X2_comeIn _ _ _ _ _ _ _ _ _
  simp only [w_X2_comeIn_0, w_X2_comeIn_1, w_X2_comeIn_4, w_X2_comeIn_7, w_X2_comeIn_8, w_X2_comeIn_11, w_X2_comeIn_12, w_X2_comeIn_15, w_X2_comeIn_16, w_X2_comeIn_17, w_X2_comeIn_18, w_X2_comeIn_21, w_X2_comeIn_22, w_X2_comeIn_25, w_X2_comeIn_26, w_X2_comeIn_29, w_X2_comeIn_30, w_X2_comeIn_31, w_X2_comeIn_32, w_X2_comeIn_35, w_X2_comeIn_36, w_X2_comeIn_37, w_X2_comeIn_40, w_X2_comeIn_41, w_X2_comeIn_44, w_X2_comeIn_45, w_X2_comeIn_46, w_X2_comeIn_49, pm_1i_c, pm_2i_c, pm_1l_c, pm_2l_c, pm_1a_c, pm_ia_c, pm_iia_c, pm_va_c, pm_cp_c, pm_k0_c, pm_k1_c, pm_k2_c, pm_k3_c, pm_s1_c, pm_s2_c, pm_s3_c, pm_s4_c, pm_ri_c, pm_ra_c, pm_rn_c, pm_rk_i, pm_rk_z, pm_rk_a, pm_vk_i, pm_vk_z, pm_vk_a, pm_cti, pm_ctr, pm_ldi_z, pm_ldi_s, pm_lda_z, pm_lda_s, pm_cat_n, pm_cat_i, pm_cat_r, pm_cat_l, pm_obj, pm_arr, pm_opt, pm_ird, pm_aln, List.getElem?_cons_zero, List.getElem?_cons_succ, List.set_cons_zero, List.set_cons_succ, List.length_cons, List.length_nil, List.length_set, true_and, and_true, Nat.add_zero, Nat.zero_add, Nat.le_refl, Nat.reduceAdd, Nat.reduceLT, Nat.reduceLeDiff, Nat.zero_le, not_false_eq_true, not_true_eq_false, false_implies, implies_true, true_implies, Nat.zero_lt_succ, Nat.lt_add_one, pm_tl_n, pm_tl_s, sc_uL, xo1, xa1, xb1, xc1, xf1, x11, x21, x31, x41, x51, l1']
  refine PM_use (c_Row_find D1.g key d) ?_
  rintro v h3 l3 ⟨rfl, rfl⟩
  have q1 : rw_fnd (li A1 4) key = -1 ↔ ¬ key ∈ li A1 4 := fnd_m (by omega)
  by_cases m : key ∈ li A1 4
  · have e1 : ¬ rw_fnd (li A1 4) key = -1 := fun e => q1.mp e m
    have hG : cmG A1 key = uS (uL A1 4 ((li A1 4).erase key)) 5 (sc A1 5 + 1) := if_pos m
    show W_X2_comeIn _ _ _ _ _ _ _ _ _
    simp only [w_X2_comeIn_0, w_X2_comeIn_1, w_X2_comeIn_4, w_X2_comeIn_7, w_X2_comeIn_8, w_X2_comeIn_11, w_X2_comeIn_12, w_X2_comeIn_15, w_X2_comeIn_16, w_X2_comeIn_17, w_X2_comeIn_18, w_X2_comeIn_21, w_X2_comeIn_22, w_X2_comeIn_25, w_X2_comeIn_26, w_X2_comeIn_29, w_X2_comeIn_30, w_X2_comeIn_31, w_X2_comeIn_32, w_X2_comeIn_35, w_X2_comeIn_36, w_X2_comeIn_37, w_X2_comeIn_40, w_X2_comeIn_41, w_X2_comeIn_44, w_X2_comeIn_45, w_X2_comeIn_46, w_X2_comeIn_49, pm_1i_c, pm_2i_c, pm_1l_c, pm_2l_c, pm_1a_c, pm_ia_c, pm_iia_c, pm_va_c, pm_cp_c, pm_k0_c, pm_k1_c, pm_k2_c, pm_k3_c, pm_s1_c, pm_s2_c, pm_s3_c, pm_s4_c, pm_ri_c, pm_ra_c, pm_rn_c, pm_rk_i, pm_rk_z, pm_rk_a, pm_vk_i, pm_vk_z, pm_vk_a, pm_cti, pm_ctr, pm_ldi_z, pm_ldi_s, pm_lda_z, pm_lda_s, pm_cat_n, pm_cat_i, pm_cat_r, pm_cat_l, pm_obj, pm_arr, pm_opt, pm_ird, pm_aln, List.getElem?_cons_zero, List.getElem?_cons_succ, List.set_cons_zero, List.set_cons_succ, List.length_cons, List.length_nil, List.length_set, true_and, and_true, Nat.add_zero, Nat.zero_add, Nat.le_refl, Nat.reduceAdd, Nat.reduceLT, Nat.reduceLeDiff, Nat.zero_le, not_false_eq_true, not_true_eq_false, false_implies, implies_true, true_implies, Nat.zero_lt_succ, Nat.lt_add_one, pm_tl_n, pm_tl_s, sc_uL, xo1, xa1, xb1, xc1, xf1, x11, x21, x31, x41, x51, l1', e1]
    refine PM_use (c_Row_rem D1.g key d) ?_
    rintro v h4 l4 ⟨⟨y, rfl⟩, K1, K2⟩
    have D2 := D1.ug K1 K2
    have xo2 := D2.o
    have xa2 := D2.sh
    have xb2 := D2.ko
    have xc2 := D2.lo
    have xf2 := D2.co
    have x12 := D2.wo
    have x22 := D2.to
    have x32 := D2.so
    have x42 := D2.go
    have x52 := D2.po
    show W_X2_comeIn _ _ _ _ _ _ _ _ _
    simp only [w_X2_comeIn_29, w_X2_comeIn_30, w_X2_comeIn_31, w_X2_comeIn_32, w_X2_comeIn_35, w_X2_comeIn_36, w_X2_comeIn_37, pm_1i_c, pm_2i_c, pm_1l_c, pm_2l_c, pm_1a_c, pm_ia_c, pm_iia_c, pm_va_c, pm_cp_c, pm_k0_c, pm_k1_c, pm_k2_c, pm_k3_c, pm_s1_c, pm_s2_c, pm_s3_c, pm_s4_c, pm_ri_c, pm_ra_c, pm_rn_c, pm_rk_i, pm_rk_z, pm_rk_a, pm_vk_i, pm_vk_z, pm_vk_a, pm_cti, pm_ctr, pm_ldi_z, pm_ldi_s, pm_lda_z, pm_lda_s, pm_cat_n, pm_cat_i, pm_cat_r, pm_cat_l, pm_obj, pm_arr, pm_opt, pm_ird, pm_aln, List.getElem?_cons_zero, List.getElem?_cons_succ, List.set_cons_zero, List.set_cons_succ, List.length_cons, List.length_nil, List.length_set, true_and, and_true, Nat.add_zero, Nat.zero_add, Nat.le_refl, Nat.reduceAdd, Nat.reduceLT, Nat.reduceLeDiff, Nat.zero_le, not_false_eq_true, not_true_eq_false, false_implies, implies_true, true_implies, Nat.zero_lt_succ, Nat.lt_add_one, pm_tl_n, pm_tl_s, sc_uL, xo2, xa2, xb2, xc2, xf2, x12, x22, x32, x42, x52, l1', l4]
    obtain ⟨h5, E5, l5, f5, D5⟩ := D2.pd (cmG A1 key) (sc A1 2) (sc A1 3) (sc A1 4) (sc A1 5 + 1) (sc A1 6) (sc A1 7) (by rw [hG]; rfl) (by rw [hG]; rfl) (by rw [hG]; rfl) (by rw [hG]; rfl) (by rw [hG]; rfl) (by rw [hG]; rfl) (by rw [hG]; intro i hi; rw [sc_ne (by omega)]) (by rw [hG]; rfl)
    rw [E5]
    have xo5 := D5.o
    have xa5 := D5.sh
    have xb5 := D5.ko
    have xc5 := D5.lo
    have xf5 := D5.co
    have x15 := D5.wo
    have x25 := D5.to
    have x35 := D5.so
    have x45 := D5.go
    have x55 := D5.po
    simp only [w_X2_comeIn_40, w_X2_comeIn_41, w_X2_comeIn_44, w_X2_comeIn_45, w_X2_comeIn_46, w_X2_comeIn_49, pm_1i_c, pm_2i_c, pm_1l_c, pm_2l_c, pm_1a_c, pm_ia_c, pm_iia_c, pm_va_c, pm_cp_c, pm_k0_c, pm_k1_c, pm_k2_c, pm_k3_c, pm_s1_c, pm_s2_c, pm_s3_c, pm_s4_c, pm_ri_c, pm_ra_c, pm_rn_c, pm_rk_i, pm_rk_z, pm_rk_a, pm_vk_i, pm_vk_z, pm_vk_a, pm_cti, pm_ctr, pm_ldi_z, pm_ldi_s, pm_lda_z, pm_lda_s, pm_cat_n, pm_cat_i, pm_cat_r, pm_cat_l, pm_obj, pm_arr, pm_opt, pm_ird, pm_aln, List.getElem?_cons_zero, List.getElem?_cons_succ, List.set_cons_zero, List.set_cons_succ, List.length_cons, List.length_nil, List.length_set, true_and, and_true, Nat.add_zero, Nat.zero_add, Nat.le_refl, Nat.reduceAdd, Nat.reduceLT, Nat.reduceLeDiff, Nat.zero_le, not_false_eq_true, not_true_eq_false, false_implies, implies_true, true_implies, Nat.zero_lt_succ, Nat.lt_add_one, xo5, xa5, xb5, xc5, xf5, x15, x25, x35, x45, x55, l5, l4, l1']
    refine PM_use (c_Row_ins0 D5.w (by omega) key d) ?_
    rintro v h6 l6 ⟨rfl, K3, K4⟩
    show W_X2_comeIn _ _ _ _ _ _ _ _ _
    simp only [w_X2_comeIn_40, w_X2_comeIn_41, w_X2_comeIn_44, w_X2_comeIn_45, w_X2_comeIn_46, w_X2_comeIn_49, pm_1i_c, pm_2i_c, pm_1l_c, pm_2l_c, pm_1a_c, pm_ia_c, pm_iia_c, pm_va_c, pm_cp_c, pm_k0_c, pm_k1_c, pm_k2_c, pm_k3_c, pm_s1_c, pm_s2_c, pm_s3_c, pm_s4_c, pm_ri_c, pm_ra_c, pm_rn_c, pm_rk_i, pm_rk_z, pm_rk_a, pm_vk_i, pm_vk_z, pm_vk_a, pm_cti, pm_ctr, pm_ldi_z, pm_ldi_s, pm_lda_z, pm_lda_s, pm_cat_n, pm_cat_i, pm_cat_r, pm_cat_l, pm_obj, pm_arr, pm_opt, pm_ird, pm_aln, List.getElem?_cons_zero, List.getElem?_cons_succ, List.set_cons_zero, List.set_cons_succ, List.length_cons, List.length_nil, List.length_set, true_and, and_true, Nat.add_zero, Nat.zero_add, Nat.le_refl, Nat.reduceAdd, Nat.reduceLT, Nat.reduceLeDiff, Nat.zero_le, not_false_eq_true, not_true_eq_false, false_implies, implies_true, true_implies, Nat.zero_lt_succ, Nat.lt_add_one, pm_tl_n, pm_tl_s, sc_uL, l6, l5, l4, l1']
    exact ⟨D5.uw K3 K4, ((f1.tr (frd_2 4 K2 (by omega))).tr f5).tr (frd_2 1 K4 (by omega))⟩
  · have e1 : rw_fnd (li A1 4) key = -1 := q1.mpr m
    have hG : cmG A1 key = A1 := if_neg m
    rw [hG]
    show W_X2_comeIn _ _ _ _ _ _ _ _ _
    simp only [w_X2_comeIn_0, w_X2_comeIn_1, w_X2_comeIn_4, w_X2_comeIn_7, w_X2_comeIn_8, w_X2_comeIn_11, w_X2_comeIn_12, w_X2_comeIn_15, w_X2_comeIn_16, w_X2_comeIn_17, w_X2_comeIn_18, w_X2_comeIn_21, w_X2_comeIn_22, w_X2_comeIn_25, w_X2_comeIn_26, w_X2_comeIn_29, w_X2_comeIn_30, w_X2_comeIn_31, w_X2_comeIn_32, w_X2_comeIn_35, w_X2_comeIn_36, w_X2_comeIn_37, w_X2_comeIn_40, w_X2_comeIn_41, w_X2_comeIn_44, w_X2_comeIn_45, w_X2_comeIn_46, w_X2_comeIn_49, pm_1i_c, pm_2i_c, pm_1l_c, pm_2l_c, pm_1a_c, pm_ia_c, pm_iia_c, pm_va_c, pm_cp_c, pm_k0_c, pm_k1_c, pm_k2_c, pm_k3_c, pm_s1_c, pm_s2_c, pm_s3_c, pm_s4_c, pm_ri_c, pm_ra_c, pm_rn_c, pm_rk_i, pm_rk_z, pm_rk_a, pm_vk_i, pm_vk_z, pm_vk_a, pm_cti, pm_ctr, pm_ldi_z, pm_ldi_s, pm_lda_z, pm_lda_s, pm_cat_n, pm_cat_i, pm_cat_r, pm_cat_l, pm_obj, pm_arr, pm_opt, pm_ird, pm_aln, List.getElem?_cons_zero, List.getElem?_cons_succ, List.set_cons_zero, List.set_cons_succ, List.length_cons, List.length_nil, List.length_set, true_and, and_true, Nat.add_zero, Nat.zero_add, Nat.le_refl, Nat.reduceAdd, Nat.reduceLT, Nat.reduceLeDiff, Nat.zero_le, not_false_eq_true, not_true_eq_false, false_implies, implies_true, true_implies, Nat.zero_lt_succ, Nat.lt_add_one, pm_tl_n, pm_tl_s, sc_uL, xo1, xa1, xb1, xc1, xf1, x11, x21, x31, x41, x51, l1', e1]
    refine PM_use (c_Row_ins0 D1.w (by omega) key d) ?_
    rintro v h6 l6 ⟨rfl, K3, K4⟩
    show W_X2_comeIn _ _ _ _ _ _ _ _ _
    simp only [w_X2_comeIn_40, w_X2_comeIn_41, w_X2_comeIn_44, w_X2_comeIn_45, w_X2_comeIn_46, w_X2_comeIn_49, pm_1i_c, pm_2i_c, pm_1l_c, pm_2l_c, pm_1a_c, pm_ia_c, pm_iia_c, pm_va_c, pm_cp_c, pm_k0_c, pm_k1_c, pm_k2_c, pm_k3_c, pm_s1_c, pm_s2_c, pm_s3_c, pm_s4_c, pm_ri_c, pm_ra_c, pm_rn_c, pm_rk_i, pm_rk_z, pm_rk_a, pm_vk_i, pm_vk_z, pm_vk_a, pm_cti, pm_ctr, pm_ldi_z, pm_ldi_s, pm_lda_z, pm_lda_s, pm_cat_n, pm_cat_i, pm_cat_r, pm_cat_l, pm_obj, pm_arr, pm_opt, pm_ird, pm_aln, List.getElem?_cons_zero, List.getElem?_cons_succ, List.set_cons_zero, List.set_cons_succ, List.length_cons, List.length_nil, List.length_set, true_and, and_true, Nat.add_zero, Nat.zero_add, Nat.le_refl, Nat.reduceAdd, Nat.reduceLT, Nat.reduceLeDiff, Nat.zero_le, not_false_eq_true, not_true_eq_false, false_implies, implies_true, true_implies, Nat.zero_lt_succ, Nat.lt_add_one, pm_tl_n, pm_tl_s, sc_uL, l6, l1']
    exact ⟨D1.uw K3 K4, f1.tr (frd_2 1 K4 (by omega))⟩
end DM
