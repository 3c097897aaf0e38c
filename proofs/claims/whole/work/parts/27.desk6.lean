/-! Desk: the coldest, fitting. -/
section DR
variable {h : pmH} {B : Nat} {A : AD}
theorem colS_q (A : AD) : ∀ n, (colS A n).1 = 2 ∨ (colS A n).1 = 3
  | 0 => Or.inl rfl
  | n + 1 => by
    unfold colS
    split
    · unfold colP
      split
      · exact Or.inl rfl
      · exact Or.inr rfl
    · exact colS_q A n
theorem c_Desk_dropColdest (hl : h.length ≤ 1000000) (D0 : dk_ h B A) (V : skV A) (d : Nat) : PM (d + 4) 19 [.ref B] h (fun v h' => v = none ∧ dk_ h' B (drpF A) ∧ frd h h' B) := by
  refine en_X2_dropColdest rfl ?_
  have xo0 := D0.o
  have xa0 := D0.sh
  have xb0 := D0.ko
  have xc0 := D0.lo
  have xf0 := D0.co
  have x10 := D0.wo
  have x20 := D0.to
  have x30 := D0.so
  have x40 := D0.go
  have x50 := D0.po
  have len2 := D0.t.le.1
  have len3 := D0.s.le.1
  have lsum : nI (li A 2).length + nI (li A 3).length = nI ((li A 2).length + (li A 3).length) := nI_add _ _
  have loop : ∀ n k, (li A 2).length + (li A 3).length - k = n → k ≤ (li A 2).length + (li A 3).length → ∀ (x5 x6 x7 : Option Value), W_X2_dropColdest (d + 3) (h.length + 0) 0 (fun v h' => v = none ∧ dk_ h' B (drpF A) ∧ frd h h' B) 12 [some (.ref B), some (.ref (B + (10 + 2 * (colS A k).1))), some (.int (colS A k).2.1), some (.int (colS A k).2.2), some (.int (nI k)), x5, x6, x7] [] h 0 := by
    intro n
    induction n with
    | zero =>
      intro k hn hk x5 x6 x7
      have : k = (li A 2).length + (li A 3).length := by omega
      have e1 : ¬ nI k < nI ((li A 2).length + (li A 3).length) := nI_nlt (by omega) (by omega)
      rw [w_X2_dropColdest_12]
      simp only [w_X2_dropColdest_14, w_X2_dropColdest_15, w_X2_dropColdest_18, w_X2_dropColdest_21, w_X2_dropColdest_22, w_X2_dropColdest_25, w_X2_dropColdest_28, w_X2_dropColdest_29, pm_1i_c, pm_2i_c, pm_1l_c, pm_2l_c, pm_1a_c, pm_ia_c, pm_iia_c, pm_va_c, pm_cp_c, pm_k0_c, pm_k1_c, pm_k2_c, pm_k3_c, pm_s1_c, pm_s2_c, pm_s3_c, pm_s4_c, pm_ri_c, pm_ra_c, pm_rn_c, pm_rk_i, pm_rk_z, pm_rk_a, pm_vk_i, pm_vk_z, pm_vk_a, pm_cti, pm_ctr, pm_ldi_z, pm_ldi_s, pm_lda_z, pm_lda_s, pm_cat_n, pm_cat_i, pm_cat_r, pm_cat_l, pm_obj, pm_arr, pm_opt, pm_ird, pm_aln, List.getElem?_cons_zero, List.getElem?_cons_succ, List.set_cons_zero, List.set_cons_succ, List.length_cons, List.length_nil, List.length_set, true_and, and_true, Nat.add_zero, Nat.zero_add, Nat.le_refl, Nat.reduceAdd, Nat.reduceLT, Nat.reduceLeDiff, Nat.zero_le, not_false_eq_true, not_true_eq_false, false_implies, implies_true, true_implies, Nat.zero_lt_succ, Nat.lt_add_one, xo0, xa0, xb0, xc0, xf0, x10, x20, x30, x40, x50]
      refine PM_use (c_Row_size D0.t (d + 2)) ?_
      rintro v h1 l1 ⟨rfl, rfl⟩
      show W_X2_dropColdest _ _ _ _ _ _ _ _ _
      simp only [w_X2_dropColdest_21, w_X2_dropColdest_22, w_X2_dropColdest_25, w_X2_dropColdest_28, w_X2_dropColdest_29, pm_1i_c, pm_2i_c, pm_1l_c, pm_2l_c, pm_1a_c, pm_ia_c, pm_iia_c, pm_va_c, pm_cp_c, pm_k0_c, pm_k1_c, pm_k2_c, pm_k3_c, pm_s1_c, pm_s2_c, pm_s3_c, pm_s4_c, pm_ri_c, pm_ra_c, pm_rn_c, pm_rk_i, pm_rk_z, pm_rk_a, pm_vk_i, pm_vk_z, pm_vk_a, pm_cti, pm_ctr, pm_ldi_z, pm_ldi_s, pm_lda_z, pm_lda_s, pm_cat_n, pm_cat_i, pm_cat_r, pm_cat_l, pm_obj, pm_arr, pm_opt, pm_ird, pm_aln, List.getElem?_cons_zero, List.getElem?_cons_succ, List.set_cons_zero, List.set_cons_succ, List.length_cons, List.length_nil, List.length_set, true_and, and_true, Nat.add_zero, Nat.zero_add, Nat.le_refl, Nat.reduceAdd, Nat.reduceLT, Nat.reduceLeDiff, Nat.zero_le, not_false_eq_true, not_true_eq_false, false_implies, implies_true, true_implies, Nat.zero_lt_succ, Nat.lt_add_one, pm_tl_n, pm_tl_s, sc_uL, xo0, xa0, xb0, xc0, xf0, x10, x20, x30, x40, x50]
      refine PM_use (c_Row_size D0.s (d + 2)) ?_
      rintro v h1 l1 ⟨rfl, rfl⟩
      have row := D0.row (p := (colS A k).1) (by rcases colS_q A k with z | z <;> omega) (by rcases colS_q A k with z | z <;> omega)
      have ro := row.o
      show W_X2_dropColdest _ _ _ _ _ _ _ _ _
      simp only [w_X2_dropColdest_28, w_X2_dropColdest_29, w_X2_dropColdest_148, w_X2_dropColdest_149, w_X2_dropColdest_150, w_X2_dropColdest_151, w_X2_dropColdest_154, w_X2_dropColdest_157, pm_1i_c, pm_2i_c, pm_1l_c, pm_2l_c, pm_1a_c, pm_ia_c, pm_iia_c, pm_va_c, pm_cp_c, pm_k0_c, pm_k1_c, pm_k2_c, pm_k3_c, pm_s1_c, pm_s2_c, pm_s3_c, pm_s4_c, pm_ri_c, pm_ra_c, pm_rn_c, pm_rk_i, pm_rk_z, pm_rk_a, pm_vk_i, pm_vk_z, pm_vk_a, pm_cti, pm_ctr, pm_ldi_z, pm_ldi_s, pm_lda_z, pm_lda_s, pm_cat_n, pm_cat_i, pm_cat_r, pm_cat_l, pm_obj, pm_arr, pm_opt, pm_ird, pm_aln, List.getElem?_cons_zero, List.getElem?_cons_succ, List.set_cons_zero, List.set_cons_succ, List.length_cons, List.length_nil, List.length_set, true_and, and_true, Nat.add_zero, Nat.zero_add, Nat.le_refl, Nat.reduceAdd, Nat.reduceLT, Nat.reduceLeDiff, Nat.zero_le, not_false_eq_true, not_true_eq_false, false_implies, implies_true, true_implies, Nat.zero_lt_succ, Nat.lt_add_one, pm_tl_n, pm_tl_s, sc_uL, xo0, xa0, xb0, xc0, xf0, x10, x20, x30, x40, x50, lsum, e1, ro]
      refine PM_use (c_Row_removeAt row (colS A k).2.1 (d + 2)) ?_
      rintro v h2 l2 ⟨rfl, K1, K2⟩
      have D1 := D0.ur (by rcases colS_q A k with z | z <;> omega) (by rcases colS_q A k with z | z <;> omega) K1 K2
      have f1 := frd_2 _ K2 (by rcases colS_q A k with z | z <;> omega)
      have xo1 := D1.o
      have xa1 := D1.sh
      have xb1 := D1.ko
      have xc1 := D1.lo
      have xf1 := D1.co
      have x11 := D1.wo
      have x21 := D1.to
      have x31 := D1.so
      have x41 := D1.go
      have x51 := D1.po
      show W_X2_dropColdest _ _ _ _ _ _ _ _ _
      simp only [w_X2_dropColdest_148, w_X2_dropColdest_149, w_X2_dropColdest_150, w_X2_dropColdest_151, w_X2_dropColdest_154, w_X2_dropColdest_157, pm_1i_c, pm_2i_c, pm_1l_c, pm_2l_c, pm_1a_c, pm_ia_c, pm_iia_c, pm_va_c, pm_cp_c, pm_k0_c, pm_k1_c, pm_k2_c, pm_k3_c, pm_s1_c, pm_s2_c, pm_s3_c, pm_s4_c, pm_ri_c, pm_ra_c, pm_rn_c, pm_rk_i, pm_rk_z, pm_rk_a, pm_vk_i, pm_vk_z, pm_vk_a, pm_cti, pm_ctr, pm_ldi_z, pm_ldi_s, pm_lda_z, pm_lda_s, pm_cat_n, pm_cat_i, pm_cat_r, pm_cat_l, pm_obj, pm_arr, pm_opt, pm_ird, pm_aln, List.getElem?_cons_zero, List.getElem?_cons_succ, List.set_cons_zero, List.set_cons_succ, List.length_cons, List.length_nil, List.length_set, true_and, and_true, Nat.add_zero, Nat.zero_add, Nat.le_refl, Nat.reduceAdd, Nat.reduceLT, Nat.reduceLeDiff, Nat.zero_le, not_false_eq_true, not_true_eq_false, false_implies, implies_true, true_implies, Nat.zero_lt_succ, Nat.lt_add_one, pm_tl_n, pm_tl_s, sc_uL, xo1, xa1, xb1, xc1, xf1, x11, x21, x31, x41, x51, l2]
      refine PM_use (c_Desk_goOut D1 (rw_get (li A (colS A k).1) (colS A k).2.1) (d + 1)) ?_
      rintro v h3 l3 ⟨rfl, K3, K4⟩
      show W_X2_dropColdest _ _ _ _ _ _ _ _ _
      simp only [w_X2_dropColdest_148, w_X2_dropColdest_149, w_X2_dropColdest_150, w_X2_dropColdest_151, w_X2_dropColdest_154, w_X2_dropColdest_157, pm_1i_c, pm_2i_c, pm_1l_c, pm_2l_c, pm_1a_c, pm_ia_c, pm_iia_c, pm_va_c, pm_cp_c, pm_k0_c, pm_k1_c, pm_k2_c, pm_k3_c, pm_s1_c, pm_s2_c, pm_s3_c, pm_s4_c, pm_ri_c, pm_ra_c, pm_rn_c, pm_rk_i, pm_rk_z, pm_rk_a, pm_vk_i, pm_vk_z, pm_vk_a, pm_cti, pm_ctr, pm_ldi_z, pm_ldi_s, pm_lda_z, pm_lda_s, pm_cat_n, pm_cat_i, pm_cat_r, pm_cat_l, pm_obj, pm_arr, pm_opt, pm_ird, pm_aln, List.getElem?_cons_zero, List.getElem?_cons_succ, List.set_cons_zero, List.set_cons_succ, List.length_cons, List.length_nil, List.length_set, true_and, and_true, Nat.add_zero, Nat.zero_add, Nat.le_refl, Nat.reduceAdd, Nat.reduceLT, Nat.reduceLeDiff, Nat.zero_le, not_false_eq_true, not_true_eq_false, false_implies, implies_true, true_implies, Nat.zero_lt_succ, Nat.lt_add_one, pm_tl_n, pm_tl_s, sc_uL, l3, l2]
      unfold drpF
      rw [← this]
      exact ⟨K3, f1.tr K4⟩
    | succ n ih =>
      intro k hn hk x5 x6 x7
      have e1 : nI k < nI ((li A 2).length + (li A 3).length) := nI_lt (by omega) (by omega)
      rw [w_X2_dropColdest_12]
      simp only [w_X2_dropColdest_14, w_X2_dropColdest_15, w_X2_dropColdest_18, w_X2_dropColdest_21, w_X2_dropColdest_22, w_X2_dropColdest_25, w_X2_dropColdest_28, w_X2_dropColdest_29, pm_1i_c, pm_2i_c, pm_1l_c, pm_2l_c, pm_1a_c, pm_ia_c, pm_iia_c, pm_va_c, pm_cp_c, pm_k0_c, pm_k1_c, pm_k2_c, pm_k3_c, pm_s1_c, pm_s2_c, pm_s3_c, pm_s4_c, pm_ri_c, pm_ra_c, pm_rn_c, pm_rk_i, pm_rk_z, pm_rk_a, pm_vk_i, pm_vk_z, pm_vk_a, pm_cti, pm_ctr, pm_ldi_z, pm_ldi_s, pm_lda_z, pm_lda_s, pm_cat_n, pm_cat_i, pm_cat_r, pm_cat_l, pm_obj, pm_arr, pm_opt, pm_ird, pm_aln, List.getElem?_cons_zero, List.getElem?_cons_succ, List.set_cons_zero, List.set_cons_succ, List.length_cons, List.length_nil, List.length_set, true_and, and_true, Nat.add_zero, Nat.zero_add, Nat.le_refl, Nat.reduceAdd, Nat.reduceLT, Nat.reduceLeDiff, Nat.zero_le, not_false_eq_true, not_true_eq_false, false_implies, implies_true, true_implies, Nat.zero_lt_succ, Nat.lt_add_one, xo0, xa0, xb0, xc0, xf0, x10, x20, x30, x40, x50]
      refine PM_use (c_Row_size D0.t (d + 2)) ?_
      rintro v h1 l1 ⟨rfl, rfl⟩
      show W_X2_dropColdest _ _ _ _ _ _ _ _ _
      simp only [w_X2_dropColdest_21, w_X2_dropColdest_22, w_X2_dropColdest_25, w_X2_dropColdest_28, w_X2_dropColdest_29, pm_1i_c, pm_2i_c, pm_1l_c, pm_2l_c, pm_1a_c, pm_ia_c, pm_iia_c, pm_va_c, pm_cp_c, pm_k0_c, pm_k1_c, pm_k2_c, pm_k3_c, pm_s1_c, pm_s2_c, pm_s3_c, pm_s4_c, pm_ri_c, pm_ra_c, pm_rn_c, pm_rk_i, pm_rk_z, pm_rk_a, pm_vk_i, pm_vk_z, pm_vk_a, pm_cti, pm_ctr, pm_ldi_z, pm_ldi_s, pm_lda_z, pm_lda_s, pm_cat_n, pm_cat_i, pm_cat_r, pm_cat_l, pm_obj, pm_arr, pm_opt, pm_ird, pm_aln, List.getElem?_cons_zero, List.getElem?_cons_succ, List.set_cons_zero, List.set_cons_succ, List.length_cons, List.length_nil, List.length_set, true_and, and_true, Nat.add_zero, Nat.zero_add, Nat.le_refl, Nat.reduceAdd, Nat.reduceLT, Nat.reduceLeDiff, Nat.zero_le, not_false_eq_true, not_true_eq_false, false_implies, implies_true, true_implies, Nat.zero_lt_succ, Nat.lt_add_one, pm_tl_n, pm_tl_s, sc_uL, xo0, xa0, xb0, xc0, xf0, x10, x20, x30, x40, x50]
      refine PM_use (c_Row_size D0.s (d + 2)) ?_
      rintro v h1 l1 ⟨rfl, rfl⟩
      show W_X2_dropColdest _ _ _ _ _ _ _ _ _
      simp only [w_X2_dropColdest_28, w_X2_dropColdest_29, w_X2_dropColdest_32, w_X2_dropColdest_34, w_X2_dropColdest_35, w_X2_dropColdest_38, w_X2_dropColdest_41, pm_1i_c, pm_2i_c, pm_1l_c, pm_2l_c, pm_1a_c, pm_ia_c, pm_iia_c, pm_va_c, pm_cp_c, pm_k0_c, pm_k1_c, pm_k2_c, pm_k3_c, pm_s1_c, pm_s2_c, pm_s3_c, pm_s4_c, pm_ri_c, pm_ra_c, pm_rn_c, pm_rk_i, pm_rk_z, pm_rk_a, pm_vk_i, pm_vk_z, pm_vk_a, pm_cti, pm_ctr, pm_ldi_z, pm_ldi_s, pm_lda_z, pm_lda_s, pm_cat_n, pm_cat_i, pm_cat_r, pm_cat_l, pm_obj, pm_arr, pm_opt, pm_ird, pm_aln, List.getElem?_cons_zero, List.getElem?_cons_succ, List.set_cons_zero, List.set_cons_succ, List.length_cons, List.length_nil, List.length_set, true_and, and_true, Nat.add_zero, Nat.zero_add, Nat.le_refl, Nat.reduceAdd, Nat.reduceLT, Nat.reduceLeDiff, Nat.zero_le, not_false_eq_true, not_true_eq_false, false_implies, implies_true, true_implies, Nat.zero_lt_succ, Nat.lt_add_one, pm_tl_n, pm_tl_s, sc_uL, xo0, xa0, xb0, xc0, xf0, x10, x20, x30, x40, x50, lsum, e1]
      refine PM_use (c_Row_size D0.t (d + 2)) ?_
      rintro v h1 l1 ⟨rfl, rfl⟩
      -- behind the row and the place
      have go : ∀ (q j : Nat), (q, j) = colP A k → (q = 2 ∨ q = 3) → j < 1000 → W_X2_dropColdest (d + 3) (h1.length + 0) 0 (fun v h' => v = none ∧ dk_ h' B (drpF A) ∧ frd h1 h' B) 104 [some (.ref B), some (.ref (B + (10 + 2 * (colS A k).1))), some (.int (colS A k).2.1), some (.int (colS A k).2.2), some (.int (nI k)), some (.ref (B + (10 + 2 * q))), x6, x7] [.int (nI j)] h1 0 := by
        intro q j eqj hq hj
        have row := D0.row (p := q) (by omega) (by omega)
        have ro := row.o
        simp only [w_X2_dropColdest_104, w_X2_dropColdest_106, w_X2_dropColdest_107, w_X2_dropColdest_110, w_X2_dropColdest_112, w_X2_dropColdest_114, w_X2_dropColdest_117, pm_1i_c, pm_2i_c, pm_1l_c, pm_2l_c, pm_1a_c, pm_ia_c, pm_iia_c, pm_va_c, pm_cp_c, pm_k0_c, pm_k1_c, pm_k2_c, pm_k3_c, pm_s1_c, pm_s2_c, pm_s3_c, pm_s4_c, pm_ri_c, pm_ra_c, pm_rn_c, pm_rk_i, pm_rk_z, pm_rk_a, pm_vk_i, pm_vk_z, pm_vk_a, pm_cti, pm_ctr, pm_ldi_z, pm_ldi_s, pm_lda_z, pm_lda_s, pm_cat_n, pm_cat_i, pm_cat_r, pm_cat_l, pm_obj, pm_arr, pm_opt, pm_ird, pm_aln, List.getElem?_cons_zero, List.getElem?_cons_succ, List.set_cons_zero, List.set_cons_succ, List.length_cons, List.length_nil, List.length_set, true_and, and_true, Nat.add_zero, Nat.zero_add, Nat.le_refl, Nat.reduceAdd, Nat.reduceLT, Nat.reduceLeDiff, Nat.zero_le, not_false_eq_true, not_true_eq_false, false_implies, implies_true, true_implies, Nat.zero_lt_succ, Nat.lt_add_one, xo0, xa0, xb0, xc0, xf0, x10, x20, x30, x40, x50, ro]
        refine PM_use (c_Row_get row (nI j) (d + 2)) ?_
        rintro v h2 l2 ⟨rfl, rfl⟩
        show W_X2_dropColdest _ _ _ _ _ _ _ _ _
        simp only [w_X2_dropColdest_117, pm_1i_c, pm_2i_c, pm_1l_c, pm_2l_c, pm_1a_c, pm_ia_c, pm_iia_c, pm_va_c, pm_cp_c, pm_k0_c, pm_k1_c, pm_k2_c, pm_k3_c, pm_s1_c, pm_s2_c, pm_s3_c, pm_s4_c, pm_ri_c, pm_ra_c, pm_rn_c, pm_rk_i, pm_rk_z, pm_rk_a, pm_vk_i, pm_vk_z, pm_vk_a, pm_cti, pm_ctr, pm_ldi_z, pm_ldi_s, pm_lda_z, pm_lda_s, pm_cat_n, pm_cat_i, pm_cat_r, pm_cat_l, pm_obj, pm_arr, pm_opt, pm_ird, pm_aln, List.getElem?_cons_zero, List.getElem?_cons_succ, List.set_cons_zero, List.set_cons_succ, List.length_cons, List.length_nil, List.length_set, true_and, and_true, Nat.add_zero, Nat.zero_add, Nat.le_refl, Nat.reduceAdd, Nat.reduceLT, Nat.reduceLeDiff, Nat.zero_le, not_false_eq_true, not_true_eq_false, false_implies, implies_true, true_implies, Nat.zero_lt_succ, Nat.lt_add_one, pm_tl_n, pm_tl_s, sc_uL, xo0, xa0, xb0, xc0, xf0, x10, x20, x30, x40, x50, ro]
        refine PM_use (c_Sketch_estimateOf hl D0.sk V (rw_get (li A q) (nI j)) d) ?_
        rintro v h2 l2 ⟨rfl, rfl⟩
        have eE : estF A (rw_get (li A q) (nI j)) = colE A k := by
          unfold colE
          rw [← eqj, rw_getN (by omega)]
        rw [eE]
        have K := ih (k + 1) (by omega) (by omega)
        show W_X2_dropColdest _ _ _ _ _ _ _ _ _
        simp only [w_X2_dropColdest_120, w_X2_dropColdest_122, w_X2_dropColdest_123, w_X2_dropColdest_124, w_X2_dropColdest_127, w_X2_dropColdest_129, w_X2_dropColdest_130, w_X2_dropColdest_133, w_X2_dropColdest_135, w_X2_dropColdest_136, w_X2_dropColdest_138, w_X2_dropColdest_139, w_X2_dropColdest_141, w_X2_dropColdest_142, w_X2_dropColdest_145, pm_1i_c, pm_2i_c, pm_1l_c, pm_2l_c, pm_1a_c, pm_ia_c, pm_iia_c, pm_va_c, pm_cp_c, pm_k0_c, pm_k1_c, pm_k2_c, pm_k3_c, pm_s1_c, pm_s2_c, pm_s3_c, pm_s4_c, pm_ri_c, pm_ra_c, pm_rn_c, pm_rk_i, pm_rk_z, pm_rk_a, pm_vk_i, pm_vk_z, pm_vk_a, pm_cti, pm_ctr, pm_ldi_z, pm_ldi_s, pm_lda_z, pm_lda_s, pm_cat_n, pm_cat_i, pm_cat_r, pm_cat_l, pm_obj, pm_arr, pm_opt, pm_ird, pm_aln, List.getElem?_cons_zero, List.getElem?_cons_succ, List.set_cons_zero, List.set_cons_succ, List.length_cons, List.length_nil, List.length_set, true_and, and_true, Nat.add_zero, Nat.zero_add, Nat.le_refl, Nat.reduceAdd, Nat.reduceLT, Nat.reduceLeDiff, Nat.zero_le, not_false_eq_true, not_true_eq_false, false_implies, implies_true, true_implies, Nat.zero_lt_succ, Nat.lt_add_one, pm_tl_n, pm_tl_s, sc_uL, nI_1]
        refine ⟨fun c1 => ?_, fun c1 => ⟨fun c2 => ?_, fun c2 => ?_⟩⟩
        · have e : colS A (k + 1) = (q, nI j, colE A k) := (if_pos (Or.inl c1)).trans (by rw [← eqj])
          rw [e] at K
          exact K _ _ _
        · have e : colS A (k + 1) = colS A k := if_neg (fun z => z.elim c1 c2)
          rw [e] at K
          exact K _ _ _
        · have e : colS A (k + 1) = (q, nI j, colE A k) := (if_pos (Or.inr c2)).trans (by rw [← eqj])
          rw [e] at K
          exact K _ _ _
      by_cases c : k < (li A 2).length
      · have e2 : nI k < nI (li A 2).length := nI_lt c (by omega)
        have e3 : nI (li A 2).length - 1 - nI k = nI ((li A 2).length - 1 - k) := by rw [nI_one, pk_sub (by omega), pk_sub (by omega)]
        show W_X2_dropColdest _ _ _ _ _ _ _ _ _
        simp only [w_X2_dropColdest_41, w_X2_dropColdest_44, w_X2_dropColdest_45, w_X2_dropColdest_48, w_X2_dropColdest_51, w_X2_dropColdest_52, w_X2_dropColdest_55, w_X2_dropColdest_57, w_X2_dropColdest_59, w_X2_dropColdest_60, w_X2_dropColdest_63, w_X2_dropColdest_66, pm_1i_c, pm_2i_c, pm_1l_c, pm_2l_c, pm_1a_c, pm_ia_c, pm_iia_c, pm_va_c, pm_cp_c, pm_k0_c, pm_k1_c, pm_k2_c, pm_k3_c, pm_s1_c, pm_s2_c, pm_s3_c, pm_s4_c, pm_ri_c, pm_ra_c, pm_rn_c, pm_rk_i, pm_rk_z, pm_rk_a, pm_vk_i, pm_vk_z, pm_vk_a, pm_cti, pm_ctr, pm_ldi_z, pm_ldi_s, pm_lda_z, pm_lda_s, pm_cat_n, pm_cat_i, pm_cat_r, pm_cat_l, pm_obj, pm_arr, pm_opt, pm_ird, pm_aln, List.getElem?_cons_zero, List.getElem?_cons_succ, List.set_cons_zero, List.set_cons_succ, List.length_cons, List.length_nil, List.length_set, true_and, and_true, Nat.add_zero, Nat.zero_add, Nat.le_refl, Nat.reduceAdd, Nat.reduceLT, Nat.reduceLeDiff, Nat.zero_le, not_false_eq_true, not_true_eq_false, false_implies, implies_true, true_implies, Nat.zero_lt_succ, Nat.lt_add_one, pm_tl_n, pm_tl_s, sc_uL, xo0, xa0, xb0, xc0, xf0, x10, x20, x30, x40, x50, e2]
        refine PM_use (c_Row_size D0.t (d + 2)) ?_
        rintro v h2 l2 ⟨rfl, rfl⟩
        show W_X2_dropColdest _ _ _ _ _ _ _ _ _
        simp only [w_X2_dropColdest_66, w_X2_dropColdest_69, w_X2_dropColdest_70, w_X2_dropColdest_73, w_X2_dropColdest_76, w_X2_dropColdest_77, w_X2_dropColdest_78, w_X2_dropColdest_80, w_X2_dropColdest_81, pm_1i_c, pm_2i_c, pm_1l_c, pm_2l_c, pm_1a_c, pm_ia_c, pm_iia_c, pm_va_c, pm_cp_c, pm_k0_c, pm_k1_c, pm_k2_c, pm_k3_c, pm_s1_c, pm_s2_c, pm_s3_c, pm_s4_c, pm_ri_c, pm_ra_c, pm_rn_c, pm_rk_i, pm_rk_z, pm_rk_a, pm_vk_i, pm_vk_z, pm_vk_a, pm_cti, pm_ctr, pm_ldi_z, pm_ldi_s, pm_lda_z, pm_lda_s, pm_cat_n, pm_cat_i, pm_cat_r, pm_cat_l, pm_obj, pm_arr, pm_opt, pm_ird, pm_aln, List.getElem?_cons_zero, List.getElem?_cons_succ, List.set_cons_zero, List.set_cons_succ, List.length_cons, List.length_nil, List.length_set, true_and, and_true, Nat.add_zero, Nat.zero_add, Nat.le_refl, Nat.reduceAdd, Nat.reduceLT, Nat.reduceLeDiff, Nat.zero_le, not_false_eq_true, not_true_eq_false, false_implies, implies_true, true_implies, Nat.zero_lt_succ, Nat.lt_add_one, pm_tl_n, pm_tl_s, sc_uL, xo0, xa0, xb0, xc0, xf0, x10, x20, x30, x40, x50, e2]
        refine PM_use (c_Row_size D0.t (d + 2)) ?_
        rintro v h2 l2 ⟨rfl, rfl⟩
        show W_X2_dropColdest _ _ _ _ _ _ _ _ _
        simp only [w_X2_dropColdest_76, w_X2_dropColdest_77, w_X2_dropColdest_78, w_X2_dropColdest_80, w_X2_dropColdest_81, pm_1i_c, pm_2i_c, pm_1l_c, pm_2l_c, pm_1a_c, pm_ia_c, pm_iia_c, pm_va_c, pm_cp_c, pm_k0_c, pm_k1_c, pm_k2_c, pm_k3_c, pm_s1_c, pm_s2_c, pm_s3_c, pm_s4_c, pm_ri_c, pm_ra_c, pm_rn_c, pm_rk_i, pm_rk_z, pm_rk_a, pm_vk_i, pm_vk_z, pm_vk_a, pm_cti, pm_ctr, pm_ldi_z, pm_ldi_s, pm_lda_z, pm_lda_s, pm_cat_n, pm_cat_i, pm_cat_r, pm_cat_l, pm_obj, pm_arr, pm_opt, pm_ird, pm_aln, List.getElem?_cons_zero, List.getElem?_cons_succ, List.set_cons_zero, List.set_cons_succ, List.length_cons, List.length_nil, List.length_set, true_and, and_true, Nat.add_zero, Nat.zero_add, Nat.le_refl, Nat.reduceAdd, Nat.reduceLT, Nat.reduceLeDiff, Nat.zero_le, not_false_eq_true, not_true_eq_false, false_implies, implies_true, true_implies, Nat.zero_lt_succ, Nat.lt_add_one, pm_tl_n, pm_tl_s, sc_uL, e3]
        exact go 2 ((li A 2).length - 1 - k) (by unfold colP; rw [if_pos c]) (Or.inl rfl) (by omega)
      · have e2 : ¬ nI k < nI (li A 2).length := nI_nlt (by omega) (by omega)
        have e3 : nI ((li A 2).length + (li A 3).length) - 1 - nI k = nI ((li A 2).length + (li A 3).length - 1 - k) := by rw [nI_one, pk_sub (by omega), pk_sub (by omega)]
        show W_X2_dropColdest _ _ _ _ _ _ _ _ _
        simp only [w_X2_dropColdest_41, w_X2_dropColdest_44, w_X2_dropColdest_45, w_X2_dropColdest_48, w_X2_dropColdest_51, w_X2_dropColdest_52, w_X2_dropColdest_55, w_X2_dropColdest_57, w_X2_dropColdest_59, w_X2_dropColdest_60, w_X2_dropColdest_63, w_X2_dropColdest_66, pm_1i_c, pm_2i_c, pm_1l_c, pm_2l_c, pm_1a_c, pm_ia_c, pm_iia_c, pm_va_c, pm_cp_c, pm_k0_c, pm_k1_c, pm_k2_c, pm_k3_c, pm_s1_c, pm_s2_c, pm_s3_c, pm_s4_c, pm_ri_c, pm_ra_c, pm_rn_c, pm_rk_i, pm_rk_z, pm_rk_a, pm_vk_i, pm_vk_z, pm_vk_a, pm_cti, pm_ctr, pm_ldi_z, pm_ldi_s, pm_lda_z, pm_lda_s, pm_cat_n, pm_cat_i, pm_cat_r, pm_cat_l, pm_obj, pm_arr, pm_opt, pm_ird, pm_aln, List.getElem?_cons_zero, List.getElem?_cons_succ, List.set_cons_zero, List.set_cons_succ, List.length_cons, List.length_nil, List.length_set, true_and, and_true, Nat.add_zero, Nat.zero_add, Nat.le_refl, Nat.reduceAdd, Nat.reduceLT, Nat.reduceLeDiff, Nat.zero_le, not_false_eq_true, not_true_eq_false, false_implies, implies_true, true_implies, Nat.zero_lt_succ, Nat.lt_add_one, pm_tl_n, pm_tl_s, sc_uL, xo0, xa0, xb0, xc0, xf0, x10, x20, x30, x40, x50, e2]
        refine PM_use (c_Row_size D0.t (d + 2)) ?_
        rintro v h2 l2 ⟨rfl, rfl⟩
        show W_X2_dropColdest _ _ _ _ _ _ _ _ _
        simp only [w_X2_dropColdest_66, w_X2_dropColdest_84, w_X2_dropColdest_85, w_X2_dropColdest_88, w_X2_dropColdest_91, w_X2_dropColdest_92, w_X2_dropColdest_95, w_X2_dropColdest_98, w_X2_dropColdest_99, w_X2_dropColdest_100, w_X2_dropColdest_101, w_X2_dropColdest_103, pm_1i_c, pm_2i_c, pm_1l_c, pm_2l_c, pm_1a_c, pm_ia_c, pm_iia_c, pm_va_c, pm_cp_c, pm_k0_c, pm_k1_c, pm_k2_c, pm_k3_c, pm_s1_c, pm_s2_c, pm_s3_c, pm_s4_c, pm_ri_c, pm_ra_c, pm_rn_c, pm_rk_i, pm_rk_z, pm_rk_a, pm_vk_i, pm_vk_z, pm_vk_a, pm_cti, pm_ctr, pm_ldi_z, pm_ldi_s, pm_lda_z, pm_lda_s, pm_cat_n, pm_cat_i, pm_cat_r, pm_cat_l, pm_obj, pm_arr, pm_opt, pm_ird, pm_aln, List.getElem?_cons_zero, List.getElem?_cons_succ, List.set_cons_zero, List.set_cons_succ, List.length_cons, List.length_nil, List.length_set, true_and, and_true, Nat.add_zero, Nat.zero_add, Nat.le_refl, Nat.reduceAdd, Nat.reduceLT, Nat.reduceLeDiff, Nat.zero_le, not_false_eq_true, not_true_eq_false, false_implies, implies_true, true_implies, Nat.zero_lt_succ, Nat.lt_add_one, pm_tl_n, pm_tl_s, sc_uL, xo0, xa0, xb0, xc0, xf0, x10, x20, x30, x40, x50, e2]
        refine PM_use (c_Row_size D0.t (d + 2)) ?_
        rintro v h2 l2 ⟨rfl, rfl⟩
        show W_X2_dropColdest _ _ _ _ _ _ _ _ _
        simp only [w_X2_dropColdest_84, w_X2_dropColdest_85, w_X2_dropColdest_88, w_X2_dropColdest_91, w_X2_dropColdest_92, w_X2_dropColdest_95, w_X2_dropColdest_98, w_X2_dropColdest_99, w_X2_dropColdest_100, w_X2_dropColdest_101, w_X2_dropColdest_103, pm_1i_c, pm_2i_c, pm_1l_c, pm_2l_c, pm_1a_c, pm_ia_c, pm_iia_c, pm_va_c, pm_cp_c, pm_k0_c, pm_k1_c, pm_k2_c, pm_k3_c, pm_s1_c, pm_s2_c, pm_s3_c, pm_s4_c, pm_ri_c, pm_ra_c, pm_rn_c, pm_rk_i, pm_rk_z, pm_rk_a, pm_vk_i, pm_vk_z, pm_vk_a, pm_cti, pm_ctr, pm_ldi_z, pm_ldi_s, pm_lda_z, pm_lda_s, pm_cat_n, pm_cat_i, pm_cat_r, pm_cat_l, pm_obj, pm_arr, pm_opt, pm_ird, pm_aln, List.getElem?_cons_zero, List.getElem?_cons_succ, List.set_cons_zero, List.set_cons_succ, List.length_cons, List.length_nil, List.length_set, true_and, and_true, Nat.add_zero, Nat.zero_add, Nat.le_refl, Nat.reduceAdd, Nat.reduceLT, Nat.reduceLeDiff, Nat.zero_le, not_false_eq_true, not_true_eq_false, false_implies, implies_true, true_implies, Nat.zero_lt_succ, Nat.lt_add_one, pm_tl_n, pm_tl_s, sc_uL, xo0, xa0, xb0, xc0, xf0, x10, x20, x30, x40, x50, e2]
        refine PM_use (c_Row_size D0.s (d + 2)) ?_
        rintro v h2 l2 ⟨rfl, rfl⟩
        show W_X2_dropColdest _ _ _ _ _ _ _ _ _
        simp only [w_X2_dropColdest_84, w_X2_dropColdest_85, w_X2_dropColdest_88, w_X2_dropColdest_91, w_X2_dropColdest_92, w_X2_dropColdest_95, w_X2_dropColdest_98, w_X2_dropColdest_99, w_X2_dropColdest_100, w_X2_dropColdest_101, w_X2_dropColdest_103, pm_1i_c, pm_2i_c, pm_1l_c, pm_2l_c, pm_1a_c, pm_ia_c, pm_iia_c, pm_va_c, pm_cp_c, pm_k0_c, pm_k1_c, pm_k2_c, pm_k3_c, pm_s1_c, pm_s2_c, pm_s3_c, pm_s4_c, pm_ri_c, pm_ra_c, pm_rn_c, pm_rk_i, pm_rk_z, pm_rk_a, pm_vk_i, pm_vk_z, pm_vk_a, pm_cti, pm_ctr, pm_ldi_z, pm_ldi_s, pm_lda_z, pm_lda_s, pm_cat_n, pm_cat_i, pm_cat_r, pm_cat_l, pm_obj, pm_arr, pm_opt, pm_ird, pm_aln, List.getElem?_cons_zero, List.getElem?_cons_succ, List.set_cons_zero, List.set_cons_succ, List.length_cons, List.length_nil, List.length_set, true_and, and_true, Nat.add_zero, Nat.zero_add, Nat.le_refl, Nat.reduceAdd, Nat.reduceLT, Nat.reduceLeDiff, Nat.zero_le, not_false_eq_true, not_true_eq_false, false_implies, implies_true, true_implies, Nat.zero_lt_succ, Nat.lt_add_one, pm_tl_n, pm_tl_s, sc_uL, lsum, e3]
        exact go 3 ((li A 2).length + (li A 3).length - 1 - k) (by unfold colP; rw [if_neg c]) (Or.inr rfl) (by omega)
  simp only [w_X2_dropColdest_0, w_X2_dropColdest_1, w_X2_dropColdest_4, w_X2_dropColdest_5, w_X2_dropColdest_6, w_X2_dropColdest_7, w_X2_dropColdest_8, w_X2_dropColdest_9, w_X2_dropColdest_10, pm_1i_c, pm_2i_c, pm_1l_c, pm_2l_c, pm_1a_c, pm_ia_c, pm_iia_c, pm_va_c, pm_cp_c, pm_k0_c, pm_k1_c, pm_k2_c, pm_k3_c, pm_s1_c, pm_s2_c, pm_s3_c, pm_s4_c, pm_ri_c, pm_ra_c, pm_rn_c, pm_rk_i, pm_rk_z, pm_rk_a, pm_vk_i, pm_vk_z, pm_vk_a, pm_cti, pm_ctr, pm_ldi_z, pm_ldi_s, pm_lda_z, pm_lda_s, pm_cat_n, pm_cat_i, pm_cat_r, pm_cat_l, pm_obj, pm_arr, pm_opt, pm_ird, pm_aln, List.getElem?_cons_zero, List.getElem?_cons_succ, List.set_cons_zero, List.set_cons_succ, List.length_cons, List.length_nil, List.length_set, true_and, and_true, Nat.add_zero, Nat.zero_add, Nat.le_refl, Nat.reduceAdd, Nat.reduceLT, Nat.reduceLeDiff, Nat.zero_le, not_false_eq_true, not_true_eq_false, false_implies, implies_true, true_implies, Nat.zero_lt_succ, Nat.lt_add_one, xo0, xa0, xb0, xc0, xf0, x10, x20, x30, x40, x50]
  exact loop _ 0 rfl (by omega) _ _ _
set_option maxHeartbeats 2000000 in
theorem c_Desk_fit (hl : h.length ≤ 1000000) (D0 : dk_ h B A) (V : skV A) (d : Nat) : PM (d + 5) 18 [.ref B] h (fun v h' => v = none ∧ dk_ h' B (fitF A) ∧ frd h h' B) := by
  refine en_X2_fit rfl ?_
  have loop3 : ∀ n k, 65 - k = n → k ≤ 65 → ∀ (hh : pmH) (A1 : AD), dk_ hh B A1 → skV A1 → fit3 n A1 = fitF A → hh.length = h.length → frd h hh B → W_X2_fit (d + 4) (h.length + 0) 0 (fun v h' => v = none ∧ dk_ h' B (fitF A) ∧ frd h h' B) 94 [some (.ref B), some (.int (nI k))] [] hh 0 := by
    intro n
    induction n with
    | zero =>
      intro k hn hk hh A1 D1 V1 q1 q2 q3
      have : k = 65 := by omega
      subst this
      have e1 : (64 : Int32) < nI 65 := by decide
      rw [w_X2_fit_94]
      simp only [w_X2_fit_95, w_X2_fit_97, w_X2_fit_100, w_X2_fit_101, w_X2_fit_104, w_X2_fit_107, w_X2_fit_108, w_X2_fit_111, w_X2_fit_114, w_X2_fit_115, w_X2_fit_116, w_X2_fit_119, w_X2_fit_122, w_X2_fit_125, w_X2_fit_126, w_X2_fit_129, w_X2_fit_132, w_X2_fit_135, pm_1i_c, pm_2i_c, pm_1l_c, pm_2l_c, pm_1a_c, pm_ia_c, pm_iia_c, pm_va_c, pm_cp_c, pm_k0_c, pm_k1_c, pm_k2_c, pm_k3_c, pm_s1_c, pm_s2_c, pm_s3_c, pm_s4_c, pm_ri_c, pm_ra_c, pm_rn_c, pm_rk_i, pm_rk_z, pm_rk_a, pm_vk_i, pm_vk_z, pm_vk_a, pm_cti, pm_ctr, pm_ldi_z, pm_ldi_s, pm_lda_z, pm_lda_s, pm_cat_n, pm_cat_i, pm_cat_r, pm_cat_l, pm_obj, pm_arr, pm_opt, pm_ird, pm_aln, List.getElem?_cons_zero, List.getElem?_cons_succ, List.set_cons_zero, List.set_cons_succ, List.length_cons, List.length_nil, List.length_set, true_and, and_true, Nat.add_zero, Nat.zero_add, Nat.le_refl, Nat.reduceAdd, Nat.reduceLT, Nat.reduceLeDiff, Nat.zero_le, not_false_eq_true, not_true_eq_false, false_implies, implies_true, true_implies, Nat.zero_lt_succ, Nat.lt_add_one, e1, q2]
      exact ⟨q1 ▸ D1, q3⟩
    | succ n ih =>
      intro k hn hk hh A1 D1 V1 q1 q2 q3
      have e1 : ¬ (64 : Int32) < nI k := nI_nlt (a := 64) (b := k) (by omega) (by omega)
      have xo1 := D1.o
      have xa1 := D1.sh
      have xb1 := D1.ko
      have xc1 := D1.lo
      have xf1 := D1.co
      have x11 := D1.wo
      have x21 := D1.to
      have x31 := D1.so
      have x41 := D1.go
      have x51 := D1.po
      rw [w_X2_fit_94]
      simp only [w_X2_fit_95, w_X2_fit_97, w_X2_fit_100, w_X2_fit_101, w_X2_fit_104, w_X2_fit_107, w_X2_fit_108, w_X2_fit_111, w_X2_fit_114, w_X2_fit_115, w_X2_fit_116, w_X2_fit_119, w_X2_fit_122, w_X2_fit_125, w_X2_fit_126, w_X2_fit_129, w_X2_fit_132, w_X2_fit_135, pm_1i_c, pm_2i_c, pm_1l_c, pm_2l_c, pm_1a_c, pm_ia_c, pm_iia_c, pm_va_c, pm_cp_c, pm_k0_c, pm_k1_c, pm_k2_c, pm_k3_c, pm_s1_c, pm_s2_c, pm_s3_c, pm_s4_c, pm_ri_c, pm_ra_c, pm_rn_c, pm_rk_i, pm_rk_z, pm_rk_a, pm_vk_i, pm_vk_z, pm_vk_a, pm_cti, pm_ctr, pm_ldi_z, pm_ldi_s, pm_lda_z, pm_lda_s, pm_cat_n, pm_cat_i, pm_cat_r, pm_cat_l, pm_obj, pm_arr, pm_opt, pm_ird, pm_aln, List.getElem?_cons_zero, List.getElem?_cons_succ, List.set_cons_zero, List.set_cons_succ, List.length_cons, List.length_nil, List.length_set, true_and, and_true, Nat.add_zero, Nat.zero_add, Nat.le_refl, Nat.reduceAdd, Nat.reduceLT, Nat.reduceLeDiff, Nat.zero_le, not_false_eq_true, not_true_eq_false, false_implies, implies_true, true_implies, Nat.zero_lt_succ, Nat.lt_add_one, e1, q2, xo1, xa1, xb1, xc1, xf1, x11, x21, x31, x41, x51]
      refine PM_use (c_Row_size D1.t (d + 3)) ?_
      rintro v h1 l1 ⟨rfl, rfl⟩
      show W_X2_fit _ _ _ _ _ _ _ _ _
      simp only [w_X2_fit_107, w_X2_fit_108, w_X2_fit_111, w_X2_fit_114, w_X2_fit_115, w_X2_fit_116, w_X2_fit_119, w_X2_fit_122, w_X2_fit_125, w_X2_fit_126, w_X2_fit_129, w_X2_fit_132, w_X2_fit_135, pm_1i_c, pm_2i_c, pm_1l_c, pm_2l_c, pm_1a_c, pm_ia_c, pm_iia_c, pm_va_c, pm_cp_c, pm_k0_c, pm_k1_c, pm_k2_c, pm_k3_c, pm_s1_c, pm_s2_c, pm_s3_c, pm_s4_c, pm_ri_c, pm_ra_c, pm_rn_c, pm_rk_i, pm_rk_z, pm_rk_a, pm_vk_i, pm_vk_z, pm_vk_a, pm_cti, pm_ctr, pm_ldi_z, pm_ldi_s, pm_lda_z, pm_lda_s, pm_cat_n, pm_cat_i, pm_cat_r, pm_cat_l, pm_obj, pm_arr, pm_opt, pm_ird, pm_aln, List.getElem?_cons_zero, List.getElem?_cons_succ, List.set_cons_zero, List.set_cons_succ, List.length_cons, List.length_nil, List.length_set, true_and, and_true, Nat.add_zero, Nat.zero_add, Nat.le_refl, Nat.reduceAdd, Nat.reduceLT, Nat.reduceLeDiff, Nat.zero_le, not_false_eq_true, not_true_eq_false, false_implies, implies_true, true_implies, Nat.zero_lt_succ, Nat.lt_add_one, pm_tl_n, pm_tl_s, sc_uL, xo1, xa1, xb1, xc1, xf1, x11, x21, x31, x41, x51, q2]
      refine PM_use (c_Row_size D1.s (d + 3)) ?_
      rintro v h1 l1 ⟨rfl, rfl⟩
      show W_X2_fit _ _ _ _ _ _ _ _ _
      simp only [w_X2_fit_114, w_X2_fit_115, w_X2_fit_116, w_X2_fit_119, w_X2_fit_122, w_X2_fit_125, w_X2_fit_126, w_X2_fit_129, w_X2_fit_132, w_X2_fit_135, pm_1i_c, pm_2i_c, pm_1l_c, pm_2l_c, pm_1a_c, pm_ia_c, pm_iia_c, pm_va_c, pm_cp_c, pm_k0_c, pm_k1_c, pm_k2_c, pm_k3_c, pm_s1_c, pm_s2_c, pm_s3_c, pm_s4_c, pm_ri_c, pm_ra_c, pm_rn_c, pm_rk_i, pm_rk_z, pm_rk_a, pm_vk_i, pm_vk_z, pm_vk_a, pm_cti, pm_ctr, pm_ldi_z, pm_ldi_s, pm_lda_z, pm_lda_s, pm_cat_n, pm_cat_i, pm_cat_r, pm_cat_l, pm_obj, pm_arr, pm_opt, pm_ird, pm_aln, List.getElem?_cons_zero, List.getElem?_cons_succ, List.set_cons_zero, List.set_cons_succ, List.length_cons, List.length_nil, List.length_set, true_and, and_true, Nat.add_zero, Nat.zero_add, Nat.le_refl, Nat.reduceAdd, Nat.reduceLT, Nat.reduceLeDiff, Nat.zero_le, not_false_eq_true, not_true_eq_false, false_implies, implies_true, true_implies, Nat.zero_lt_succ, Nat.lt_add_one, pm_tl_n, pm_tl_s, sc_uL, xo1, xa1, xb1, xc1, xf1, x11, x21, x31, x41, x51, q2]
      refine PM_use (c_Shares_mainFor D1.sh (d + 2)) ?_
      rintro v h1 l1 ⟨rfl, rfl⟩
      show W_X2_fit _ _ _ _ _ _ _ _ _
      simp only [w_X2_fit_122, w_X2_fit_125, w_X2_fit_126, w_X2_fit_129, w_X2_fit_132, w_X2_fit_135, pm_1i_c, pm_2i_c, pm_1l_c, pm_2l_c, pm_1a_c, pm_ia_c, pm_iia_c, pm_va_c, pm_cp_c, pm_k0_c, pm_k1_c, pm_k2_c, pm_k3_c, pm_s1_c, pm_s2_c, pm_s3_c, pm_s4_c, pm_ri_c, pm_ra_c, pm_rn_c, pm_rk_i, pm_rk_z, pm_rk_a, pm_vk_i, pm_vk_z, pm_vk_a, pm_cti, pm_ctr, pm_ldi_z, pm_ldi_s, pm_lda_z, pm_lda_s, pm_cat_n, pm_cat_i, pm_cat_r, pm_cat_l, pm_obj, pm_arr, pm_opt, pm_ird, pm_aln, List.getElem?_cons_zero, List.getElem?_cons_succ, List.set_cons_zero, List.set_cons_succ, List.length_cons, List.length_nil, List.length_set, true_and, and_true, Nat.add_zero, Nat.zero_add, Nat.le_refl, Nat.reduceAdd, Nat.reduceLT, Nat.reduceLeDiff, Nat.zero_le, not_false_eq_true, not_true_eq_false, false_implies, implies_true, true_implies, Nat.zero_lt_succ, Nat.lt_add_one, pm_tl_n, pm_tl_s, sc_uL, xo1, xa1, xb1, xc1, xf1, x11, x21, x31, x41, x51, q2]
      unfold fit3 at q1
      refine ⟨fun c => ?_, fun c => ?_⟩
      · rw [if_neg c] at q1
        exact ⟨q1 ▸ D1, q3⟩
      · rw [if_pos c] at q1
        refine PM_use (c_Desk_dropColdest (by rw [q2]; exact hl) D1 V1 d) ?_
        rintro v h2 l2 ⟨rfl, K1, K2⟩
        show W_X2_fit _ _ _ _ _ _ _ _ _
        simp only [w_X2_fit_129, w_X2_fit_132, pm_1i_c, pm_2i_c, pm_1l_c, pm_2l_c, pm_1a_c, pm_ia_c, pm_iia_c, pm_va_c, pm_cp_c, pm_k0_c, pm_k1_c, pm_k2_c, pm_k3_c, pm_s1_c, pm_s2_c, pm_s3_c, pm_s4_c, pm_ri_c, pm_ra_c, pm_rn_c, pm_rk_i, pm_rk_z, pm_rk_a, pm_vk_i, pm_vk_z, pm_vk_a, pm_cti, pm_ctr, pm_ldi_z, pm_ldi_s, pm_lda_z, pm_lda_s, pm_cat_n, pm_cat_i, pm_cat_r, pm_cat_l, pm_obj, pm_arr, pm_opt, pm_ird, pm_aln, List.getElem?_cons_zero, List.getElem?_cons_succ, List.set_cons_zero, List.set_cons_succ, List.length_cons, List.length_nil, List.length_set, true_and, and_true, Nat.add_zero, Nat.zero_add, Nat.le_refl, Nat.reduceAdd, Nat.reduceLT, Nat.reduceLeDiff, Nat.zero_le, not_false_eq_true, not_true_eq_false, false_implies, implies_true, true_implies, Nat.zero_lt_succ, Nat.lt_add_one, pm_tl_n, pm_tl_s, sc_uL, nI_1]
        exact ih (k + 1) (by omega) (by omega) h2 (drpF A1) K1 V1 q1 (by rw [l2, q2]; rfl) (q3.tr K2)
  have loop2 : ∀ n k, 65 - k = n → k ≤ 65 → ∀ (hh : pmH) (A1 : AD), dk_ hh B A1 → skV A1 → fit3 65 (fit2 n A1) = fitF A → hh.length = h.length → frd h hh B → W_X2_fit (d + 4) (h.length + 0) 0 (fun v h' => v = none ∧ dk_ h' B (fitF A) ∧ frd h h' B) 48 [some (.ref B), some (.int (nI k))] [] hh 0 := by
    intro n
    induction n with
    | zero =>
      intro k hn hk hh A1 D1 V1 q1 q2 q3
      have : k = 65 := by omega
      subst this
      have e1 : (64 : Int32) < nI 65 := by decide
      rw [w_X2_fit_48]
      simp only [w_X2_fit_49, w_X2_fit_51, w_X2_fit_54, w_X2_fit_55, w_X2_fit_58, w_X2_fit_61, w_X2_fit_62, w_X2_fit_65, w_X2_fit_68, w_X2_fit_71, w_X2_fit_72, w_X2_fit_75, w_X2_fit_76, w_X2_fit_77, w_X2_fit_80, w_X2_fit_83, w_X2_fit_86, w_X2_fit_89, w_X2_fit_92, w_X2_fit_93, pm_1i_c, pm_2i_c, pm_1l_c, pm_2l_c, pm_1a_c, pm_ia_c, pm_iia_c, pm_va_c, pm_cp_c, pm_k0_c, pm_k1_c, pm_k2_c, pm_k3_c, pm_s1_c, pm_s2_c, pm_s3_c, pm_s4_c, pm_ri_c, pm_ra_c, pm_rn_c, pm_rk_i, pm_rk_z, pm_rk_a, pm_vk_i, pm_vk_z, pm_vk_a, pm_cti, pm_ctr, pm_ldi_z, pm_ldi_s, pm_lda_z, pm_lda_s, pm_cat_n, pm_cat_i, pm_cat_r, pm_cat_l, pm_obj, pm_arr, pm_opt, pm_ird, pm_aln, List.getElem?_cons_zero, List.getElem?_cons_succ, List.set_cons_zero, List.set_cons_succ, List.length_cons, List.length_nil, List.length_set, true_and, and_true, Nat.add_zero, Nat.zero_add, Nat.le_refl, Nat.reduceAdd, Nat.reduceLT, Nat.reduceLeDiff, Nat.zero_le, not_false_eq_true, not_true_eq_false, false_implies, implies_true, true_implies, Nat.zero_lt_succ, Nat.lt_add_one, e1, q2]
      exact loop3 65 0 rfl (by omega) hh A1 D1 V1 q1 q2 q3
    | succ n ih =>
      intro k hn hk hh A1 D1 V1 q1 q2 q3
      have e1 : ¬ (64 : Int32) < nI k := nI_nlt (a := 64) (b := k) (by omega) (by omega)
      have xo1 := D1.o
      have xa1 := D1.sh
      have xb1 := D1.ko
      have xc1 := D1.lo
      have xf1 := D1.co
      have x11 := D1.wo
      have x21 := D1.to
      have x31 := D1.so
      have x41 := D1.go
      have x51 := D1.po
      rw [w_X2_fit_48]
      simp only [w_X2_fit_49, w_X2_fit_51, w_X2_fit_54, w_X2_fit_55, w_X2_fit_58, w_X2_fit_61, w_X2_fit_62, w_X2_fit_65, w_X2_fit_68, w_X2_fit_71, w_X2_fit_72, w_X2_fit_75, w_X2_fit_76, w_X2_fit_77, w_X2_fit_80, w_X2_fit_83, w_X2_fit_86, w_X2_fit_89, w_X2_fit_92, w_X2_fit_93, pm_1i_c, pm_2i_c, pm_1l_c, pm_2l_c, pm_1a_c, pm_ia_c, pm_iia_c, pm_va_c, pm_cp_c, pm_k0_c, pm_k1_c, pm_k2_c, pm_k3_c, pm_s1_c, pm_s2_c, pm_s3_c, pm_s4_c, pm_ri_c, pm_ra_c, pm_rn_c, pm_rk_i, pm_rk_z, pm_rk_a, pm_vk_i, pm_vk_z, pm_vk_a, pm_cti, pm_ctr, pm_ldi_z, pm_ldi_s, pm_lda_z, pm_lda_s, pm_cat_n, pm_cat_i, pm_cat_r, pm_cat_l, pm_obj, pm_arr, pm_opt, pm_ird, pm_aln, List.getElem?_cons_zero, List.getElem?_cons_succ, List.set_cons_zero, List.set_cons_succ, List.length_cons, List.length_nil, List.length_set, true_and, and_true, Nat.add_zero, Nat.zero_add, Nat.le_refl, Nat.reduceAdd, Nat.reduceLT, Nat.reduceLeDiff, Nat.zero_le, not_false_eq_true, not_true_eq_false, false_implies, implies_true, true_implies, Nat.zero_lt_succ, Nat.lt_add_one, e1, q2, xo1, xa1, xb1, xc1, xf1, x11, x21, x31, x41, x51]
      refine PM_use (c_Row_size D1.w (d + 3)) ?_
      rintro v h1 l1 ⟨rfl, rfl⟩
      show W_X2_fit _ _ _ _ _ _ _ _ _
      simp only [w_X2_fit_61, w_X2_fit_62, w_X2_fit_65, w_X2_fit_68, w_X2_fit_71, w_X2_fit_72, w_X2_fit_75, w_X2_fit_76, w_X2_fit_77, w_X2_fit_80, w_X2_fit_83, w_X2_fit_86, w_X2_fit_89, w_X2_fit_92, w_X2_fit_93, pm_1i_c, pm_2i_c, pm_1l_c, pm_2l_c, pm_1a_c, pm_ia_c, pm_iia_c, pm_va_c, pm_cp_c, pm_k0_c, pm_k1_c, pm_k2_c, pm_k3_c, pm_s1_c, pm_s2_c, pm_s3_c, pm_s4_c, pm_ri_c, pm_ra_c, pm_rn_c, pm_rk_i, pm_rk_z, pm_rk_a, pm_vk_i, pm_vk_z, pm_vk_a, pm_cti, pm_ctr, pm_ldi_z, pm_ldi_s, pm_lda_z, pm_lda_s, pm_cat_n, pm_cat_i, pm_cat_r, pm_cat_l, pm_obj, pm_arr, pm_opt, pm_ird, pm_aln, List.getElem?_cons_zero, List.getElem?_cons_succ, List.set_cons_zero, List.set_cons_succ, List.length_cons, List.length_nil, List.length_set, true_and, and_true, Nat.add_zero, Nat.zero_add, Nat.le_refl, Nat.reduceAdd, Nat.reduceLT, Nat.reduceLeDiff, Nat.zero_le, not_false_eq_true, not_true_eq_false, false_implies, implies_true, true_implies, Nat.zero_lt_succ, Nat.lt_add_one, pm_tl_n, pm_tl_s, sc_uL, xo1, xa1, xb1, xc1, xf1, x11, x21, x31, x41, x51, q2]
      refine PM_use (c_Shares_windowFor D1.sh (d + 3)) ?_
      rintro v h1 l1 ⟨rfl, rfl⟩
      show W_X2_fit _ _ _ _ _ _ _ _ _
      simp only [w_X2_fit_68, w_X2_fit_71, w_X2_fit_72, w_X2_fit_75, w_X2_fit_76, w_X2_fit_77, w_X2_fit_80, w_X2_fit_83, w_X2_fit_86, w_X2_fit_89, w_X2_fit_92, w_X2_fit_93, pm_1i_c, pm_2i_c, pm_1l_c, pm_2l_c, pm_1a_c, pm_ia_c, pm_iia_c, pm_va_c, pm_cp_c, pm_k0_c, pm_k1_c, pm_k2_c, pm_k3_c, pm_s1_c, pm_s2_c, pm_s3_c, pm_s4_c, pm_ri_c, pm_ra_c, pm_rn_c, pm_rk_i, pm_rk_z, pm_rk_a, pm_vk_i, pm_vk_z, pm_vk_a, pm_cti, pm_ctr, pm_ldi_z, pm_ldi_s, pm_lda_z, pm_lda_s, pm_cat_n, pm_cat_i, pm_cat_r, pm_cat_l, pm_obj, pm_arr, pm_opt, pm_ird, pm_aln, List.getElem?_cons_zero, List.getElem?_cons_succ, List.set_cons_zero, List.set_cons_succ, List.length_cons, List.length_nil, List.length_set, true_and, and_true, Nat.add_zero, Nat.zero_add, Nat.le_refl, Nat.reduceAdd, Nat.reduceLT, Nat.reduceLeDiff, Nat.zero_le, not_false_eq_true, not_true_eq_false, false_implies, implies_true, true_implies, Nat.zero_lt_succ, Nat.lt_add_one, pm_tl_n, pm_tl_s, sc_uL, xo1, xa1, xb1, xc1, xf1, x11, x21, x31, x41, x51, q2]
      unfold fit2 at q1
      refine ⟨fun c => ?_, fun c => ?_⟩
      · rw [if_neg c] at q1
        exact loop3 65 0 rfl (by omega) h1 A1 D1 V1 q1 q2 q3
      · rw [if_pos c] at q1
        refine PM_use (c_Row_removeLast D1.w (d + 2)) ?_
        rintro v h2 l2 ⟨rfl, K1, K2⟩
        obtain ⟨D2, f2⟩ := D1.mv1 (q := 1) (Or.inl rfl) K1 K2
        have xo2 := D2.o
        have xa2 := D2.sh
        have xb2 := D2.ko
        have xc2 := D2.lo
        have xf2 := D2.co
        have x12 := D2.wo
        have x22 := D2.to
        have x32 := D2.so
        have x42 := D2.go
        have x52 := D2.po
        show W_X2_fit _ _ _ _ _ _ _ _ _
        simp only [w_X2_fit_83, w_X2_fit_86, w_X2_fit_89, w_X2_fit_92, w_X2_fit_93, pm_1i_c, pm_2i_c, pm_1l_c, pm_2l_c, pm_1a_c, pm_ia_c, pm_iia_c, pm_va_c, pm_cp_c, pm_k0_c, pm_k1_c, pm_k2_c, pm_k3_c, pm_s1_c, pm_s2_c, pm_s3_c, pm_s4_c, pm_ri_c, pm_ra_c, pm_rn_c, pm_rk_i, pm_rk_z, pm_rk_a, pm_vk_i, pm_vk_z, pm_vk_a, pm_cti, pm_ctr, pm_ldi_z, pm_ldi_s, pm_lda_z, pm_lda_s, pm_cat_n, pm_cat_i, pm_cat_r, pm_cat_l, pm_obj, pm_arr, pm_opt, pm_ird, pm_aln, List.getElem?_cons_zero, List.getElem?_cons_succ, List.set_cons_zero, List.set_cons_succ, List.length_cons, List.length_nil, List.length_set, true_and, and_true, Nat.add_zero, Nat.zero_add, Nat.le_refl, Nat.reduceAdd, Nat.reduceLT, Nat.reduceLeDiff, Nat.zero_le, not_false_eq_true, not_true_eq_false, false_implies, implies_true, true_implies, Nat.zero_lt_succ, Nat.lt_add_one, pm_tl_n, pm_tl_s, sc_uL, xo2, xa2, xb2, xc2, xf2, x12, x22, x32, x42, x52, q2, l2]
        refine PM_use (c_Row_ins0 D2.t (by omega) ((li A1 1).getLastD (-1)) (d + 3)) ?_
        rintro v h3 l3 ⟨rfl, K3, K4⟩
        show W_X2_fit _ _ _ _ _ _ _ _ _
        simp only [w_X2_fit_86, w_X2_fit_89, w_X2_fit_92, w_X2_fit_93, pm_1i_c, pm_2i_c, pm_1l_c, pm_2l_c, pm_1a_c, pm_ia_c, pm_iia_c, pm_va_c, pm_cp_c, pm_k0_c, pm_k1_c, pm_k2_c, pm_k3_c, pm_s1_c, pm_s2_c, pm_s3_c, pm_s4_c, pm_ri_c, pm_ra_c, pm_rn_c, pm_rk_i, pm_rk_z, pm_rk_a, pm_vk_i, pm_vk_z, pm_vk_a, pm_cti, pm_ctr, pm_ldi_z, pm_ldi_s, pm_lda_z, pm_lda_s, pm_cat_n, pm_cat_i, pm_cat_r, pm_cat_l, pm_obj, pm_arr, pm_opt, pm_ird, pm_aln, List.getElem?_cons_zero, List.getElem?_cons_succ, List.set_cons_zero, List.set_cons_succ, List.length_cons, List.length_nil, List.length_set, true_and, and_true, Nat.add_zero, Nat.zero_add, Nat.le_refl, Nat.reduceAdd, Nat.reduceLT, Nat.reduceLeDiff, Nat.zero_le, not_false_eq_true, not_true_eq_false, false_implies, implies_true, true_implies, Nat.zero_lt_succ, Nat.lt_add_one, pm_tl_n, pm_tl_s, sc_uL, nI_1]
        exact ih (k + 1) (by omega) (by omega) h3 (mvD A1 1) (D2.ut K3 K4) V1 q1 (by rw [l3, l2, q2]; rfl) ((q3.tr f2).tr (frd_2 2 K4 (by omega)))
  have loop1 : ∀ n k, 65 - k = n → k ≤ 65 → ∀ (hh : pmH) (A1 : AD), dk_ hh B A1 → skV A1 → fit3 65 (fit2 65 (fit1 n A1)) = fitF A → hh.length = h.length → frd h hh B → W_X2_fit (d + 4) (h.length + 0) 0 (fun v h' => v = none ∧ dk_ h' B (fitF A) ∧ frd h h' B) 2 [some (.ref B), some (.int (nI k))] [] hh 0 := by
    intro n
    induction n with
    | zero =>
      intro k hn hk hh A1 D1 V1 q1 q2 q3
      have : k = 65 := by omega
      subst this
      have e1 : (64 : Int32) < nI 65 := by decide
      rw [w_X2_fit_2]
      simp only [w_X2_fit_3, w_X2_fit_5, w_X2_fit_8, w_X2_fit_9, w_X2_fit_12, w_X2_fit_15, w_X2_fit_16, w_X2_fit_19, w_X2_fit_22, w_X2_fit_25, w_X2_fit_26, w_X2_fit_29, w_X2_fit_30, w_X2_fit_31, w_X2_fit_34, w_X2_fit_37, w_X2_fit_40, w_X2_fit_43, w_X2_fit_46, w_X2_fit_47, pm_1i_c, pm_2i_c, pm_1l_c, pm_2l_c, pm_1a_c, pm_ia_c, pm_iia_c, pm_va_c, pm_cp_c, pm_k0_c, pm_k1_c, pm_k2_c, pm_k3_c, pm_s1_c, pm_s2_c, pm_s3_c, pm_s4_c, pm_ri_c, pm_ra_c, pm_rn_c, pm_rk_i, pm_rk_z, pm_rk_a, pm_vk_i, pm_vk_z, pm_vk_a, pm_cti, pm_ctr, pm_ldi_z, pm_ldi_s, pm_lda_z, pm_lda_s, pm_cat_n, pm_cat_i, pm_cat_r, pm_cat_l, pm_obj, pm_arr, pm_opt, pm_ird, pm_aln, List.getElem?_cons_zero, List.getElem?_cons_succ, List.set_cons_zero, List.set_cons_succ, List.length_cons, List.length_nil, List.length_set, true_and, and_true, Nat.add_zero, Nat.zero_add, Nat.le_refl, Nat.reduceAdd, Nat.reduceLT, Nat.reduceLeDiff, Nat.zero_le, not_false_eq_true, not_true_eq_false, false_implies, implies_true, true_implies, Nat.zero_lt_succ, Nat.lt_add_one, e1, q2]
      exact loop2 65 0 rfl (by omega) hh A1 D1 V1 q1 q2 q3
    | succ n ih =>
      intro k hn hk hh A1 D1 V1 q1 q2 q3
      have e1 : ¬ (64 : Int32) < nI k := nI_nlt (a := 64) (b := k) (by omega) (by omega)
      have xo1 := D1.o
      have xa1 := D1.sh
      have xb1 := D1.ko
      have xc1 := D1.lo
      have xf1 := D1.co
      have x11 := D1.wo
      have x21 := D1.to
      have x31 := D1.so
      have x41 := D1.go
      have x51 := D1.po
      rw [w_X2_fit_2]
      simp only [w_X2_fit_3, w_X2_fit_5, w_X2_fit_8, w_X2_fit_9, w_X2_fit_12, w_X2_fit_15, w_X2_fit_16, w_X2_fit_19, w_X2_fit_22, w_X2_fit_25, w_X2_fit_26, w_X2_fit_29, w_X2_fit_30, w_X2_fit_31, w_X2_fit_34, w_X2_fit_37, w_X2_fit_40, w_X2_fit_43, w_X2_fit_46, w_X2_fit_47, pm_1i_c, pm_2i_c, pm_1l_c, pm_2l_c, pm_1a_c, pm_ia_c, pm_iia_c, pm_va_c, pm_cp_c, pm_k0_c, pm_k1_c, pm_k2_c, pm_k3_c, pm_s1_c, pm_s2_c, pm_s3_c, pm_s4_c, pm_ri_c, pm_ra_c, pm_rn_c, pm_rk_i, pm_rk_z, pm_rk_a, pm_vk_i, pm_vk_z, pm_vk_a, pm_cti, pm_ctr, pm_ldi_z, pm_ldi_s, pm_lda_z, pm_lda_s, pm_cat_n, pm_cat_i, pm_cat_r, pm_cat_l, pm_obj, pm_arr, pm_opt, pm_ird, pm_aln, List.getElem?_cons_zero, List.getElem?_cons_succ, List.set_cons_zero, List.set_cons_succ, List.length_cons, List.length_nil, List.length_set, true_and, and_true, Nat.add_zero, Nat.zero_add, Nat.le_refl, Nat.reduceAdd, Nat.reduceLT, Nat.reduceLeDiff, Nat.zero_le, not_false_eq_true, not_true_eq_false, false_implies, implies_true, true_implies, Nat.zero_lt_succ, Nat.lt_add_one, e1, q2, xo1, xa1, xb1, xc1, xf1, x11, x21, x31, x41, x51]
      refine PM_use (c_Row_size D1.s (d + 3)) ?_
      rintro v h1 l1 ⟨rfl, rfl⟩
      show W_X2_fit _ _ _ _ _ _ _ _ _
      simp only [w_X2_fit_15, w_X2_fit_16, w_X2_fit_19, w_X2_fit_22, w_X2_fit_25, w_X2_fit_26, w_X2_fit_29, w_X2_fit_30, w_X2_fit_31, w_X2_fit_34, w_X2_fit_37, w_X2_fit_40, w_X2_fit_43, w_X2_fit_46, w_X2_fit_47, pm_1i_c, pm_2i_c, pm_1l_c, pm_2l_c, pm_1a_c, pm_ia_c, pm_iia_c, pm_va_c, pm_cp_c, pm_k0_c, pm_k1_c, pm_k2_c, pm_k3_c, pm_s1_c, pm_s2_c, pm_s3_c, pm_s4_c, pm_ri_c, pm_ra_c, pm_rn_c, pm_rk_i, pm_rk_z, pm_rk_a, pm_vk_i, pm_vk_z, pm_vk_a, pm_cti, pm_ctr, pm_ldi_z, pm_ldi_s, pm_lda_z, pm_lda_s, pm_cat_n, pm_cat_i, pm_cat_r, pm_cat_l, pm_obj, pm_arr, pm_opt, pm_ird, pm_aln, List.getElem?_cons_zero, List.getElem?_cons_succ, List.set_cons_zero, List.set_cons_succ, List.length_cons, List.length_nil, List.length_set, true_and, and_true, Nat.add_zero, Nat.zero_add, Nat.le_refl, Nat.reduceAdd, Nat.reduceLT, Nat.reduceLeDiff, Nat.zero_le, not_false_eq_true, not_true_eq_false, false_implies, implies_true, true_implies, Nat.zero_lt_succ, Nat.lt_add_one, pm_tl_n, pm_tl_s, sc_uL, xo1, xa1, xb1, xc1, xf1, x11, x21, x31, x41, x51, q2]
      refine PM_use (c_Shares_safeFor D1.sh (d + 1)) ?_
      rintro v h1 l1 ⟨rfl, rfl⟩
      show W_X2_fit _ _ _ _ _ _ _ _ _
      simp only [w_X2_fit_22, w_X2_fit_25, w_X2_fit_26, w_X2_fit_29, w_X2_fit_30, w_X2_fit_31, w_X2_fit_34, w_X2_fit_37, w_X2_fit_40, w_X2_fit_43, w_X2_fit_46, w_X2_fit_47, pm_1i_c, pm_2i_c, pm_1l_c, pm_2l_c, pm_1a_c, pm_ia_c, pm_iia_c, pm_va_c, pm_cp_c, pm_k0_c, pm_k1_c, pm_k2_c, pm_k3_c, pm_s1_c, pm_s2_c, pm_s3_c, pm_s4_c, pm_ri_c, pm_ra_c, pm_rn_c, pm_rk_i, pm_rk_z, pm_rk_a, pm_vk_i, pm_vk_z, pm_vk_a, pm_cti, pm_ctr, pm_ldi_z, pm_ldi_s, pm_lda_z, pm_lda_s, pm_cat_n, pm_cat_i, pm_cat_r, pm_cat_l, pm_obj, pm_arr, pm_opt, pm_ird, pm_aln, List.getElem?_cons_zero, List.getElem?_cons_succ, List.set_cons_zero, List.set_cons_succ, List.length_cons, List.length_nil, List.length_set, true_and, and_true, Nat.add_zero, Nat.zero_add, Nat.le_refl, Nat.reduceAdd, Nat.reduceLT, Nat.reduceLeDiff, Nat.zero_le, not_false_eq_true, not_true_eq_false, false_implies, implies_true, true_implies, Nat.zero_lt_succ, Nat.lt_add_one, pm_tl_n, pm_tl_s, sc_uL, xo1, xa1, xb1, xc1, xf1, x11, x21, x31, x41, x51, q2]
      unfold fit1 at q1
      refine ⟨fun c => ?_, fun c => ?_⟩
      · rw [if_neg c] at q1
        exact loop2 65 0 rfl (by omega) h1 A1 D1 V1 q1 q2 q3
      · rw [if_pos c] at q1
        refine PM_use (c_Row_removeLast D1.s (d + 2)) ?_
        rintro v h2 l2 ⟨rfl, K1, K2⟩
        obtain ⟨D2, f2⟩ := D1.mv1 (q := 3) (Or.inr rfl) K1 K2
        have xo2 := D2.o
        have xa2 := D2.sh
        have xb2 := D2.ko
        have xc2 := D2.lo
        have xf2 := D2.co
        have x12 := D2.wo
        have x22 := D2.to
        have x32 := D2.so
        have x42 := D2.go
        have x52 := D2.po
        show W_X2_fit _ _ _ _ _ _ _ _ _
        simp only [w_X2_fit_37, w_X2_fit_40, w_X2_fit_43, w_X2_fit_46, w_X2_fit_47, pm_1i_c, pm_2i_c, pm_1l_c, pm_2l_c, pm_1a_c, pm_ia_c, pm_iia_c, pm_va_c, pm_cp_c, pm_k0_c, pm_k1_c, pm_k2_c, pm_k3_c, pm_s1_c, pm_s2_c, pm_s3_c, pm_s4_c, pm_ri_c, pm_ra_c, pm_rn_c, pm_rk_i, pm_rk_z, pm_rk_a, pm_vk_i, pm_vk_z, pm_vk_a, pm_cti, pm_ctr, pm_ldi_z, pm_ldi_s, pm_lda_z, pm_lda_s, pm_cat_n, pm_cat_i, pm_cat_r, pm_cat_l, pm_obj, pm_arr, pm_opt, pm_ird, pm_aln, List.getElem?_cons_zero, List.getElem?_cons_succ, List.set_cons_zero, List.set_cons_succ, List.length_cons, List.length_nil, List.length_set, true_and, and_true, Nat.add_zero, Nat.zero_add, Nat.le_refl, Nat.reduceAdd, Nat.reduceLT, Nat.reduceLeDiff, Nat.zero_le, not_false_eq_true, not_true_eq_false, false_implies, implies_true, true_implies, Nat.zero_lt_succ, Nat.lt_add_one, pm_tl_n, pm_tl_s, sc_uL, xo2, xa2, xb2, xc2, xf2, x12, x22, x32, x42, x52, q2, l2]
        refine PM_use (c_Row_ins0 D2.t (by omega) ((li A1 3).getLastD (-1)) (d + 3)) ?_
        rintro v h3 l3 ⟨rfl, K3, K4⟩
        show W_X2_fit _ _ _ _ _ _ _ _ _
        simp only [w_X2_fit_40, w_X2_fit_43, w_X2_fit_46, w_X2_fit_47, pm_1i_c, pm_2i_c, pm_1l_c, pm_2l_c, pm_1a_c, pm_ia_c, pm_iia_c, pm_va_c, pm_cp_c, pm_k0_c, pm_k1_c, pm_k2_c, pm_k3_c, pm_s1_c, pm_s2_c, pm_s3_c, pm_s4_c, pm_ri_c, pm_ra_c, pm_rn_c, pm_rk_i, pm_rk_z, pm_rk_a, pm_vk_i, pm_vk_z, pm_vk_a, pm_cti, pm_ctr, pm_ldi_z, pm_ldi_s, pm_lda_z, pm_lda_s, pm_cat_n, pm_cat_i, pm_cat_r, pm_cat_l, pm_obj, pm_arr, pm_opt, pm_ird, pm_aln, List.getElem?_cons_zero, List.getElem?_cons_succ, List.set_cons_zero, List.set_cons_succ, List.length_cons, List.length_nil, List.length_set, true_and, and_true, Nat.add_zero, Nat.zero_add, Nat.le_refl, Nat.reduceAdd, Nat.reduceLT, Nat.reduceLeDiff, Nat.zero_le, not_false_eq_true, not_true_eq_false, false_implies, implies_true, true_implies, Nat.zero_lt_succ, Nat.lt_add_one, pm_tl_n, pm_tl_s, sc_uL, nI_1]
        exact ih (k + 1) (by omega) (by omega) h3 (mvD A1 3) (D2.ut K3 K4) V1 q1 (by rw [l3, l2, q2]; rfl) ((q3.tr f2).tr (frd_2 2 K4 (by omega)))
  simp only [w_X2_fit_0, w_X2_fit_1, pm_1i_c, pm_2i_c, pm_1l_c, pm_2l_c, pm_1a_c, pm_ia_c, pm_iia_c, pm_va_c, pm_cp_c, pm_k0_c, pm_k1_c, pm_k2_c, pm_k3_c, pm_s1_c, pm_s2_c, pm_s3_c, pm_s4_c, pm_ri_c, pm_ra_c, pm_rn_c, pm_rk_i, pm_rk_z, pm_rk_a, pm_vk_i, pm_vk_z, pm_vk_a, pm_cti, pm_ctr, pm_ldi_z, pm_ldi_s, pm_lda_z, pm_lda_s, pm_cat_n, pm_cat_i, pm_cat_r, pm_cat_l, pm_obj, pm_arr, pm_opt, pm_ird, pm_aln, List.getElem?_cons_zero, List.getElem?_cons_succ, List.set_cons_zero, List.set_cons_succ, List.length_cons, List.length_nil, List.length_set, true_and, and_true, Nat.add_zero, Nat.zero_add, Nat.le_refl, Nat.reduceAdd, Nat.reduceLT, Nat.reduceLeDiff, Nat.zero_le, not_false_eq_true, not_true_eq_false, false_implies, implies_true, true_implies, Nat.zero_lt_succ, Nat.lt_add_one]
  exact loop1 65 0 rfl (by omega) h A D0 V rfl rfl frd.rf
end DR
