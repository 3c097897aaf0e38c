/-! LawReader: atoms, all, either, the whole text. -/
section LS2
variable {h h' : pmH} {R : Nat} {t : TS} {tb : Int32} {s : LZ}
set_option maxHeartbeats 2000000 in
theorem c_R_readAtom (L : lr_ h R t tb s) {dp : Nat} (hdp : dp ≤ 8) {top : Bool} (ht : top = decide (8 ≤ dp)) {E : LZ → LZ} {D : Nat} (HE : dp < 8 → ∀ (h : pmH) (s : LZ), lr_ h R t tb s → PM (D + 3) 35 [.ref R, .int (nI (dp + 1))] h (fun v h' => v = none ∧ lr_ h' R t tb (E s) ∧ frR h h' R)) : PM (D + 4) 37 [.ref R, .int (nI dp)] h (fun v h' => v = none ∧ lr_ h' R t tb (atF t.1 t.2.2 top E s) ∧ frR h h' R) := by
  refine en_X4_readAtom rfl rfl ?_
  obtain ⟨Z, hZ⟩ : ∃ Z, Z = atF t.1 t.2.2 top E s := ⟨_, rfl⟩
  rw [← hZ]
  -- the end
  have fin : ∀ (b : Bool) (hh : pmH) (q : LZ) (x3 : Option Value), lr_ hh R t tb q → (if b = true then lSt 13 q else q) = Z → hh.length = h.length → frR h hh R → W_X4_readAtom (D + 3) (h.length + 0) 0 (fun v h' => v = none ∧ lr_ h' R t tb Z ∧ frR h h' R) 130 [some (.ref R), some (.int (nI dp)), some (.int (if b = true then 1 else 0)), x3] [] hh 0 := by
    intro b hh q x3 L1 e q1 q2
    have ro := L1.o
    have lo := L1.l
    have so := L1.so
    cases b with
    | true =>
      rw [if_pos rfl] at e
      simp only [w_X4_readAtom_130, w_X4_readAtom_131, w_X4_readAtom_134, w_X4_readAtom_135, w_X4_readAtom_138, w_X4_readAtom_141, w_X4_readAtom_143, pm_1i_c, pm_2i_c, pm_1l_c, pm_2l_c, pm_1a_c, pm_ia_c, pm_iia_c, pm_va_c, pm_cp_c, pm_k0_c, pm_k1_c, pm_k2_c, pm_k3_c, pm_s1_c, pm_s2_c, pm_s3_c, pm_s4_c, pm_ri_c, pm_ra_c, pm_rn_c, pm_rk_i, pm_rk_z, pm_rk_a, pm_vk_i, pm_vk_z, pm_vk_a, pm_cti, pm_ctr, pm_ldi_z, pm_ldi_s, pm_lda_z, pm_lda_s, pm_cat_n, pm_cat_i, pm_cat_r, pm_cat_l, pm_obj, pm_arr, pm_opt, pm_ird, pm_aln, List.getElem?_cons_zero, List.getElem?_cons_succ, List.set_cons_zero, List.set_cons_succ, List.length_cons, List.length_nil, List.length_set, true_and, and_true, Nat.add_zero, Nat.zero_add, Nat.le_refl, Nat.reduceAdd, Nat.reduceLT, Nat.reduceLeDiff, Nat.zero_le, not_false_eq_true, not_true_eq_false, false_implies, implies_true, true_implies, Nat.zero_lt_succ, Nat.lt_add_one, ro, lo, so, q1, if_true, show ¬ (1 : Int32) = 0 by decide]
      refine PM_use (c_R_step L1 13 (D + 2)) ?_
      rintro v h2 l2 ⟨rfl, L2, f2⟩
      show W_X4_readAtom _ _ _ _ _ _ _ _ _
      simp only [w_X4_readAtom_146, pm_1i_c, pm_2i_c, pm_1l_c, pm_2l_c, pm_1a_c, pm_ia_c, pm_iia_c, pm_va_c, pm_cp_c, pm_k0_c, pm_k1_c, pm_k2_c, pm_k3_c, pm_s1_c, pm_s2_c, pm_s3_c, pm_s4_c, pm_ri_c, pm_ra_c, pm_rn_c, pm_rk_i, pm_rk_z, pm_rk_a, pm_vk_i, pm_vk_z, pm_vk_a, pm_cti, pm_ctr, pm_ldi_z, pm_ldi_s, pm_lda_z, pm_lda_s, pm_cat_n, pm_cat_i, pm_cat_r, pm_cat_l, pm_obj, pm_arr, pm_opt, pm_ird, pm_aln, List.getElem?_cons_zero, List.getElem?_cons_succ, List.set_cons_zero, List.set_cons_succ, List.length_cons, List.length_nil, List.length_set, true_and, and_true, Nat.add_zero, Nat.zero_add, Nat.le_refl, Nat.reduceAdd, Nat.reduceLT, Nat.reduceLeDiff, Nat.zero_le, not_false_eq_true, not_true_eq_false, false_implies, implies_true, true_implies, Nat.zero_lt_succ, Nat.lt_add_one, pm_tl_n, pm_tl_s, sc_uL, l2, q1]
      rw [← e]
      exact ⟨L2, q2.tr f2⟩
    | false =>
      rw [if_neg (by decide)] at e
      simp only [w_X4_readAtom_130, w_X4_readAtom_131, w_X4_readAtom_146, pm_1i_c, pm_2i_c, pm_1l_c, pm_2l_c, pm_1a_c, pm_ia_c, pm_iia_c, pm_va_c, pm_cp_c, pm_k0_c, pm_k1_c, pm_k2_c, pm_k3_c, pm_s1_c, pm_s2_c, pm_s3_c, pm_s4_c, pm_ri_c, pm_ra_c, pm_rn_c, pm_rk_i, pm_rk_z, pm_rk_a, pm_vk_i, pm_vk_z, pm_vk_a, pm_cti, pm_ctr, pm_ldi_z, pm_ldi_s, pm_lda_z, pm_lda_s, pm_cat_n, pm_cat_i, pm_cat_r, pm_cat_l, pm_obj, pm_arr, pm_opt, pm_ird, pm_aln, List.getElem?_cons_zero, List.getElem?_cons_succ, List.set_cons_zero, List.set_cons_succ, List.length_cons, List.length_nil, List.length_set, true_and, and_true, Nat.add_zero, Nat.zero_add, Nat.le_refl, Nat.reduceAdd, Nat.reduceLT, Nat.reduceLeDiff, Nat.zero_le, not_false_eq_true, not_true_eq_false, false_implies, implies_true, true_implies, Nat.zero_lt_succ, Nat.lt_add_one, q1, Bool.false_eq_true, if_false]
      rw [← e]
      exact ⟨L1, q2⟩
  -- behind the nots
  have body : ∀ (b : Bool) (hh : pmH) (q : LZ) (x3 : Option Value), lr_ hh R t tb q → (if b = true then lSt 13 (atB t.1 t.2.2 top E q) else atB t.1 t.2.2 top E q) = Z → hh.length = h.length → frR h hh R → W_X4_readAtom (D + 3) (h.length + 0) 0 (fun v h' => v = none ∧ lr_ h' R t tb Z ∧ frR h h' R) 40 [some (.ref R), some (.int (nI dp)), some (.int (if b = true then 1 else 0)), x3] [] hh 0 := by
    intro b hh q x3 L1 e q1 q2
    obtain ⟨bb, hbb⟩ : ∃ bb : Int32, bb = if b = true then 1 else 0 := ⟨_, rfl⟩
    rw [← hbb]
    have fin' := fin b
    rw [← hbb] at fin'
    have ro := L1.o
    have to := L1.to
    simp only [w_X4_readAtom_40, w_X4_readAtom_41, w_X4_readAtom_44, pm_1i_c, pm_2i_c, pm_1l_c, pm_2l_c, pm_1a_c, pm_ia_c, pm_iia_c, pm_va_c, pm_cp_c, pm_k0_c, pm_k1_c, pm_k2_c, pm_k3_c, pm_s1_c, pm_s2_c, pm_s3_c, pm_s4_c, pm_ri_c, pm_ra_c, pm_rn_c, pm_rk_i, pm_rk_z, pm_rk_a, pm_vk_i, pm_vk_z, pm_vk_a, pm_cti, pm_ctr, pm_ldi_z, pm_ldi_s, pm_lda_z, pm_lda_s, pm_cat_n, pm_cat_i, pm_cat_r, pm_cat_l, pm_obj, pm_arr, pm_opt, pm_ird, pm_aln, List.getElem?_cons_zero, List.getElem?_cons_succ, List.set_cons_zero, List.set_cons_succ, List.length_cons, List.length_nil, List.length_set, true_and, and_true, Nat.add_zero, Nat.zero_add, Nat.le_refl, Nat.reduceAdd, Nat.reduceLT, Nat.reduceLeDiff, Nat.zero_le, not_false_eq_true, not_true_eq_false, false_implies, implies_true, true_implies, Nat.zero_lt_succ, Nat.lt_add_one, ro, to, q1]
    refine PM_use (c_T_kind L1.tt L1.i4 (D + 1)) ?_
    rintro v h1 l1 ⟨rfl, rfl⟩
    -- not too deep
    have rest : ¬ (kiF t.1 q.1 = 40 ∧ top = true) → W_X4_readAtom (D + 3) (h.length + 0) 0 (fun v h' => v = none ∧ lr_ h' R t tb Z ∧ frR h h' R) 75 [some (.ref R), some (.int (nI dp)), some (.int bb), x3] [] h1 0 := by
      intro c
      unfold atB at e
      rw [if_neg c] at e
      simp only [w_X4_readAtom_75, w_X4_readAtom_76, w_X4_readAtom_79, w_X4_readAtom_81, pm_1i_c, pm_2i_c, pm_1l_c, pm_2l_c, pm_1a_c, pm_ia_c, pm_iia_c, pm_va_c, pm_cp_c, pm_k0_c, pm_k1_c, pm_k2_c, pm_k3_c, pm_s1_c, pm_s2_c, pm_s3_c, pm_s4_c, pm_ri_c, pm_ra_c, pm_rn_c, pm_rk_i, pm_rk_z, pm_rk_a, pm_vk_i, pm_vk_z, pm_vk_a, pm_cti, pm_ctr, pm_ldi_z, pm_ldi_s, pm_lda_z, pm_lda_s, pm_cat_n, pm_cat_i, pm_cat_r, pm_cat_l, pm_obj, pm_arr, pm_opt, pm_ird, pm_aln, List.getElem?_cons_zero, List.getElem?_cons_succ, List.set_cons_zero, List.set_cons_succ, List.length_cons, List.length_nil, List.length_set, true_and, and_true, Nat.add_zero, Nat.zero_add, Nat.le_refl, Nat.reduceAdd, Nat.reduceLT, Nat.reduceLeDiff, Nat.zero_le, not_false_eq_true, not_true_eq_false, false_implies, implies_true, true_implies, Nat.zero_lt_succ, Nat.lt_add_one, ro, to, q1]
      refine PM_use (c_R_takes L1 40 (by decide) (D + 1)) ?_
      rintro v h2 l2 ⟨rfl, L2, f2⟩
      rcases Bool.eq_false_or_eq_true (taB t.1 40 q.1) with c2 | c2
      · have hd8 : dp < 8 := by
          rcases Nat.lt_or_ge dp 8 with z | z
          · exact z
          · refine absurd ⟨?_, by rw [ht]; exact decide_eq_true z⟩ c
            unfold taB at c2
            rw [decide_eq_true_eq] at c2
            unfold kiF
            rw [if_pos c2.1]
            exact c2.2
        rw [if_pos c2] at e
        simp only [c2, if_true]
        have ro2 := L2.o
        show W_X4_readAtom _ _ _ _ _ _ _ _ _
        simp only [w_X4_readAtom_84, w_X4_readAtom_87, w_X4_readAtom_88, w_X4_readAtom_89, w_X4_readAtom_90, w_X4_readAtom_91, pm_1i_c, pm_2i_c, pm_1l_c, pm_2l_c, pm_1a_c, pm_ia_c, pm_iia_c, pm_va_c, pm_cp_c, pm_k0_c, pm_k1_c, pm_k2_c, pm_k3_c, pm_s1_c, pm_s2_c, pm_s3_c, pm_s4_c, pm_ri_c, pm_ra_c, pm_rn_c, pm_rk_i, pm_rk_z, pm_rk_a, pm_vk_i, pm_vk_z, pm_vk_a, pm_cti, pm_ctr, pm_ldi_z, pm_ldi_s, pm_lda_z, pm_lda_s, pm_cat_n, pm_cat_i, pm_cat_r, pm_cat_l, pm_obj, pm_arr, pm_opt, pm_ird, pm_aln, List.getElem?_cons_zero, List.getElem?_cons_succ, List.set_cons_zero, List.set_cons_succ, List.length_cons, List.length_nil, List.length_set, true_and, and_true, Nat.add_zero, Nat.zero_add, Nat.le_refl, Nat.reduceAdd, Nat.reduceLT, Nat.reduceLeDiff, Nat.zero_le, not_false_eq_true, not_true_eq_false, false_implies, implies_true, true_implies, Nat.zero_lt_succ, Nat.lt_add_one, pm_tl_n, pm_tl_s, sc_uL, l2, q1, ro2, show ¬ (1 : Int32) = 0 by decide, nI_1]
        refine PM_use (HE hd8 h2 _ L2) ?_
        rintro v h3 l3 ⟨rfl, L3, f3⟩
        have ro3 := L3.o
        have to3 := L3.to
        show W_X4_readAtom _ _ _ _ _ _ _ _ _
        simp only [w_X4_readAtom_94, w_X4_readAtom_95, w_X4_readAtom_98, w_X4_readAtom_100, pm_1i_c, pm_2i_c, pm_1l_c, pm_2l_c, pm_1a_c, pm_ia_c, pm_iia_c, pm_va_c, pm_cp_c, pm_k0_c, pm_k1_c, pm_k2_c, pm_k3_c, pm_s1_c, pm_s2_c, pm_s3_c, pm_s4_c, pm_ri_c, pm_ra_c, pm_rn_c, pm_rk_i, pm_rk_z, pm_rk_a, pm_vk_i, pm_vk_z, pm_vk_a, pm_cti, pm_ctr, pm_ldi_z, pm_ldi_s, pm_lda_z, pm_lda_s, pm_cat_n, pm_cat_i, pm_cat_r, pm_cat_l, pm_obj, pm_arr, pm_opt, pm_ird, pm_aln, List.getElem?_cons_zero, List.getElem?_cons_succ, List.set_cons_zero, List.set_cons_succ, List.length_cons, List.length_nil, List.length_set, true_and, and_true, Nat.add_zero, Nat.zero_add, Nat.le_refl, Nat.reduceAdd, Nat.reduceLT, Nat.reduceLeDiff, Nat.zero_le, not_false_eq_true, not_true_eq_false, false_implies, implies_true, true_implies, Nat.zero_lt_succ, Nat.lt_add_one, pm_tl_n, pm_tl_s, sc_uL, ro3, to3, l3, l2, q1]
        refine PM_use (c_R_need L3 41 (by decide) (D + 1)) ?_
        rintro v h4 l4 ⟨rfl, L4, f4⟩
        show W_X4_readAtom _ _ _ _ _ _ _ _ _
        simp only [w_X4_readAtom_103, pm_1i_c, pm_2i_c, pm_1l_c, pm_2l_c, pm_1a_c, pm_ia_c, pm_iia_c, pm_va_c, pm_cp_c, pm_k0_c, pm_k1_c, pm_k2_c, pm_k3_c, pm_s1_c, pm_s2_c, pm_s3_c, pm_s4_c, pm_ri_c, pm_ra_c, pm_rn_c, pm_rk_i, pm_rk_z, pm_rk_a, pm_vk_i, pm_vk_z, pm_vk_a, pm_cti, pm_ctr, pm_ldi_z, pm_ldi_s, pm_lda_z, pm_lda_s, pm_cat_n, pm_cat_i, pm_cat_r, pm_cat_l, pm_obj, pm_arr, pm_opt, pm_ird, pm_aln, List.getElem?_cons_zero, List.getElem?_cons_succ, List.set_cons_zero, List.set_cons_succ, List.length_cons, List.length_nil, List.length_set, true_and, and_true, Nat.add_zero, Nat.zero_add, Nat.le_refl, Nat.reduceAdd, Nat.reduceLT, Nat.reduceLeDiff, Nat.zero_le, not_false_eq_true, not_true_eq_false, false_implies, implies_true, true_implies, Nat.zero_lt_succ, Nat.lt_add_one, pm_tl_n, pm_tl_s, sc_uL]
        exact fin' h4 _ _ L4 e (by rw [l4, l3, l2, q1]; rfl) (((q2.tr f2).tr f3).tr f4)
      · rw [lTk_no c2] at L2
        rw [if_neg (show ¬ taB t.1 40 q.1 = true by rw [c2]; decide)] at e
        simp only [c2, Bool.false_eq_true, if_false]
        have ro2 := L2.o
        show W_X4_readAtom _ _ _ _ _ _ _ _ _
        simp only [w_X4_readAtom_84, w_X4_readAtom_106, w_X4_readAtom_107, pm_1i_c, pm_2i_c, pm_1l_c, pm_2l_c, pm_1a_c, pm_ia_c, pm_iia_c, pm_va_c, pm_cp_c, pm_k0_c, pm_k1_c, pm_k2_c, pm_k3_c, pm_s1_c, pm_s2_c, pm_s3_c, pm_s4_c, pm_ri_c, pm_ra_c, pm_rn_c, pm_rk_i, pm_rk_z, pm_rk_a, pm_vk_i, pm_vk_z, pm_vk_a, pm_cti, pm_ctr, pm_ldi_z, pm_ldi_s, pm_lda_z, pm_lda_s, pm_cat_n, pm_cat_i, pm_cat_r, pm_cat_l, pm_obj, pm_arr, pm_opt, pm_ird, pm_aln, List.getElem?_cons_zero, List.getElem?_cons_succ, List.set_cons_zero, List.set_cons_succ, List.length_cons, List.length_nil, List.length_set, true_and, and_true, Nat.add_zero, Nat.zero_add, Nat.le_refl, Nat.reduceAdd, Nat.reduceLT, Nat.reduceLeDiff, Nat.zero_le, not_false_eq_true, not_true_eq_false, false_implies, implies_true, true_implies, Nat.zero_lt_succ, Nat.lt_add_one, pm_tl_n, pm_tl_s, sc_uL, l2, q1, ro2]
        refine PM_use (c_R_readSum L2 D) ?_
        rintro v h3 l3 ⟨rfl, L3, f3⟩
        have ro3 := L3.o
        show W_X4_readAtom _ _ _ _ _ _ _ _ _
        simp only [w_X4_readAtom_110, w_X4_readAtom_111, pm_1i_c, pm_2i_c, pm_1l_c, pm_2l_c, pm_1a_c, pm_ia_c, pm_iia_c, pm_va_c, pm_cp_c, pm_k0_c, pm_k1_c, pm_k2_c, pm_k3_c, pm_s1_c, pm_s2_c, pm_s3_c, pm_s4_c, pm_ri_c, pm_ra_c, pm_rn_c, pm_rk_i, pm_rk_z, pm_rk_a, pm_vk_i, pm_vk_z, pm_vk_a, pm_cti, pm_ctr, pm_ldi_z, pm_ldi_s, pm_lda_z, pm_lda_s, pm_cat_n, pm_cat_i, pm_cat_r, pm_cat_l, pm_obj, pm_arr, pm_opt, pm_ird, pm_aln, List.getElem?_cons_zero, List.getElem?_cons_succ, List.set_cons_zero, List.set_cons_succ, List.length_cons, List.length_nil, List.length_set, true_and, and_true, Nat.add_zero, Nat.zero_add, Nat.le_refl, Nat.reduceAdd, Nat.reduceLT, Nat.reduceLeDiff, Nat.zero_le, not_false_eq_true, not_true_eq_false, false_implies, implies_true, true_implies, Nat.zero_lt_succ, Nat.lt_add_one, pm_tl_n, pm_tl_s, sc_uL, ro3, l3, l2, q1]
        refine PM_use (c_R_readSign L3 D) ?_
        rintro v h4 l4 ⟨rfl, L4, f4⟩
        have ro4 := L4.o
        show W_X4_readAtom _ _ _ _ _ _ _ _ _
        simp only [w_X4_readAtom_114, w_X4_readAtom_115, w_X4_readAtom_116, pm_1i_c, pm_2i_c, pm_1l_c, pm_2l_c, pm_1a_c, pm_ia_c, pm_iia_c, pm_va_c, pm_cp_c, pm_k0_c, pm_k1_c, pm_k2_c, pm_k3_c, pm_s1_c, pm_s2_c, pm_s3_c, pm_s4_c, pm_ri_c, pm_ra_c, pm_rn_c, pm_rk_i, pm_rk_z, pm_rk_a, pm_vk_i, pm_vk_z, pm_vk_a, pm_cti, pm_ctr, pm_ldi_z, pm_ldi_s, pm_lda_z, pm_lda_s, pm_cat_n, pm_cat_i, pm_cat_r, pm_cat_l, pm_obj, pm_arr, pm_opt, pm_ird, pm_aln, List.getElem?_cons_zero, List.getElem?_cons_succ, List.set_cons_zero, List.set_cons_succ, List.length_cons, List.length_nil, List.length_set, true_and, and_true, Nat.add_zero, Nat.zero_add, Nat.le_refl, Nat.reduceAdd, Nat.reduceLT, Nat.reduceLeDiff, Nat.zero_le, not_false_eq_true, not_true_eq_false, false_implies, implies_true, true_implies, Nat.zero_lt_succ, Nat.lt_add_one, pm_tl_n, pm_tl_s, sc_uL, ro4, l4, l3, l2, q1]
        refine PM_use (c_R_readSum L4 D) ?_
        rintro v h5 l5 ⟨rfl, L5, f5⟩
        have ro5 := L5.o
        have lo5 := L5.l
        have so5 := L5.so
        show W_X4_readAtom _ _ _ _ _ _ _ _ _
        simp only [w_X4_readAtom_119, w_X4_readAtom_120, w_X4_readAtom_123, w_X4_readAtom_126, w_X4_readAtom_127, pm_1i_c, pm_2i_c, pm_1l_c, pm_2l_c, pm_1a_c, pm_ia_c, pm_iia_c, pm_va_c, pm_cp_c, pm_k0_c, pm_k1_c, pm_k2_c, pm_k3_c, pm_s1_c, pm_s2_c, pm_s3_c, pm_s4_c, pm_ri_c, pm_ra_c, pm_rn_c, pm_rk_i, pm_rk_z, pm_rk_a, pm_vk_i, pm_vk_z, pm_vk_a, pm_cti, pm_ctr, pm_ldi_z, pm_ldi_s, pm_lda_z, pm_lda_s, pm_cat_n, pm_cat_i, pm_cat_r, pm_cat_l, pm_obj, pm_arr, pm_opt, pm_ird, pm_aln, List.getElem?_cons_zero, List.getElem?_cons_succ, List.set_cons_zero, List.set_cons_succ, List.length_cons, List.length_nil, List.length_set, true_and, and_true, Nat.add_zero, Nat.zero_add, Nat.le_refl, Nat.reduceAdd, Nat.reduceLT, Nat.reduceLeDiff, Nat.zero_le, not_false_eq_true, not_true_eq_false, false_implies, implies_true, true_implies, Nat.zero_lt_succ, Nat.lt_add_one, pm_tl_n, pm_tl_s, sc_uL, ro5, lo5, so5, l5, l4, l3, l2, q1]
        refine PM_use (c_R_step L5 (rgF t.1 (rsF t.1 t.2.2 400 (-1) q)).1 (D + 2)) ?_
        rintro v h6 l6 ⟨rfl, L6, f6⟩
        show W_X4_readAtom _ _ _ _ _ _ _ _ _
        exact fin' h6 _ _ L6 e (by rw [l6, l5, l4, l3, l2, q1]; rfl) (((((q2.tr f2).tr f3).tr f4).tr f5).tr f6)
    show W_X4_readAtom _ _ _ _ _ _ _ _ _
    simp only [w_X4_readAtom_47, w_X4_readAtom_49, w_X4_readAtom_52, w_X4_readAtom_53, w_X4_readAtom_55, w_X4_readAtom_58, w_X4_readAtom_59, w_X4_readAtom_62, w_X4_readAtom_63, w_X4_readAtom_66, w_X4_readAtom_69, pm_1i_c, pm_2i_c, pm_1l_c, pm_2l_c, pm_1a_c, pm_ia_c, pm_iia_c, pm_va_c, pm_cp_c, pm_k0_c, pm_k1_c, pm_k2_c, pm_k3_c, pm_s1_c, pm_s2_c, pm_s3_c, pm_s4_c, pm_ri_c, pm_ra_c, pm_rn_c, pm_rk_i, pm_rk_z, pm_rk_a, pm_vk_i, pm_vk_z, pm_vk_a, pm_cti, pm_ctr, pm_ldi_z, pm_ldi_s, pm_lda_z, pm_lda_s, pm_cat_n, pm_cat_i, pm_cat_r, pm_cat_l, pm_obj, pm_arr, pm_opt, pm_ird, pm_aln, List.getElem?_cons_zero, List.getElem?_cons_succ, List.set_cons_zero, List.set_cons_succ, List.length_cons, List.length_nil, List.length_set, true_and, and_true, Nat.add_zero, Nat.zero_add, Nat.le_refl, Nat.reduceAdd, Nat.reduceLT, Nat.reduceLeDiff, Nat.zero_le, not_false_eq_true, not_true_eq_false, false_implies, implies_true, true_implies, Nat.zero_lt_succ, Nat.lt_add_one, pm_tl_n, pm_tl_s, sc_uL, ro, to, q1]
    refine ⟨fun c => rest (fun z => c z.1), fun c => ⟨fun c2 => ?_, fun c2 => ?_⟩⟩
    · refine rest (fun z => ?_)
      have z2 := z.2
      rw [ht, decide_eq_true_eq] at z2
      exact absurd c2 (nI_nlt (a := dp) (b := 8) z2 (by omega))
    · have c3 : top = true := by
        rw [ht]
        refine decide_eq_true ?_
        rcases Nat.lt_or_ge dp 8 with z | z
        · exact absurd (nI_lt (a := dp) (b := 8) z (by omega)) c2
        · exact z
      unfold atB at e
      rw [if_pos (show kiF t.1 q.1 = 40 ∧ top = true from ⟨c, c3⟩)] at e
      refine PM_use (c_R_fail L1 (D + 2)) ?_
      rintro v h2 l2 ⟨rfl, L2, f2⟩
      show W_X4_readAtom _ _ _ _ _ _ _ _ _
      simp only [w_X4_readAtom_72, pm_1i_c, pm_2i_c, pm_1l_c, pm_2l_c, pm_1a_c, pm_ia_c, pm_iia_c, pm_va_c, pm_cp_c, pm_k0_c, pm_k1_c, pm_k2_c, pm_k3_c, pm_s1_c, pm_s2_c, pm_s3_c, pm_s4_c, pm_ri_c, pm_ra_c, pm_rn_c, pm_rk_i, pm_rk_z, pm_rk_a, pm_vk_i, pm_vk_z, pm_vk_a, pm_cti, pm_ctr, pm_ldi_z, pm_ldi_s, pm_lda_z, pm_lda_s, pm_cat_n, pm_cat_i, pm_cat_r, pm_cat_l, pm_obj, pm_arr, pm_opt, pm_ird, pm_aln, List.getElem?_cons_zero, List.getElem?_cons_succ, List.set_cons_zero, List.set_cons_succ, List.length_cons, List.length_nil, List.length_set, true_and, and_true, Nat.add_zero, Nat.zero_add, Nat.le_refl, Nat.reduceAdd, Nat.reduceLT, Nat.reduceLeDiff, Nat.zero_le, not_false_eq_true, not_true_eq_false, false_implies, implies_true, true_implies, Nat.zero_lt_succ, Nat.lt_add_one, pm_tl_n, pm_tl_s, sc_uL]
      exact fin' h2 _ _ L2 e (by rw [l2, q1]; rfl) (q2.tr f2)
  have loop : ∀ f n, 400 - n = f → n ≤ 400 → ∀ (hh : pmH) (b : Bool) (q : LZ), lr_ hh R t tb q → ntF t.1 f b q = ntF t.1 400 false s → hh.length = h.length → frR h hh R → W_X4_readAtom (D + 3) (h.length + 0) 0 (fun v h' => v = none ∧ lr_ h' R t tb Z ∧ frR h h' R) 4 [some (.ref R), some (.int (nI dp)), some (.int (if b = true then 1 else 0)), some (.int (nI n))] [] hh 0 := by
    intro f
    induction f with
    | zero =>
      intro n hn hn2 hh b q L1 e q1 q2
      have e1 : ¬ nI n < 400 := nI_nlt (b := 400) (by omega) (by omega)
      rw [w_X4_readAtom_4]
      simp only [w_X4_readAtom_5, w_X4_readAtom_8, pm_1i_c, pm_2i_c, pm_1l_c, pm_2l_c, pm_1a_c, pm_ia_c, pm_iia_c, pm_va_c, pm_cp_c, pm_k0_c, pm_k1_c, pm_k2_c, pm_k3_c, pm_s1_c, pm_s2_c, pm_s3_c, pm_s4_c, pm_ri_c, pm_ra_c, pm_rn_c, pm_rk_i, pm_rk_z, pm_rk_a, pm_vk_i, pm_vk_z, pm_vk_a, pm_cti, pm_ctr, pm_ldi_z, pm_ldi_s, pm_lda_z, pm_lda_s, pm_cat_n, pm_cat_i, pm_cat_r, pm_cat_l, pm_obj, pm_arr, pm_opt, pm_ird, pm_aln, List.getElem?_cons_zero, List.getElem?_cons_succ, List.set_cons_zero, List.set_cons_succ, List.length_cons, List.length_nil, List.length_set, true_and, and_true, Nat.add_zero, Nat.zero_add, Nat.le_refl, Nat.reduceAdd, Nat.reduceLT, Nat.reduceLeDiff, Nat.zero_le, not_false_eq_true, not_true_eq_false, false_implies, implies_true, true_implies, Nat.zero_lt_succ, Nat.lt_add_one, e1]
      refine body b hh q _ L1 ?_ q1 q2
      rw [hZ]
      unfold atF
      rw [← e]
      rfl
    | succ f ih =>
      intro n hn hn2 hh b q L1 e q1 q2
      have e1 : nI n < 400 := nI_lt (b := 400) (by omega) (by omega)
      have ro := L1.o
      have to := L1.to
      rw [ntF_s] at e
      rw [w_X4_readAtom_4]
      simp only [w_X4_readAtom_5, w_X4_readAtom_8, w_X4_readAtom_11, w_X4_readAtom_12, w_X4_readAtom_15, w_X4_readAtom_18, pm_1i_c, pm_2i_c, pm_1l_c, pm_2l_c, pm_1a_c, pm_ia_c, pm_iia_c, pm_va_c, pm_cp_c, pm_k0_c, pm_k1_c, pm_k2_c, pm_k3_c, pm_s1_c, pm_s2_c, pm_s3_c, pm_s4_c, pm_ri_c, pm_ra_c, pm_rn_c, pm_rk_i, pm_rk_z, pm_rk_a, pm_vk_i, pm_vk_z, pm_vk_a, pm_cti, pm_ctr, pm_ldi_z, pm_ldi_s, pm_lda_z, pm_lda_s, pm_cat_n, pm_cat_i, pm_cat_r, pm_cat_l, pm_obj, pm_arr, pm_opt, pm_ird, pm_aln, List.getElem?_cons_zero, List.getElem?_cons_succ, List.set_cons_zero, List.set_cons_succ, List.length_cons, List.length_nil, List.length_set, true_and, and_true, Nat.add_zero, Nat.zero_add, Nat.le_refl, Nat.reduceAdd, Nat.reduceLT, Nat.reduceLeDiff, Nat.zero_le, not_false_eq_true, not_true_eq_false, false_implies, implies_true, true_implies, Nat.zero_lt_succ, Nat.lt_add_one, e1, ro, to, q1]
      refine PM_use (c_R_takes L1 266 (by decide) (D + 1)) ?_
      rintro v h2 l2 ⟨rfl, L2, f2⟩
      rcases Bool.eq_false_or_eq_true (taB t.1 266 q.1) with c2 | c2
      · rw [if_pos c2] at e
        simp only [c2, if_true]
        have K := ih (n + 1) (by omega) (by omega) h2 (!b) _ L2 e (by rw [l2, q1]; rfl) (q2.tr f2)
        cases b with
        | true =>
          show W_X4_readAtom _ _ _ _ _ _ _ _ _
          simp only [w_X4_readAtom_21, w_X4_readAtom_24, w_X4_readAtom_25, w_X4_readAtom_28, w_X4_readAtom_29, w_X4_readAtom_32, w_X4_readAtom_33, w_X4_readAtom_34, w_X4_readAtom_37, pm_1i_c, pm_2i_c, pm_1l_c, pm_2l_c, pm_1a_c, pm_ia_c, pm_iia_c, pm_va_c, pm_cp_c, pm_k0_c, pm_k1_c, pm_k2_c, pm_k3_c, pm_s1_c, pm_s2_c, pm_s3_c, pm_s4_c, pm_ri_c, pm_ra_c, pm_rn_c, pm_rk_i, pm_rk_z, pm_rk_a, pm_vk_i, pm_vk_z, pm_vk_a, pm_cti, pm_ctr, pm_ldi_z, pm_ldi_s, pm_lda_z, pm_lda_s, pm_cat_n, pm_cat_i, pm_cat_r, pm_cat_l, pm_obj, pm_arr, pm_opt, pm_ird, pm_aln, List.getElem?_cons_zero, List.getElem?_cons_succ, List.set_cons_zero, List.set_cons_succ, List.length_cons, List.length_nil, List.length_set, true_and, and_true, Nat.add_zero, Nat.zero_add, Nat.le_refl, Nat.reduceAdd, Nat.reduceLT, Nat.reduceLeDiff, Nat.zero_le, not_false_eq_true, not_true_eq_false, false_implies, implies_true, true_implies, Nat.zero_lt_succ, Nat.lt_add_one, pm_tl_n, pm_tl_s, sc_uL, if_true, show ¬ (1 : Int32) = 0 by decide, nI_1]
          exact K
        | false =>
          show W_X4_readAtom _ _ _ _ _ _ _ _ _
          simp only [w_X4_readAtom_21, w_X4_readAtom_24, w_X4_readAtom_25, w_X4_readAtom_28, w_X4_readAtom_29, w_X4_readAtom_32, w_X4_readAtom_33, w_X4_readAtom_34, w_X4_readAtom_37, pm_1i_c, pm_2i_c, pm_1l_c, pm_2l_c, pm_1a_c, pm_ia_c, pm_iia_c, pm_va_c, pm_cp_c, pm_k0_c, pm_k1_c, pm_k2_c, pm_k3_c, pm_s1_c, pm_s2_c, pm_s3_c, pm_s4_c, pm_ri_c, pm_ra_c, pm_rn_c, pm_rk_i, pm_rk_z, pm_rk_a, pm_vk_i, pm_vk_z, pm_vk_a, pm_cti, pm_ctr, pm_ldi_z, pm_ldi_s, pm_lda_z, pm_lda_s, pm_cat_n, pm_cat_i, pm_cat_r, pm_cat_l, pm_obj, pm_arr, pm_opt, pm_ird, pm_aln, List.getElem?_cons_zero, List.getElem?_cons_succ, List.set_cons_zero, List.set_cons_succ, List.length_cons, List.length_nil, List.length_set, true_and, and_true, Nat.add_zero, Nat.zero_add, Nat.le_refl, Nat.reduceAdd, Nat.reduceLT, Nat.reduceLeDiff, Nat.zero_le, not_false_eq_true, not_true_eq_false, false_implies, implies_true, true_implies, Nat.zero_lt_succ, Nat.lt_add_one, pm_tl_n, pm_tl_s, sc_uL, Bool.false_eq_true, if_false, show ¬ (1 : Int32) = 0 by decide, nI_1]
          exact K
      · rw [lTk_no c2] at L2
        rw [if_neg (by rw [c2]; decide)] at e
        simp only [c2, Bool.false_eq_true, if_false]
        show W_X4_readAtom _ _ _ _ _ _ _ _ _
        simp only [w_X4_readAtom_21, pm_1i_c, pm_2i_c, pm_1l_c, pm_2l_c, pm_1a_c, pm_ia_c, pm_iia_c, pm_va_c, pm_cp_c, pm_k0_c, pm_k1_c, pm_k2_c, pm_k3_c, pm_s1_c, pm_s2_c, pm_s3_c, pm_s4_c, pm_ri_c, pm_ra_c, pm_rn_c, pm_rk_i, pm_rk_z, pm_rk_a, pm_vk_i, pm_vk_z, pm_vk_a, pm_cti, pm_ctr, pm_ldi_z, pm_ldi_s, pm_lda_z, pm_lda_s, pm_cat_n, pm_cat_i, pm_cat_r, pm_cat_l, pm_obj, pm_arr, pm_opt, pm_ird, pm_aln, List.getElem?_cons_zero, List.getElem?_cons_succ, List.set_cons_zero, List.set_cons_succ, List.length_cons, List.length_nil, List.length_set, true_and, and_true, Nat.add_zero, Nat.zero_add, Nat.le_refl, Nat.reduceAdd, Nat.reduceLT, Nat.reduceLeDiff, Nat.zero_le, not_false_eq_true, not_true_eq_false, false_implies, implies_true, true_implies, Nat.zero_lt_succ, Nat.lt_add_one, pm_tl_n, pm_tl_s, sc_uL]
        refine body b h2 q _ L2 ?_ (by rw [l2, q1]; rfl) (q2.tr f2)
        rw [hZ]
        unfold atF
        rw [← e]
  simp only [w_X4_readAtom_0, w_X4_readAtom_1, w_X4_readAtom_2, w_X4_readAtom_3, pm_1i_c, pm_2i_c, pm_1l_c, pm_2l_c, pm_1a_c, pm_ia_c, pm_iia_c, pm_va_c, pm_cp_c, pm_k0_c, pm_k1_c, pm_k2_c, pm_k3_c, pm_s1_c, pm_s2_c, pm_s3_c, pm_s4_c, pm_ri_c, pm_ra_c, pm_rn_c, pm_rk_i, pm_rk_z, pm_rk_a, pm_vk_i, pm_vk_z, pm_vk_a, pm_cti, pm_ctr, pm_ldi_z, pm_ldi_s, pm_lda_z, pm_lda_s, pm_cat_n, pm_cat_i, pm_cat_r, pm_cat_l, pm_obj, pm_arr, pm_opt, pm_ird, pm_aln, List.getElem?_cons_zero, List.getElem?_cons_succ, List.set_cons_zero, List.set_cons_succ, List.length_cons, List.length_nil, List.length_set, true_and, and_true, Nat.add_zero, Nat.zero_add, Nat.le_refl, Nat.reduceAdd, Nat.reduceLT, Nat.reduceLeDiff, Nat.zero_le, not_false_eq_true, not_true_eq_false, false_implies, implies_true, true_implies, Nat.zero_lt_succ, Nat.lt_add_one]
  exact loop 400 0 rfl (by omega) h false s L rfl rfl frR.rf
theorem c_R_readAll (L : lr_ h R t tb s) {dp : Nat} {A : LZ → LZ} {D : Nat} (HA : ∀ (h : pmH) (s : LZ), lr_ h R t tb s → PM (D + 4) 37 [.ref R, .int (nI dp)] h (fun v h' => v = none ∧ lr_ h' R t tb (A s) ∧ frR h h' R)) : PM (D + 5) 36 [.ref R, .int (nI dp)] h (fun v h' => v = none ∧ lr_ h' R t tb (alF t.1 264 14 A s) ∧ frR h h' R) := by
  refine en_X4_readAll rfl rfl ?_
  have loop : ∀ f n, 400 - n = f → n ≤ 400 → ∀ (hh : pmH) (q : LZ), lr_ hh R t tb q → alG t.1 264 14 A f q = alF t.1 264 14 A s → hh.length = h.length → frR h hh R → W_X4_readAll (D + 4) (h.length + 0) 0 (fun v h' => v = none ∧ lr_ h' R t tb (alF t.1 264 14 A s) ∧ frR h h' R) 7 [some (.ref R), some (.int (nI dp)), some (.int (nI n))] [] hh 0 := by
    intro f
    induction f with
    | zero =>
      intro n hn hn2 hh q L1 e q1 q2
      have e1 : ¬ nI n < 400 := nI_nlt (b := 400) (by omega) (by omega)
      rw [w_X4_readAll_7]
      simp only [w_X4_readAll_8, w_X4_readAll_11, w_X4_readAll_14, w_X4_readAll_15, w_X4_readAll_18, w_X4_readAll_21, w_X4_readAll_24, w_X4_readAll_27, w_X4_readAll_28, w_X4_readAll_29, w_X4_readAll_32, w_X4_readAll_33, w_X4_readAll_36, w_X4_readAll_39, w_X4_readAll_41, w_X4_readAll_44, w_X4_readAll_47, w_X4_readAll_50, pm_1i_c, pm_2i_c, pm_1l_c, pm_2l_c, pm_1a_c, pm_ia_c, pm_iia_c, pm_va_c, pm_cp_c, pm_k0_c, pm_k1_c, pm_k2_c, pm_k3_c, pm_s1_c, pm_s2_c, pm_s3_c, pm_s4_c, pm_ri_c, pm_ra_c, pm_rn_c, pm_rk_i, pm_rk_z, pm_rk_a, pm_vk_i, pm_vk_z, pm_vk_a, pm_cti, pm_ctr, pm_ldi_z, pm_ldi_s, pm_lda_z, pm_lda_s, pm_cat_n, pm_cat_i, pm_cat_r, pm_cat_l, pm_obj, pm_arr, pm_opt, pm_ird, pm_aln, List.getElem?_cons_zero, List.getElem?_cons_succ, List.set_cons_zero, List.set_cons_succ, List.length_cons, List.length_nil, List.length_set, true_and, and_true, Nat.add_zero, Nat.zero_add, Nat.le_refl, Nat.reduceAdd, Nat.reduceLT, Nat.reduceLeDiff, Nat.zero_le, not_false_eq_true, not_true_eq_false, false_implies, implies_true, true_implies, Nat.zero_lt_succ, Nat.lt_add_one, e1, q1]
      rw [← e]
      exact ⟨L1, q2⟩
    | succ f ih =>
      intro n hn hn2 hh q L1 e q1 q2
      have e1 : nI n < 400 := nI_lt (b := 400) (by omega) (by omega)
      have ro := L1.o
      have to := L1.to
      rw [alG_s] at e
      rw [w_X4_readAll_7]
      simp only [w_X4_readAll_8, w_X4_readAll_11, w_X4_readAll_14, w_X4_readAll_15, w_X4_readAll_18, w_X4_readAll_21, pm_1i_c, pm_2i_c, pm_1l_c, pm_2l_c, pm_1a_c, pm_ia_c, pm_iia_c, pm_va_c, pm_cp_c, pm_k0_c, pm_k1_c, pm_k2_c, pm_k3_c, pm_s1_c, pm_s2_c, pm_s3_c, pm_s4_c, pm_ri_c, pm_ra_c, pm_rn_c, pm_rk_i, pm_rk_z, pm_rk_a, pm_vk_i, pm_vk_z, pm_vk_a, pm_cti, pm_ctr, pm_ldi_z, pm_ldi_s, pm_lda_z, pm_lda_s, pm_cat_n, pm_cat_i, pm_cat_r, pm_cat_l, pm_obj, pm_arr, pm_opt, pm_ird, pm_aln, List.getElem?_cons_zero, List.getElem?_cons_succ, List.set_cons_zero, List.set_cons_succ, List.length_cons, List.length_nil, List.length_set, true_and, and_true, Nat.add_zero, Nat.zero_add, Nat.le_refl, Nat.reduceAdd, Nat.reduceLT, Nat.reduceLeDiff, Nat.zero_le, not_false_eq_true, not_true_eq_false, false_implies, implies_true, true_implies, Nat.zero_lt_succ, Nat.lt_add_one, e1, ro, to, q1]
      refine PM_use (c_R_takes L1 264 (by decide) (D + 2)) ?_
      rintro v h2 l2 ⟨rfl, L2, f2⟩
      have ro2 := L2.o
      rcases Bool.eq_false_or_eq_true (taB t.1 264 q.1) with c2 | c2
      · rw [if_pos c2] at e
        simp only [c2, if_true]
        show W_X4_readAll _ _ _ _ _ _ _ _ _
        simp only [w_X4_readAll_24, w_X4_readAll_27, w_X4_readAll_28, w_X4_readAll_29, pm_1i_c, pm_2i_c, pm_1l_c, pm_2l_c, pm_1a_c, pm_ia_c, pm_iia_c, pm_va_c, pm_cp_c, pm_k0_c, pm_k1_c, pm_k2_c, pm_k3_c, pm_s1_c, pm_s2_c, pm_s3_c, pm_s4_c, pm_ri_c, pm_ra_c, pm_rn_c, pm_rk_i, pm_rk_z, pm_rk_a, pm_vk_i, pm_vk_z, pm_vk_a, pm_cti, pm_ctr, pm_ldi_z, pm_ldi_s, pm_lda_z, pm_lda_s, pm_cat_n, pm_cat_i, pm_cat_r, pm_cat_l, pm_obj, pm_arr, pm_opt, pm_ird, pm_aln, List.getElem?_cons_zero, List.getElem?_cons_succ, List.set_cons_zero, List.set_cons_succ, List.length_cons, List.length_nil, List.length_set, true_and, and_true, Nat.add_zero, Nat.zero_add, Nat.le_refl, Nat.reduceAdd, Nat.reduceLT, Nat.reduceLeDiff, Nat.zero_le, not_false_eq_true, not_true_eq_false, false_implies, implies_true, true_implies, Nat.zero_lt_succ, Nat.lt_add_one, pm_tl_n, pm_tl_s, sc_uL, ro2, l2, q1, show ¬ (1 : Int32) = 0 by decide]
        refine PM_use (HA h2 _ L2) ?_
        rintro v h3 l3 ⟨rfl, L3, f3⟩
        have ro3 := L3.o
        have lo3 := L3.l
        have so3 := L3.so
        show W_X4_readAll _ _ _ _ _ _ _ _ _
        simp only [w_X4_readAll_32, w_X4_readAll_33, w_X4_readAll_36, w_X4_readAll_39, w_X4_readAll_41, pm_1i_c, pm_2i_c, pm_1l_c, pm_2l_c, pm_1a_c, pm_ia_c, pm_iia_c, pm_va_c, pm_cp_c, pm_k0_c, pm_k1_c, pm_k2_c, pm_k3_c, pm_s1_c, pm_s2_c, pm_s3_c, pm_s4_c, pm_ri_c, pm_ra_c, pm_rn_c, pm_rk_i, pm_rk_z, pm_rk_a, pm_vk_i, pm_vk_z, pm_vk_a, pm_cti, pm_ctr, pm_ldi_z, pm_ldi_s, pm_lda_z, pm_lda_s, pm_cat_n, pm_cat_i, pm_cat_r, pm_cat_l, pm_obj, pm_arr, pm_opt, pm_ird, pm_aln, List.getElem?_cons_zero, List.getElem?_cons_succ, List.set_cons_zero, List.set_cons_succ, List.length_cons, List.length_nil, List.length_set, true_and, and_true, Nat.add_zero, Nat.zero_add, Nat.le_refl, Nat.reduceAdd, Nat.reduceLT, Nat.reduceLeDiff, Nat.zero_le, not_false_eq_true, not_true_eq_false, false_implies, implies_true, true_implies, Nat.zero_lt_succ, Nat.lt_add_one, pm_tl_n, pm_tl_s, sc_uL, ro3, lo3, so3, l3, l2, q1]
        refine PM_use (c_R_step L3 14 (D + 3)) ?_
        rintro v h4 l4 ⟨rfl, L4, f4⟩
        show W_X4_readAll _ _ _ _ _ _ _ _ _
        simp only [w_X4_readAll_44, w_X4_readAll_47, pm_1i_c, pm_2i_c, pm_1l_c, pm_2l_c, pm_1a_c, pm_ia_c, pm_iia_c, pm_va_c, pm_cp_c, pm_k0_c, pm_k1_c, pm_k2_c, pm_k3_c, pm_s1_c, pm_s2_c, pm_s3_c, pm_s4_c, pm_ri_c, pm_ra_c, pm_rn_c, pm_rk_i, pm_rk_z, pm_rk_a, pm_vk_i, pm_vk_z, pm_vk_a, pm_cti, pm_ctr, pm_ldi_z, pm_ldi_s, pm_lda_z, pm_lda_s, pm_cat_n, pm_cat_i, pm_cat_r, pm_cat_l, pm_obj, pm_arr, pm_opt, pm_ird, pm_aln, List.getElem?_cons_zero, List.getElem?_cons_succ, List.set_cons_zero, List.set_cons_succ, List.length_cons, List.length_nil, List.length_set, true_and, and_true, Nat.add_zero, Nat.zero_add, Nat.le_refl, Nat.reduceAdd, Nat.reduceLT, Nat.reduceLeDiff, Nat.zero_le, not_false_eq_true, not_true_eq_false, false_implies, implies_true, true_implies, Nat.zero_lt_succ, Nat.lt_add_one, pm_tl_n, pm_tl_s, sc_uL, nI_1]
        exact ih (n + 1) (by omega) (by omega) h4 _ L4 e (by rw [l4, l3, l2, q1]; rfl) (((q2.tr f2).tr f3).tr f4)
      · rw [lTk_no c2] at L2
        rw [if_neg (by rw [c2]; decide)] at e
        simp only [c2, Bool.false_eq_true, if_false]
        show W_X4_readAll _ _ _ _ _ _ _ _ _
        simp only [w_X4_readAll_24, w_X4_readAll_50, pm_1i_c, pm_2i_c, pm_1l_c, pm_2l_c, pm_1a_c, pm_ia_c, pm_iia_c, pm_va_c, pm_cp_c, pm_k0_c, pm_k1_c, pm_k2_c, pm_k3_c, pm_s1_c, pm_s2_c, pm_s3_c, pm_s4_c, pm_ri_c, pm_ra_c, pm_rn_c, pm_rk_i, pm_rk_z, pm_rk_a, pm_vk_i, pm_vk_z, pm_vk_a, pm_cti, pm_ctr, pm_ldi_z, pm_ldi_s, pm_lda_z, pm_lda_s, pm_cat_n, pm_cat_i, pm_cat_r, pm_cat_l, pm_obj, pm_arr, pm_opt, pm_ird, pm_aln, List.getElem?_cons_zero, List.getElem?_cons_succ, List.set_cons_zero, List.set_cons_succ, List.length_cons, List.length_nil, List.length_set, true_and, and_true, Nat.add_zero, Nat.zero_add, Nat.le_refl, Nat.reduceAdd, Nat.reduceLT, Nat.reduceLeDiff, Nat.zero_le, not_false_eq_true, not_true_eq_false, false_implies, implies_true, true_implies, Nat.zero_lt_succ, Nat.lt_add_one, pm_tl_n, pm_tl_s, sc_uL, l2, q1]
        rw [← e]
        exact ⟨L2, q2.tr f2⟩
  have ro := L.o
  simp only [w_X4_readAll_0, w_X4_readAll_1, w_X4_readAll_2, pm_1i_c, pm_2i_c, pm_1l_c, pm_2l_c, pm_1a_c, pm_ia_c, pm_iia_c, pm_va_c, pm_cp_c, pm_k0_c, pm_k1_c, pm_k2_c, pm_k3_c, pm_s1_c, pm_s2_c, pm_s3_c, pm_s4_c, pm_ri_c, pm_ra_c, pm_rn_c, pm_rk_i, pm_rk_z, pm_rk_a, pm_vk_i, pm_vk_z, pm_vk_a, pm_cti, pm_ctr, pm_ldi_z, pm_ldi_s, pm_lda_z, pm_lda_s, pm_cat_n, pm_cat_i, pm_cat_r, pm_cat_l, pm_obj, pm_arr, pm_opt, pm_ird, pm_aln, List.getElem?_cons_zero, List.getElem?_cons_succ, List.set_cons_zero, List.set_cons_succ, List.length_cons, List.length_nil, List.length_set, true_and, and_true, Nat.add_zero, Nat.zero_add, Nat.le_refl, Nat.reduceAdd, Nat.reduceLT, Nat.reduceLeDiff, Nat.zero_le, not_false_eq_true, not_true_eq_false, false_implies, implies_true, true_implies, Nat.zero_lt_succ, Nat.lt_add_one, ro]
  refine PM_use (HA h s L) ?_
  rintro v h1 l1 ⟨rfl, L1, f1⟩
  show W_X4_readAll _ _ _ _ _ _ _ _ _
  simp only [w_X4_readAll_5, w_X4_readAll_6, pm_1i_c, pm_2i_c, pm_1l_c, pm_2l_c, pm_1a_c, pm_ia_c, pm_iia_c, pm_va_c, pm_cp_c, pm_k0_c, pm_k1_c, pm_k2_c, pm_k3_c, pm_s1_c, pm_s2_c, pm_s3_c, pm_s4_c, pm_ri_c, pm_ra_c, pm_rn_c, pm_rk_i, pm_rk_z, pm_rk_a, pm_vk_i, pm_vk_z, pm_vk_a, pm_cti, pm_ctr, pm_ldi_z, pm_ldi_s, pm_lda_z, pm_lda_s, pm_cat_n, pm_cat_i, pm_cat_r, pm_cat_l, pm_obj, pm_arr, pm_opt, pm_ird, pm_aln, List.getElem?_cons_zero, List.getElem?_cons_succ, List.set_cons_zero, List.set_cons_succ, List.length_cons, List.length_nil, List.length_set, true_and, and_true, Nat.add_zero, Nat.zero_add, Nat.le_refl, Nat.reduceAdd, Nat.reduceLT, Nat.reduceLeDiff, Nat.zero_le, not_false_eq_true, not_true_eq_false, false_implies, implies_true, true_implies, Nat.zero_lt_succ, Nat.lt_add_one, pm_tl_n, pm_tl_s, sc_uL]
  exact loop 400 0 rfl (by omega) h1 _ L1 rfl (by rw [l1]; rfl) f1
theorem c_R_readEither (L : lr_ h R t tb s) {dp : Nat} {A : LZ → LZ} {D : Nat} (HA : ∀ (h : pmH) (s : LZ), lr_ h R t tb s → PM (D + 5) 36 [.ref R, .int (nI dp)] h (fun v h' => v = none ∧ lr_ h' R t tb (A s) ∧ frR h h' R)) : PM (D + 6) 35 [.ref R, .int (nI dp)] h (fun v h' => v = none ∧ lr_ h' R t tb (alF t.1 265 15 A s) ∧ frR h h' R) := by
  refine en_X4_readEither rfl rfl ?_
  have loop : ∀ f n, 400 - n = f → n ≤ 400 → ∀ (hh : pmH) (q : LZ), lr_ hh R t tb q → alG t.1 265 15 A f q = alF t.1 265 15 A s → hh.length = h.length → frR h hh R → W_X4_readEither (D + 5) (h.length + 0) 0 (fun v h' => v = none ∧ lr_ h' R t tb (alF t.1 265 15 A s) ∧ frR h h' R) 7 [some (.ref R), some (.int (nI dp)), some (.int (nI n))] [] hh 0 := by
    intro f
    induction f with
    | zero =>
      intro n hn hn2 hh q L1 e q1 q2
      have e1 : ¬ nI n < 400 := nI_nlt (b := 400) (by omega) (by omega)
      rw [w_X4_readEither_7]
      simp only [w_X4_readEither_8, w_X4_readEither_11, w_X4_readEither_14, w_X4_readEither_15, w_X4_readEither_18, w_X4_readEither_21, w_X4_readEither_24, w_X4_readEither_27, w_X4_readEither_28, w_X4_readEither_29, w_X4_readEither_32, w_X4_readEither_33, w_X4_readEither_36, w_X4_readEither_39, w_X4_readEither_41, w_X4_readEither_44, w_X4_readEither_47, w_X4_readEither_50, pm_1i_c, pm_2i_c, pm_1l_c, pm_2l_c, pm_1a_c, pm_ia_c, pm_iia_c, pm_va_c, pm_cp_c, pm_k0_c, pm_k1_c, pm_k2_c, pm_k3_c, pm_s1_c, pm_s2_c, pm_s3_c, pm_s4_c, pm_ri_c, pm_ra_c, pm_rn_c, pm_rk_i, pm_rk_z, pm_rk_a, pm_vk_i, pm_vk_z, pm_vk_a, pm_cti, pm_ctr, pm_ldi_z, pm_ldi_s, pm_lda_z, pm_lda_s, pm_cat_n, pm_cat_i, pm_cat_r, pm_cat_l, pm_obj, pm_arr, pm_opt, pm_ird, pm_aln, List.getElem?_cons_zero, List.getElem?_cons_succ, List.set_cons_zero, List.set_cons_succ, List.length_cons, List.length_nil, List.length_set, true_and, and_true, Nat.add_zero, Nat.zero_add, Nat.le_refl, Nat.reduceAdd, Nat.reduceLT, Nat.reduceLeDiff, Nat.zero_le, not_false_eq_true, not_true_eq_false, false_implies, implies_true, true_implies, Nat.zero_lt_succ, Nat.lt_add_one, e1, q1]
      rw [← e]
      exact ⟨L1, q2⟩
    | succ f ih =>
      intro n hn hn2 hh q L1 e q1 q2
      have e1 : nI n < 400 := nI_lt (b := 400) (by omega) (by omega)
      have ro := L1.o
      have to := L1.to
      rw [alG_s] at e
      rw [w_X4_readEither_7]
      simp only [w_X4_readEither_8, w_X4_readEither_11, w_X4_readEither_14, w_X4_readEither_15, w_X4_readEither_18, w_X4_readEither_21, pm_1i_c, pm_2i_c, pm_1l_c, pm_2l_c, pm_1a_c, pm_ia_c, pm_iia_c, pm_va_c, pm_cp_c, pm_k0_c, pm_k1_c, pm_k2_c, pm_k3_c, pm_s1_c, pm_s2_c, pm_s3_c, pm_s4_c, pm_ri_c, pm_ra_c, pm_rn_c, pm_rk_i, pm_rk_z, pm_rk_a, pm_vk_i, pm_vk_z, pm_vk_a, pm_cti, pm_ctr, pm_ldi_z, pm_ldi_s, pm_lda_z, pm_lda_s, pm_cat_n, pm_cat_i, pm_cat_r, pm_cat_l, pm_obj, pm_arr, pm_opt, pm_ird, pm_aln, List.getElem?_cons_zero, List.getElem?_cons_succ, List.set_cons_zero, List.set_cons_succ, List.length_cons, List.length_nil, List.length_set, true_and, and_true, Nat.add_zero, Nat.zero_add, Nat.le_refl, Nat.reduceAdd, Nat.reduceLT, Nat.reduceLeDiff, Nat.zero_le, not_false_eq_true, not_true_eq_false, false_implies, implies_true, true_implies, Nat.zero_lt_succ, Nat.lt_add_one, e1, ro, to, q1]
      refine PM_use (c_R_takes L1 265 (by decide) (D + 3)) ?_
      rintro v h2 l2 ⟨rfl, L2, f2⟩
      have ro2 := L2.o
      rcases Bool.eq_false_or_eq_true (taB t.1 265 q.1) with c2 | c2
      · rw [if_pos c2] at e
        simp only [c2, if_true]
        show W_X4_readEither _ _ _ _ _ _ _ _ _
        simp only [w_X4_readEither_24, w_X4_readEither_27, w_X4_readEither_28, w_X4_readEither_29, pm_1i_c, pm_2i_c, pm_1l_c, pm_2l_c, pm_1a_c, pm_ia_c, pm_iia_c, pm_va_c, pm_cp_c, pm_k0_c, pm_k1_c, pm_k2_c, pm_k3_c, pm_s1_c, pm_s2_c, pm_s3_c, pm_s4_c, pm_ri_c, pm_ra_c, pm_rn_c, pm_rk_i, pm_rk_z, pm_rk_a, pm_vk_i, pm_vk_z, pm_vk_a, pm_cti, pm_ctr, pm_ldi_z, pm_ldi_s, pm_lda_z, pm_lda_s, pm_cat_n, pm_cat_i, pm_cat_r, pm_cat_l, pm_obj, pm_arr, pm_opt, pm_ird, pm_aln, List.getElem?_cons_zero, List.getElem?_cons_succ, List.set_cons_zero, List.set_cons_succ, List.length_cons, List.length_nil, List.length_set, true_and, and_true, Nat.add_zero, Nat.zero_add, Nat.le_refl, Nat.reduceAdd, Nat.reduceLT, Nat.reduceLeDiff, Nat.zero_le, not_false_eq_true, not_true_eq_false, false_implies, implies_true, true_implies, Nat.zero_lt_succ, Nat.lt_add_one, pm_tl_n, pm_tl_s, sc_uL, ro2, l2, q1, show ¬ (1 : Int32) = 0 by decide]
        refine PM_use (HA h2 _ L2) ?_
        rintro v h3 l3 ⟨rfl, L3, f3⟩
        have ro3 := L3.o
        have lo3 := L3.l
        have so3 := L3.so
        show W_X4_readEither _ _ _ _ _ _ _ _ _
        simp only [w_X4_readEither_32, w_X4_readEither_33, w_X4_readEither_36, w_X4_readEither_39, w_X4_readEither_41, pm_1i_c, pm_2i_c, pm_1l_c, pm_2l_c, pm_1a_c, pm_ia_c, pm_iia_c, pm_va_c, pm_cp_c, pm_k0_c, pm_k1_c, pm_k2_c, pm_k3_c, pm_s1_c, pm_s2_c, pm_s3_c, pm_s4_c, pm_ri_c, pm_ra_c, pm_rn_c, pm_rk_i, pm_rk_z, pm_rk_a, pm_vk_i, pm_vk_z, pm_vk_a, pm_cti, pm_ctr, pm_ldi_z, pm_ldi_s, pm_lda_z, pm_lda_s, pm_cat_n, pm_cat_i, pm_cat_r, pm_cat_l, pm_obj, pm_arr, pm_opt, pm_ird, pm_aln, List.getElem?_cons_zero, List.getElem?_cons_succ, List.set_cons_zero, List.set_cons_succ, List.length_cons, List.length_nil, List.length_set, true_and, and_true, Nat.add_zero, Nat.zero_add, Nat.le_refl, Nat.reduceAdd, Nat.reduceLT, Nat.reduceLeDiff, Nat.zero_le, not_false_eq_true, not_true_eq_false, false_implies, implies_true, true_implies, Nat.zero_lt_succ, Nat.lt_add_one, pm_tl_n, pm_tl_s, sc_uL, ro3, lo3, so3, l3, l2, q1]
        refine PM_use (c_R_step L3 15 (D + 4)) ?_
        rintro v h4 l4 ⟨rfl, L4, f4⟩
        show W_X4_readEither _ _ _ _ _ _ _ _ _
        simp only [w_X4_readEither_44, w_X4_readEither_47, pm_1i_c, pm_2i_c, pm_1l_c, pm_2l_c, pm_1a_c, pm_ia_c, pm_iia_c, pm_va_c, pm_cp_c, pm_k0_c, pm_k1_c, pm_k2_c, pm_k3_c, pm_s1_c, pm_s2_c, pm_s3_c, pm_s4_c, pm_ri_c, pm_ra_c, pm_rn_c, pm_rk_i, pm_rk_z, pm_rk_a, pm_vk_i, pm_vk_z, pm_vk_a, pm_cti, pm_ctr, pm_ldi_z, pm_ldi_s, pm_lda_z, pm_lda_s, pm_cat_n, pm_cat_i, pm_cat_r, pm_cat_l, pm_obj, pm_arr, pm_opt, pm_ird, pm_aln, List.getElem?_cons_zero, List.getElem?_cons_succ, List.set_cons_zero, List.set_cons_succ, List.length_cons, List.length_nil, List.length_set, true_and, and_true, Nat.add_zero, Nat.zero_add, Nat.le_refl, Nat.reduceAdd, Nat.reduceLT, Nat.reduceLeDiff, Nat.zero_le, not_false_eq_true, not_true_eq_false, false_implies, implies_true, true_implies, Nat.zero_lt_succ, Nat.lt_add_one, pm_tl_n, pm_tl_s, sc_uL, nI_1]
        exact ih (n + 1) (by omega) (by omega) h4 _ L4 e (by rw [l4, l3, l2, q1]; rfl) (((q2.tr f2).tr f3).tr f4)
      · rw [lTk_no c2] at L2
        rw [if_neg (by rw [c2]; decide)] at e
        simp only [c2, Bool.false_eq_true, if_false]
        show W_X4_readEither _ _ _ _ _ _ _ _ _
        simp only [w_X4_readEither_24, w_X4_readEither_50, pm_1i_c, pm_2i_c, pm_1l_c, pm_2l_c, pm_1a_c, pm_ia_c, pm_iia_c, pm_va_c, pm_cp_c, pm_k0_c, pm_k1_c, pm_k2_c, pm_k3_c, pm_s1_c, pm_s2_c, pm_s3_c, pm_s4_c, pm_ri_c, pm_ra_c, pm_rn_c, pm_rk_i, pm_rk_z, pm_rk_a, pm_vk_i, pm_vk_z, pm_vk_a, pm_cti, pm_ctr, pm_ldi_z, pm_ldi_s, pm_lda_z, pm_lda_s, pm_cat_n, pm_cat_i, pm_cat_r, pm_cat_l, pm_obj, pm_arr, pm_opt, pm_ird, pm_aln, List.getElem?_cons_zero, List.getElem?_cons_succ, List.set_cons_zero, List.set_cons_succ, List.length_cons, List.length_nil, List.length_set, true_and, and_true, Nat.add_zero, Nat.zero_add, Nat.le_refl, Nat.reduceAdd, Nat.reduceLT, Nat.reduceLeDiff, Nat.zero_le, not_false_eq_true, not_true_eq_false, false_implies, implies_true, true_implies, Nat.zero_lt_succ, Nat.lt_add_one, pm_tl_n, pm_tl_s, sc_uL, l2, q1]
        rw [← e]
        exact ⟨L2, q2.tr f2⟩
  have ro := L.o
  simp only [w_X4_readEither_0, w_X4_readEither_1, w_X4_readEither_2, pm_1i_c, pm_2i_c, pm_1l_c, pm_2l_c, pm_1a_c, pm_ia_c, pm_iia_c, pm_va_c, pm_cp_c, pm_k0_c, pm_k1_c, pm_k2_c, pm_k3_c, pm_s1_c, pm_s2_c, pm_s3_c, pm_s4_c, pm_ri_c, pm_ra_c, pm_rn_c, pm_rk_i, pm_rk_z, pm_rk_a, pm_vk_i, pm_vk_z, pm_vk_a, pm_cti, pm_ctr, pm_ldi_z, pm_ldi_s, pm_lda_z, pm_lda_s, pm_cat_n, pm_cat_i, pm_cat_r, pm_cat_l, pm_obj, pm_arr, pm_opt, pm_ird, pm_aln, List.getElem?_cons_zero, List.getElem?_cons_succ, List.set_cons_zero, List.set_cons_succ, List.length_cons, List.length_nil, List.length_set, true_and, and_true, Nat.add_zero, Nat.zero_add, Nat.le_refl, Nat.reduceAdd, Nat.reduceLT, Nat.reduceLeDiff, Nat.zero_le, not_false_eq_true, not_true_eq_false, false_implies, implies_true, true_implies, Nat.zero_lt_succ, Nat.lt_add_one, ro]
  refine PM_use (HA h s L) ?_
  rintro v h1 l1 ⟨rfl, L1, f1⟩
  show W_X4_readEither _ _ _ _ _ _ _ _ _
  simp only [w_X4_readEither_5, w_X4_readEither_6, pm_1i_c, pm_2i_c, pm_1l_c, pm_2l_c, pm_1a_c, pm_ia_c, pm_iia_c, pm_va_c, pm_cp_c, pm_k0_c, pm_k1_c, pm_k2_c, pm_k3_c, pm_s1_c, pm_s2_c, pm_s3_c, pm_s4_c, pm_ri_c, pm_ra_c, pm_rn_c, pm_rk_i, pm_rk_z, pm_rk_a, pm_vk_i, pm_vk_z, pm_vk_a, pm_cti, pm_ctr, pm_ldi_z, pm_ldi_s, pm_lda_z, pm_lda_s, pm_cat_n, pm_cat_i, pm_cat_r, pm_cat_l, pm_obj, pm_arr, pm_opt, pm_ird, pm_aln, List.getElem?_cons_zero, List.getElem?_cons_succ, List.set_cons_zero, List.set_cons_succ, List.length_cons, List.length_nil, List.length_set, true_and, and_true, Nat.add_zero, Nat.zero_add, Nat.le_refl, Nat.reduceAdd, Nat.reduceLT, Nat.reduceLeDiff, Nat.zero_le, not_false_eq_true, not_true_eq_false, false_implies, implies_true, true_implies, Nat.zero_lt_succ, Nat.lt_add_one, pm_tl_n, pm_tl_s, sc_uL]
  exact loop 400 0 rfl (by omega) h1 _ L1 rfl (by rw [l1]; rfl) f1
theorem c_R_LE (d : Nat) : ∀ e, e ≤ 8 → ∀ (h : pmH) (s : LZ), lr_ h R t tb s → PM (d + 3 * e + 6) 35 [.ref R, .int (nI (8 - e))] h (fun v h' => v = none ∧ lr_ h' R t tb (LE t.1 t.2.2 e s) ∧ frR h h' R)
  | 0, _, h, s, L => c_R_readEither L (D := d) (fun h s L => c_R_readAll L (fun h s L => c_R_readAtom L (dp := 8) (by omega) (top := true) (by decide) (E := id) (fun z => absurd z (by omega))))
  | e + 1, he, h, s, L => by
    have I := c_R_LE d e (by omega)
    have e8 : 8 - (e + 1) + 1 = 8 - e := by omega
    have K := c_R_readEither L (D := d + 3 * e + 3) (dp := 8 - (e + 1)) (fun h s L => c_R_readAll L (fun h s L => c_R_readAtom L (dp := 8 - (e + 1)) (by omega) (top := false) (by rw [eq_comm, decide_eq_false_iff_not]; omega) (E := LE t.1 t.2.2 e) (fun z h s L => by
      rw [e8]
      exact I h s L)))
    have ed : d + 3 * (e + 1) + 6 = d + 3 * e + 3 + 6 := by omega
    rw [ed]
    exact K
def lr0 (h : pmH) (R : Nat) (p : Int32) (cs : List Int32) : Prop := h[R]? = some (.inr (4, [.ref (R + 1), .ref (R + 8)])) ∧ (∃ t tb ix ft, tk_ h (R + 1) t tb ix ft) ∧ h[R + 8]? = some (.inr (3, [.ref (R + 8 + 1), .ref (R + 8 + 3), .int p])) ∧ rw_ h (R + 8 + 1) 400 cs ∧ ∃ st, rw_ h (R + 8 + 3) 60 st
/-- the law's text read: the state behind it, and what 'read' answers -/
def lwS (bs : List Int32) : LZ := LE (cuF bs 4).1 (cuF bs 4).2.2 8 ((0, -1), 0, [])
def lwV (bs : List Int32) : Int32 := fbF (cuF bs 4).2.1 (nI bs.length) (neF (cuF bs 4).1 (-1) (lwS bs).1).2
theorem c_R_read {p : Int32} {cs bs : List Int32} {P : Nat} (L : lr0 h R p cs) (T : rw_ h P 400 bs) (nd : P + 1 < R ∨ R + 12 < P) (d : Nat) : PM (d + 31) 34 [.ref R, .ref P] h (fun v h' => v = some (.int (lwV bs)) ∧ lr0 h' R (nI (lwS bs).2.1) ((lwS bs).2.2.take 400) ∧ (lwS bs).2.1 ≤ 60 ∧ frR h h' R) := by
  obtain ⟨ro, ⟨t0, tb0, ix0, ft0, T0⟩, lo, so, st, sk⟩ := L
  refine en_X4_read rfl rfl ?_
  have to := T0.1
  simp only [w_X4_read_0, w_X4_read_1, w_X4_read_4, w_X4_read_5, w_X4_read_6, pm_1i_c, pm_2i_c, pm_1l_c, pm_2l_c, pm_1a_c, pm_ia_c, pm_iia_c, pm_va_c, pm_cp_c, pm_k0_c, pm_k1_c, pm_k2_c, pm_k3_c, pm_s1_c, pm_s2_c, pm_s3_c, pm_s4_c, pm_ri_c, pm_ra_c, pm_rn_c, pm_rk_i, pm_rk_z, pm_rk_a, pm_vk_i, pm_vk_z, pm_vk_a, pm_cti, pm_ctr, pm_ldi_z, pm_ldi_s, pm_lda_z, pm_lda_s, pm_cat_n, pm_cat_i, pm_cat_r, pm_cat_l, pm_obj, pm_arr, pm_opt, pm_ird, pm_aln, List.getElem?_cons_zero, List.getElem?_cons_succ, List.set_cons_zero, List.set_cons_succ, List.length_cons, List.length_nil, List.length_set, true_and, and_true, Nat.add_zero, Nat.zero_add, Nat.le_refl, Nat.reduceAdd, Nat.reduceLT, Nat.reduceLeDiff, Nat.zero_le, not_false_eq_true, not_true_eq_false, false_implies, implies_true, true_implies, Nat.zero_lt_succ, Nat.lt_add_one, ro, to]
  refine PM_use (c_T_cutUp T0 T (by omega) 4 (d + 25)) ?_
  rintro v h1 l1 ⟨rfl, T1, f1⟩
  have ro1 := (f1 R (by omega)).trans ro
  have lo1 := (f1 (R + 8) (by omega)).trans lo
  have S1 : rw_ h1 (R + 8 + 1) 400 cs := so.kept (f1 _ (by omega)) (f1 _ (by omega))
  have so1 := S1.o
  show W_X4_read _ _ _ _ _ _ _ _ _
  simp only [w_X4_read_9, w_X4_read_10, w_X4_read_13, w_X4_read_16, w_X4_read_17, pm_1i_c, pm_2i_c, pm_1l_c, pm_2l_c, pm_1a_c, pm_ia_c, pm_iia_c, pm_va_c, pm_cp_c, pm_k0_c, pm_k1_c, pm_k2_c, pm_k3_c, pm_s1_c, pm_s2_c, pm_s3_c, pm_s4_c, pm_ri_c, pm_ra_c, pm_rn_c, pm_rk_i, pm_rk_z, pm_rk_a, pm_vk_i, pm_vk_z, pm_vk_a, pm_cti, pm_ctr, pm_ldi_z, pm_ldi_s, pm_lda_z, pm_lda_s, pm_cat_n, pm_cat_i, pm_cat_r, pm_cat_l, pm_obj, pm_arr, pm_opt, pm_ird, pm_aln, List.getElem?_cons_zero, List.getElem?_cons_succ, List.set_cons_zero, List.set_cons_succ, List.length_cons, List.length_nil, List.length_set, true_and, and_true, Nat.add_zero, Nat.zero_add, Nat.le_refl, Nat.reduceAdd, Nat.reduceLT, Nat.reduceLeDiff, Nat.zero_le, not_false_eq_true, not_true_eq_false, false_implies, implies_true, true_implies, Nat.zero_lt_succ, Nat.lt_add_one, pm_tl_n, pm_tl_s, sc_uL, ro1, lo1, so1, l1]
  refine PM_use (c_Row_cut0 S1 (d + 29)) ?_
  rintro v h2 l2 ⟨rfl, S2, f2⟩
  have ro2 := (f2 R (by omega) (by omega)).trans ro1
  have lo2 := (f2 (R + 8) (by omega) (by omega)).trans lo1
  have K : ∃ h3, h2.set (R + 8) (.inr (3, [.ref (R + 8 + 1), .ref (R + 8 + 3), .int 0])) = h3 ∧ h3.length = h2.length ∧ frR h h3 R ∧ lr_ h3 R (cuF bs 4) (nI bs.length) ((0, -1), 0, []) := by
    refine ⟨_, rfl, List.length_set, fun i hi => ?_, ?_, ?_, ?_, ?_, ⟨st, ?_⟩, Nat.zero_le _, Nat.zero_le _⟩
    · rw [hset_n (by omega), f2 i (by omega) (by omega), f1 i (by omega)]
    · rw [hset_n (by omega)]
      exact ro2
    · have g : ∀ i, R + 1 ≤ i → i < R + 8 → (h2.set (R + 8) (.inr (3, [.ref (R + 8 + 1), .ref (R + 8 + 3), .int 0])))[i]? = h1[i]? := fun i a b => by rw [hset_n (by omega), f2 i (by omega) (by omega)]
      exact ⟨(g _ (by omega) (by omega)).trans T1.1, T1.2.1.kept (g _ (by omega) (by omega)) (g _ (by omega) (by omega)), T1.2.2.1.kept (g _ (by omega) (by omega)) (g _ (by omega) (by omega)), T1.2.2.2.kept (g _ (by omega) (by omega)) (g _ (by omega) (by omega))⟩
    · rw [hset_s, lo2]
      rfl
    · exact S2.kept (hset_n (by omega)) (hset_n (by omega))
    · exact sk.kept (by rw [hset_n (by omega), f2 _ (by omega) (by omega), f1 _ (by omega)]) (by rw [hset_n (by omega), f2 _ (by omega) (by omega), f1 _ (by omega)])
  obtain ⟨h3, E3, l3, f3, L3⟩ := K
  show W_X4_read _ _ _ _ _ _ _ _ _
  simp only [w_X4_read_20, w_X4_read_21, w_X4_read_24, w_X4_read_25, pm_1i_c, pm_2i_c, pm_1l_c, pm_2l_c, pm_1a_c, pm_ia_c, pm_iia_c, pm_va_c, pm_cp_c, pm_k0_c, pm_k1_c, pm_k2_c, pm_k3_c, pm_s1_c, pm_s2_c, pm_s3_c, pm_s4_c, pm_ri_c, pm_ra_c, pm_rn_c, pm_rk_i, pm_rk_z, pm_rk_a, pm_vk_i, pm_vk_z, pm_vk_a, pm_cti, pm_ctr, pm_ldi_z, pm_ldi_s, pm_lda_z, pm_lda_s, pm_cat_n, pm_cat_i, pm_cat_r, pm_cat_l, pm_obj, pm_arr, pm_opt, pm_ird, pm_aln, List.getElem?_cons_zero, List.getElem?_cons_succ, List.set_cons_zero, List.set_cons_succ, List.length_cons, List.length_nil, List.length_set, true_and, and_true, Nat.add_zero, Nat.zero_add, Nat.le_refl, Nat.reduceAdd, Nat.reduceLT, Nat.reduceLeDiff, Nat.zero_le, not_false_eq_true, not_true_eq_false, false_implies, implies_true, true_implies, Nat.zero_lt_succ, Nat.lt_add_one, pm_tl_n, pm_tl_s, sc_uL, ro2, lo2, l2, l1]
  rw [E3]
  have ro3 := L3.o
  simp only [w_X4_read_28, w_X4_read_29, w_X4_read_30, pm_1i_c, pm_2i_c, pm_1l_c, pm_2l_c, pm_1a_c, pm_ia_c, pm_iia_c, pm_va_c, pm_cp_c, pm_k0_c, pm_k1_c, pm_k2_c, pm_k3_c, pm_s1_c, pm_s2_c, pm_s3_c, pm_s4_c, pm_ri_c, pm_ra_c, pm_rn_c, pm_rk_i, pm_rk_z, pm_rk_a, pm_vk_i, pm_vk_z, pm_vk_a, pm_cti, pm_ctr, pm_ldi_z, pm_ldi_s, pm_lda_z, pm_lda_s, pm_cat_n, pm_cat_i, pm_cat_r, pm_cat_l, pm_obj, pm_arr, pm_opt, pm_ird, pm_aln, List.getElem?_cons_zero, List.getElem?_cons_succ, List.set_cons_zero, List.set_cons_succ, List.length_cons, List.length_nil, List.length_set, true_and, and_true, Nat.add_zero, Nat.zero_add, Nat.le_refl, Nat.reduceAdd, Nat.reduceLT, Nat.reduceLeDiff, Nat.zero_le, not_false_eq_true, not_true_eq_false, false_implies, implies_true, true_implies, Nat.zero_lt_succ, Nat.lt_add_one, ro3, l3, l2, l1]
  have I := c_R_LE d 8 (by omega) h3 _ L3
  refine PM_use (I) ?_
  rintro v h4 l4 ⟨rfl, L4, f4⟩
  have ro4 := L4.o
  have to4 := L4.to
  show W_X4_read _ _ _ _ _ _ _ _ _
  simp only [w_X4_read_33, w_X4_read_34, w_X4_read_37, w_X4_read_38, pm_1i_c, pm_2i_c, pm_1l_c, pm_2l_c, pm_1a_c, pm_ia_c, pm_iia_c, pm_va_c, pm_cp_c, pm_k0_c, pm_k1_c, pm_k2_c, pm_k3_c, pm_s1_c, pm_s2_c, pm_s3_c, pm_s4_c, pm_ri_c, pm_ra_c, pm_rn_c, pm_rk_i, pm_rk_z, pm_rk_a, pm_vk_i, pm_vk_z, pm_vk_a, pm_cti, pm_ctr, pm_ldi_z, pm_ldi_s, pm_lda_z, pm_lda_s, pm_cat_n, pm_cat_i, pm_cat_r, pm_cat_l, pm_obj, pm_arr, pm_opt, pm_ird, pm_aln, List.getElem?_cons_zero, List.getElem?_cons_succ, List.set_cons_zero, List.set_cons_succ, List.length_cons, List.length_nil, List.length_set, true_and, and_true, Nat.add_zero, Nat.zero_add, Nat.le_refl, Nat.reduceAdd, Nat.reduceLT, Nat.reduceLeDiff, Nat.zero_le, not_false_eq_true, not_true_eq_false, false_implies, implies_true, true_implies, Nat.zero_lt_succ, Nat.lt_add_one, pm_tl_n, pm_tl_s, sc_uL, ro4, to4, l4, l3, l2, l1]
  have i4 := L4.i4
  refine PM_use (c_T_need L4.tt i4 (-1) (d + 28)) ?_
  rintro v h5 l5 ⟨rfl, T5, f5⟩
  have ro5 := (f5 R (by omega)).trans ro4
  have to5 := T5.1
  show W_X4_read _ _ _ _ _ _ _ _ _
  simp only [w_X4_read_41, w_X4_read_42, w_X4_read_45, pm_1i_c, pm_2i_c, pm_1l_c, pm_2l_c, pm_1a_c, pm_ia_c, pm_iia_c, pm_va_c, pm_cp_c, pm_k0_c, pm_k1_c, pm_k2_c, pm_k3_c, pm_s1_c, pm_s2_c, pm_s3_c, pm_s4_c, pm_ri_c, pm_ra_c, pm_rn_c, pm_rk_i, pm_rk_z, pm_rk_a, pm_vk_i, pm_vk_z, pm_vk_a, pm_cti, pm_ctr, pm_ldi_z, pm_ldi_s, pm_lda_z, pm_lda_s, pm_cat_n, pm_cat_i, pm_cat_r, pm_cat_l, pm_obj, pm_arr, pm_opt, pm_ird, pm_aln, List.getElem?_cons_zero, List.getElem?_cons_succ, List.set_cons_zero, List.set_cons_succ, List.length_cons, List.length_nil, List.length_set, true_and, and_true, Nat.add_zero, Nat.zero_add, Nat.le_refl, Nat.reduceAdd, Nat.reduceLT, Nat.reduceLeDiff, Nat.zero_le, not_false_eq_true, not_true_eq_false, false_implies, implies_true, true_implies, Nat.zero_lt_succ, Nat.lt_add_one, pm_tl_n, pm_tl_s, sc_uL, ro5, to5, l5, l4, l3, l2, l1]
  refine PM_use (c_T_faultByte T5 (d + 28)) ?_
  rintro v h6 l6 ⟨rfl, rfl⟩
  show W_X4_read _ _ _ _ _ _ _ _ _
  simp only [w_X4_read_48, pm_1i_c, pm_2i_c, pm_1l_c, pm_2l_c, pm_1a_c, pm_ia_c, pm_iia_c, pm_va_c, pm_cp_c, pm_k0_c, pm_k1_c, pm_k2_c, pm_k3_c, pm_s1_c, pm_s2_c, pm_s3_c, pm_s4_c, pm_ri_c, pm_ra_c, pm_rn_c, pm_rk_i, pm_rk_z, pm_rk_a, pm_vk_i, pm_vk_z, pm_vk_a, pm_cti, pm_ctr, pm_ldi_z, pm_ldi_s, pm_lda_z, pm_lda_s, pm_cat_n, pm_cat_i, pm_cat_r, pm_cat_l, pm_obj, pm_arr, pm_opt, pm_ird, pm_aln, List.getElem?_cons_zero, List.getElem?_cons_succ, List.set_cons_zero, List.set_cons_succ, List.length_cons, List.length_nil, List.length_set, true_and, and_true, Nat.add_zero, Nat.zero_add, Nat.le_refl, Nat.reduceAdd, Nat.reduceLT, Nat.reduceLeDiff, Nat.zero_le, not_false_eq_true, not_true_eq_false, false_implies, implies_true, true_implies, Nat.zero_lt_succ, Nat.lt_add_one, pm_tl_n, pm_tl_s, sc_uL, l5, l4, l3, l2, l1]
  obtain ⟨st4, sk4⟩ := L4.2.2.2.2.1
  exact ⟨rfl, ⟨ro5, ⟨_, _, _, _, T5⟩, (f5 _ (by omega)).trans L4.l, L4.ss.kept (f5 _ (by omega)) (f5 _ (by omega)), st4, sk4.kept (f5 _ (by omega)) (f5 _ (by omega))⟩, L4.pa, (f3.tr f4).tr (fun i hi => f5 i (by omega))⟩
end LS2
