/-! AdmissionDesk: the methods that throw nothing. -/
theorem take_foldA {β : Type} {f : β → Int32 → β} {s : β} {cs : List Int32} {k : Nat} (hk : k < cs.length) : (cs.take (k + 1)).foldl f s = f ((cs.take k).foldl f s) (cs.getD k (-1)) := by
  rw [List.take_add_one, List.foldl_append, List.getElem?_eq_getElem hk, List.getD_eq_getElem?_getD, List.getElem?_eq_getElem hk]
  rfl
section FD
variable {h h' : pmH} {a : Nat} {bs ws : List Int32} {A A' K S : AD} {ik ft : Int32}
theorem c_F_end (C : cr_ h a bs ws A K ik ft) (n : Int32) (d : Nat) : PM (d + 2) 124 [.ref a, .int n] h (fun v h' => if n < 0 ∨ nI bs.length < n then v = some (.int 0) ∧ cr_ h' a bs ws A K ik ft ∧ frC h h' a else v = some (.int 1) ∧ cr_ h' a (bs.take n.toNatClampNeg) ws A K ik ft ∧ frC h h' a) := by
  refine en_X11_end rfl rfl ?_
  have co := C.o
  have to := C.to
  by_cases c1 : n < 0
  · have cc : n < 0 ∨ nI bs.length < n := Or.inl c1
    simp only [if_pos cc]
    simp only [w_X11_end_0, w_X11_end_1, w_X11_end_4, w_X11_end_5, w_X11_end_6, w_X11_end_9, w_X11_end_12, w_X11_end_15, w_X11_end_16, w_X11_end_17, w_X11_end_18, w_X11_end_21, w_X11_end_22, w_X11_end_25, w_X11_end_26, pm_1i_c, pm_2i_c, pm_1l_c, pm_2l_c, pm_1a_c, pm_ia_c, pm_iia_c, pm_va_c, pm_cp_c, pm_k0_c, pm_k1_c, pm_k2_c, pm_k3_c, pm_s1_c, pm_s2_c, pm_s3_c, pm_s4_c, pm_ri_c, pm_ra_c, pm_rn_c, pm_rk_i, pm_rk_z, pm_rk_a, pm_vk_i, pm_vk_z, pm_vk_a, pm_cti, pm_ctr, pm_ldi_z, pm_ldi_s, pm_lda_z, pm_lda_s, pm_cat_n, pm_cat_i, pm_cat_r, pm_cat_l, pm_obj, pm_arr, pm_opt, pm_ird, pm_aln, List.getElem?_cons_zero, List.getElem?_cons_succ, List.set_cons_zero, List.set_cons_succ, List.length_cons, List.length_nil, List.length_set, true_and, and_true, Nat.add_zero, Nat.zero_add, Nat.le_refl, Nat.reduceAdd, Nat.reduceLT, Nat.reduceLeDiff, Nat.zero_le, not_false_eq_true, not_true_eq_false, false_implies, implies_true, true_implies, Nat.zero_lt_succ, Nat.lt_add_one, c1]
    exact ⟨Or.inl trivial, C, frC.rf⟩
  · by_cases c2 : nI bs.length < n
    · have cc : n < 0 ∨ nI bs.length < n := Or.inr c2
      simp only [if_pos cc]
      simp only [w_X11_end_0, w_X11_end_1, w_X11_end_4, w_X11_end_5, w_X11_end_6, w_X11_end_9, w_X11_end_12, w_X11_end_15, w_X11_end_16, w_X11_end_17, w_X11_end_18, w_X11_end_21, w_X11_end_22, w_X11_end_25, w_X11_end_26, pm_1i_c, pm_2i_c, pm_1l_c, pm_2l_c, pm_1a_c, pm_ia_c, pm_iia_c, pm_va_c, pm_cp_c, pm_k0_c, pm_k1_c, pm_k2_c, pm_k3_c, pm_s1_c, pm_s2_c, pm_s3_c, pm_s4_c, pm_ri_c, pm_ra_c, pm_rn_c, pm_rk_i, pm_rk_z, pm_rk_a, pm_vk_i, pm_vk_z, pm_vk_a, pm_cti, pm_ctr, pm_ldi_z, pm_ldi_s, pm_lda_z, pm_lda_s, pm_cat_n, pm_cat_i, pm_cat_r, pm_cat_l, pm_obj, pm_arr, pm_opt, pm_ird, pm_aln, List.getElem?_cons_zero, List.getElem?_cons_succ, List.set_cons_zero, List.set_cons_succ, List.length_cons, List.length_nil, List.length_set, true_and, and_true, Nat.add_zero, Nat.zero_add, Nat.le_refl, Nat.reduceAdd, Nat.reduceLT, Nat.reduceLeDiff, Nat.zero_le, not_false_eq_true, not_true_eq_false, false_implies, implies_true, true_implies, Nat.zero_lt_succ, Nat.lt_add_one, c1, co, to]
      refine PM_use (c_Row_size C.tp d) ?_
      rintro v h1 l1 ⟨rfl, rfl⟩
      show W_X11_end _ _ _ _ _ _ _ _ _
      simp only [w_X11_end_0, w_X11_end_1, w_X11_end_4, w_X11_end_5, w_X11_end_6, w_X11_end_9, w_X11_end_12, w_X11_end_15, w_X11_end_16, w_X11_end_17, w_X11_end_18, w_X11_end_21, w_X11_end_22, w_X11_end_25, w_X11_end_26, pm_1i_c, pm_2i_c, pm_1l_c, pm_2l_c, pm_1a_c, pm_ia_c, pm_iia_c, pm_va_c, pm_cp_c, pm_k0_c, pm_k1_c, pm_k2_c, pm_k3_c, pm_s1_c, pm_s2_c, pm_s3_c, pm_s4_c, pm_ri_c, pm_ra_c, pm_rn_c, pm_rk_i, pm_rk_z, pm_rk_a, pm_vk_i, pm_vk_z, pm_vk_a, pm_cti, pm_ctr, pm_ldi_z, pm_ldi_s, pm_lda_z, pm_lda_s, pm_cat_n, pm_cat_i, pm_cat_r, pm_cat_l, pm_obj, pm_arr, pm_opt, pm_ird, pm_aln, List.getElem?_cons_zero, List.getElem?_cons_succ, List.set_cons_zero, List.set_cons_succ, List.length_cons, List.length_nil, List.length_set, true_and, and_true, Nat.add_zero, Nat.zero_add, Nat.le_refl, Nat.reduceAdd, Nat.reduceLT, Nat.reduceLeDiff, Nat.zero_le, not_false_eq_true, not_true_eq_false, false_implies, implies_true, true_implies, Nat.zero_lt_succ, Nat.lt_add_one, pm_tl_n, pm_tl_s, sc_uL, c2]
      exact ⟨Or.inl trivial, C, frC.rf⟩
    · have cc : ¬ (n < 0 ∨ nI bs.length < n) := fun z => z.elim c1 c2
      simp only [if_neg cc]
      simp only [w_X11_end_0, w_X11_end_1, w_X11_end_4, w_X11_end_5, w_X11_end_6, w_X11_end_9, w_X11_end_12, w_X11_end_15, w_X11_end_16, w_X11_end_17, w_X11_end_18, w_X11_end_21, w_X11_end_22, w_X11_end_25, w_X11_end_26, pm_1i_c, pm_2i_c, pm_1l_c, pm_2l_c, pm_1a_c, pm_ia_c, pm_iia_c, pm_va_c, pm_cp_c, pm_k0_c, pm_k1_c, pm_k2_c, pm_k3_c, pm_s1_c, pm_s2_c, pm_s3_c, pm_s4_c, pm_ri_c, pm_ra_c, pm_rn_c, pm_rk_i, pm_rk_z, pm_rk_a, pm_vk_i, pm_vk_z, pm_vk_a, pm_cti, pm_ctr, pm_ldi_z, pm_ldi_s, pm_lda_z, pm_lda_s, pm_cat_n, pm_cat_i, pm_cat_r, pm_cat_l, pm_obj, pm_arr, pm_opt, pm_ird, pm_aln, List.getElem?_cons_zero, List.getElem?_cons_succ, List.set_cons_zero, List.set_cons_succ, List.length_cons, List.length_nil, List.length_set, true_and, and_true, Nat.add_zero, Nat.zero_add, Nat.le_refl, Nat.reduceAdd, Nat.reduceLT, Nat.reduceLeDiff, Nat.zero_le, not_false_eq_true, not_true_eq_false, false_implies, implies_true, true_implies, Nat.zero_lt_succ, Nat.lt_add_one, c1, co, to]
      refine PM_use (c_Row_size C.tp d) ?_
      rintro v h1 l1 ⟨rfl, rfl⟩
      show W_X11_end _ _ _ _ _ _ _ _ _
      simp only [w_X11_end_0, w_X11_end_1, w_X11_end_4, w_X11_end_5, w_X11_end_6, w_X11_end_9, w_X11_end_12, w_X11_end_15, w_X11_end_16, w_X11_end_17, w_X11_end_18, w_X11_end_21, w_X11_end_22, w_X11_end_25, w_X11_end_26, pm_1i_c, pm_2i_c, pm_1l_c, pm_2l_c, pm_1a_c, pm_ia_c, pm_iia_c, pm_va_c, pm_cp_c, pm_k0_c, pm_k1_c, pm_k2_c, pm_k3_c, pm_s1_c, pm_s2_c, pm_s3_c, pm_s4_c, pm_ri_c, pm_ra_c, pm_rn_c, pm_rk_i, pm_rk_z, pm_rk_a, pm_vk_i, pm_vk_z, pm_vk_a, pm_cti, pm_ctr, pm_ldi_z, pm_ldi_s, pm_lda_z, pm_lda_s, pm_cat_n, pm_cat_i, pm_cat_r, pm_cat_l, pm_obj, pm_arr, pm_opt, pm_ird, pm_aln, List.getElem?_cons_zero, List.getElem?_cons_succ, List.set_cons_zero, List.set_cons_succ, List.length_cons, List.length_nil, List.length_set, true_and, and_true, Nat.add_zero, Nat.zero_add, Nat.le_refl, Nat.reduceAdd, Nat.reduceLT, Nat.reduceLeDiff, Nat.zero_le, not_false_eq_true, not_true_eq_false, false_implies, implies_true, true_implies, Nat.zero_lt_succ, Nat.lt_add_one, pm_tl_n, pm_tl_s, sc_uL, c2, co, to]
      refine PM_use (c_Row_cut C.tp n d) ?_
      rintro v h2 l2 ⟨rfl, K1, K2⟩
      rw [if_neg c1] at K1
      obtain ⟨C2, f2⟩ := C.ut K1 K2
      show W_X11_end _ _ _ _ _ _ _ _ _
      simp only [w_X11_end_0, w_X11_end_1, w_X11_end_4, w_X11_end_5, w_X11_end_6, w_X11_end_9, w_X11_end_12, w_X11_end_15, w_X11_end_16, w_X11_end_17, w_X11_end_18, w_X11_end_21, w_X11_end_22, w_X11_end_25, w_X11_end_26, pm_1i_c, pm_2i_c, pm_1l_c, pm_2l_c, pm_1a_c, pm_ia_c, pm_iia_c, pm_va_c, pm_cp_c, pm_k0_c, pm_k1_c, pm_k2_c, pm_k3_c, pm_s1_c, pm_s2_c, pm_s3_c, pm_s4_c, pm_ri_c, pm_ra_c, pm_rn_c, pm_rk_i, pm_rk_z, pm_rk_a, pm_vk_i, pm_vk_z, pm_vk_a, pm_cti, pm_ctr, pm_ldi_z, pm_ldi_s, pm_lda_z, pm_lda_s, pm_cat_n, pm_cat_i, pm_cat_r, pm_cat_l, pm_obj, pm_arr, pm_opt, pm_ird, pm_aln, List.getElem?_cons_zero, List.getElem?_cons_succ, List.set_cons_zero, List.set_cons_succ, List.length_cons, List.length_nil, List.length_set, true_and, and_true, Nat.add_zero, Nat.zero_add, Nat.le_refl, Nat.reduceAdd, Nat.reduceLT, Nat.reduceLeDiff, Nat.zero_le, not_false_eq_true, not_true_eq_false, false_implies, implies_true, true_implies, Nat.zero_lt_succ, Nat.lt_add_one, pm_tl_n, pm_tl_s, sc_uL, l2]
      exact ⟨Or.inr trivial, C2, f2⟩
theorem c_F_free (C : cr_ h a bs ws A K ik ft) (d : Nat) : PM (d + 3) 125 [.ref a] h (fun v h' => v = some (.int (if sc A 23 = -1 then 0 else 1)) ∧ cr_ h' a bs ws (uS A 23 (-1)) K ik ft ∧ frC h h' a) := by
  refine en_X11_free rfl ?_
  have co := C.o
  have D0 := C.d
  have xo0 := D0.o
  have xa0 := D0.sh
  have xb0 := D0.ko
  have xc0 := D0.lo
  have xf0 := D0.co
  have x10 := D0.wo
  have x20 := D0.to
  have x30 := D0.so
  have x40 := D0.go
  have x50 := D0.po
  obtain ⟨lo, ⟨cs, l1, l2⟩, st, l3⟩ := D0.la
  simp only [w_X11_free_0, w_X11_free_1, w_X11_free_4, w_X11_free_7, w_X11_free_10, w_X11_free_11, w_X11_free_12, w_X11_free_15, w_X11_free_18, w_X11_free_21, w_X11_free_22, pm_1i_c, pm_2i_c, pm_1l_c, pm_2l_c, pm_1a_c, pm_ia_c, pm_iia_c, pm_va_c, pm_cp_c, pm_k0_c, pm_k1_c, pm_k2_c, pm_k3_c, pm_s1_c, pm_s2_c, pm_s3_c, pm_s4_c, pm_ri_c, pm_ra_c, pm_rn_c, pm_rk_i, pm_rk_z, pm_rk_a, pm_vk_i, pm_vk_z, pm_vk_a, pm_cti, pm_ctr, pm_ldi_z, pm_ldi_s, pm_lda_z, pm_lda_s, pm_cat_n, pm_cat_i, pm_cat_r, pm_cat_l, pm_obj, pm_arr, pm_opt, pm_ird, pm_aln, List.getElem?_cons_zero, List.getElem?_cons_succ, List.set_cons_zero, List.set_cons_succ, List.length_cons, List.length_nil, List.length_set, true_and, and_true, Nat.add_zero, Nat.zero_add, Nat.le_refl, Nat.reduceAdd, Nat.reduceLT, Nat.reduceLeDiff, Nat.zero_le, not_false_eq_true, not_true_eq_false, false_implies, implies_true, true_implies, Nat.zero_lt_succ, Nat.lt_add_one, co, xo0, xa0, xb0, xc0, xf0, x10, x20, x30, x40, x50]
  refine PM_use (c_Law_isText D0.lo (d + 1)) ?_
  rintro v h1 l1' ⟨rfl, rfl⟩
  show W_X11_free _ _ _ _ _ _ _ _ _
  simp only [w_X11_free_0, w_X11_free_1, w_X11_free_4, w_X11_free_7, w_X11_free_10, w_X11_free_11, w_X11_free_12, w_X11_free_15, w_X11_free_18, w_X11_free_21, w_X11_free_22, pm_1i_c, pm_2i_c, pm_1l_c, pm_2l_c, pm_1a_c, pm_ia_c, pm_iia_c, pm_va_c, pm_cp_c, pm_k0_c, pm_k1_c, pm_k2_c, pm_k3_c, pm_s1_c, pm_s2_c, pm_s3_c, pm_s4_c, pm_ri_c, pm_ra_c, pm_rn_c, pm_rk_i, pm_rk_z, pm_rk_a, pm_vk_i, pm_vk_z, pm_vk_a, pm_cti, pm_ctr, pm_ldi_z, pm_ldi_s, pm_lda_z, pm_lda_s, pm_cat_n, pm_cat_i, pm_cat_r, pm_cat_l, pm_obj, pm_arr, pm_opt, pm_ird, pm_aln, List.getElem?_cons_zero, List.getElem?_cons_succ, List.set_cons_zero, List.set_cons_succ, List.length_cons, List.length_nil, List.length_set, true_and, and_true, Nat.add_zero, Nat.zero_add, Nat.le_refl, Nat.reduceAdd, Nat.reduceLT, Nat.reduceLeDiff, Nat.zero_le, not_false_eq_true, not_true_eq_false, false_implies, implies_true, true_implies, Nat.zero_lt_succ, Nat.lt_add_one, pm_tl_n, pm_tl_s, sc_uL, co, xo0, xa0, xb0, xc0, xf0, x10, x20, x30, x40, x50]
  refine PM_use (c_Law_remove D0.lo l1 d) ?_
  rintro v h2 l2' ⟨rfl, K1, K2, K3⟩
  have D1 : dk_ h2 (a + 35) (uS A 23 (-1)) := D0.ulw ⟨K1, ⟨[], K2, Or.inl rfl⟩, st, l3.kept (K3 _ (by omega) (by omega) (by omega)) (K3 _ (by omega) (by omega) (by omega))⟩ (fun i hi => K3 i (by omega) (by omega) (by omega)) (fun i hi => sc_ne hi) rfl rfl rfl
  obtain ⟨C1, f1⟩ := C.ud D1 (fun i hi => K3 i (by omega) (by omega) (by omega))
  show W_X11_free _ _ _ _ _ _ _ _ _
  simp only [w_X11_free_0, w_X11_free_1, w_X11_free_4, w_X11_free_7, w_X11_free_10, w_X11_free_11, w_X11_free_12, w_X11_free_15, w_X11_free_18, w_X11_free_21, w_X11_free_22, pm_1i_c, pm_2i_c, pm_1l_c, pm_2l_c, pm_1a_c, pm_ia_c, pm_iia_c, pm_va_c, pm_cp_c, pm_k0_c, pm_k1_c, pm_k2_c, pm_k3_c, pm_s1_c, pm_s2_c, pm_s3_c, pm_s4_c, pm_ri_c, pm_ra_c, pm_rn_c, pm_rk_i, pm_rk_z, pm_rk_a, pm_vk_i, pm_vk_z, pm_vk_a, pm_cti, pm_ctr, pm_ldi_z, pm_ldi_s, pm_lda_z, pm_lda_s, pm_cat_n, pm_cat_i, pm_cat_r, pm_cat_l, pm_obj, pm_arr, pm_opt, pm_ird, pm_aln, List.getElem?_cons_zero, List.getElem?_cons_succ, List.set_cons_zero, List.set_cons_succ, List.length_cons, List.length_nil, List.length_set, true_and, and_true, Nat.add_zero, Nat.zero_add, Nat.le_refl, Nat.reduceAdd, Nat.reduceLT, Nat.reduceLeDiff, Nat.zero_le, not_false_eq_true, not_true_eq_false, false_implies, implies_true, true_implies, Nat.zero_lt_succ, Nat.lt_add_one, pm_tl_n, pm_tl_s, sc_uL, l2']
  refine ⟨?_, C1, f1⟩
  by_cases c : sc A 23 = -1
  · rw [if_pos c]
    exact Or.inl rfl
  · rw [if_neg c]
    exact Or.inr rfl
theorem c_F_fault (C : cr_ h a bs ws A K ik ft) (d : Nat) : PM (d + 1) 126 [.ref a] h (fun v h' => v = some (.int ft) ∧ h' = h) := by
  refine en_X11_fault rfl ?_
  have co := C.o
  simp only [w_X11_fault_0, w_X11_fault_1, w_X11_fault_4, pm_1i_c, pm_2i_c, pm_1l_c, pm_2l_c, pm_1a_c, pm_ia_c, pm_iia_c, pm_va_c, pm_cp_c, pm_k0_c, pm_k1_c, pm_k2_c, pm_k3_c, pm_s1_c, pm_s2_c, pm_s3_c, pm_s4_c, pm_ri_c, pm_ra_c, pm_rn_c, pm_rk_i, pm_rk_z, pm_rk_a, pm_vk_i, pm_vk_z, pm_vk_a, pm_cti, pm_ctr, pm_ldi_z, pm_ldi_s, pm_lda_z, pm_lda_s, pm_cat_n, pm_cat_i, pm_cat_r, pm_cat_l, pm_obj, pm_arr, pm_opt, pm_ird, pm_aln, List.getElem?_cons_zero, List.getElem?_cons_succ, List.set_cons_zero, List.set_cons_succ, List.length_cons, List.length_nil, List.length_set, true_and, and_true, Nat.add_zero, Nat.zero_add, Nat.le_refl, Nat.reduceAdd, Nat.reduceLT, Nat.reduceLeDiff, Nat.zero_le, not_false_eq_true, not_true_eq_false, false_implies, implies_true, true_implies, Nat.zero_lt_succ, Nat.lt_add_one, co]
theorem c_F_out (C : cr_ h a bs ws A K ik ft) (k : Int32) (d : Nat) : PM (d + 2) 127 [.ref a, .int k] h (fun v h' => v = some (.int (rw_get (li A 4) k)) ∧ h' = h) := by
  refine en_X11_out rfl rfl ?_
  have co := C.o
  have D0 := C.d
  have xo0 := D0.o
  have xa0 := D0.sh
  have xb0 := D0.ko
  have xc0 := D0.lo
  have xf0 := D0.co
  have x10 := D0.wo
  have x20 := D0.to
  have x30 := D0.so
  have x40 := D0.go
  have x50 := D0.po
  simp only [w_X11_out_0, w_X11_out_1, w_X11_out_4, w_X11_out_7, w_X11_out_8, w_X11_out_11, pm_1i_c, pm_2i_c, pm_1l_c, pm_2l_c, pm_1a_c, pm_ia_c, pm_iia_c, pm_va_c, pm_cp_c, pm_k0_c, pm_k1_c, pm_k2_c, pm_k3_c, pm_s1_c, pm_s2_c, pm_s3_c, pm_s4_c, pm_ri_c, pm_ra_c, pm_rn_c, pm_rk_i, pm_rk_z, pm_rk_a, pm_vk_i, pm_vk_z, pm_vk_a, pm_cti, pm_ctr, pm_ldi_z, pm_ldi_s, pm_lda_z, pm_lda_s, pm_cat_n, pm_cat_i, pm_cat_r, pm_cat_l, pm_obj, pm_arr, pm_opt, pm_ird, pm_aln, List.getElem?_cons_zero, List.getElem?_cons_succ, List.set_cons_zero, List.set_cons_succ, List.length_cons, List.length_nil, List.length_set, true_and, and_true, Nat.add_zero, Nat.zero_add, Nat.le_refl, Nat.reduceAdd, Nat.reduceLT, Nat.reduceLeDiff, Nat.zero_le, not_false_eq_true, not_true_eq_false, false_implies, implies_true, true_implies, Nat.zero_lt_succ, Nat.lt_add_one, co, xo0, xa0, xb0, xc0, xf0, x10, x20, x30, x40, x50]
  refine PM_use (c_Row_get D0.g k d) ?_
  rintro v h1 l1 ⟨rfl, rfl⟩
  show W_X11_out _ _ _ _ _ _ _ _ _
  simp only [w_X11_out_0, w_X11_out_1, w_X11_out_4, w_X11_out_7, w_X11_out_8, w_X11_out_11, pm_1i_c, pm_2i_c, pm_1l_c, pm_2l_c, pm_1a_c, pm_ia_c, pm_iia_c, pm_va_c, pm_cp_c, pm_k0_c, pm_k1_c, pm_k2_c, pm_k3_c, pm_s1_c, pm_s2_c, pm_s3_c, pm_s4_c, pm_ri_c, pm_ra_c, pm_rn_c, pm_rk_i, pm_rk_z, pm_rk_a, pm_vk_i, pm_vk_z, pm_vk_a, pm_cti, pm_ctr, pm_ldi_z, pm_ldi_s, pm_lda_z, pm_lda_s, pm_cat_n, pm_cat_i, pm_cat_r, pm_cat_l, pm_obj, pm_arr, pm_opt, pm_ird, pm_aln, List.getElem?_cons_zero, List.getElem?_cons_succ, List.set_cons_zero, List.set_cons_succ, List.length_cons, List.length_nil, List.length_set, true_and, and_true, Nat.add_zero, Nat.zero_add, Nat.le_refl, Nat.reduceAdd, Nat.reduceLT, Nat.reduceLeDiff, Nat.zero_le, not_false_eq_true, not_true_eq_false, false_implies, implies_true, true_implies, Nat.zero_lt_succ, Nat.lt_add_one, pm_tl_n, pm_tl_s, sc_uL]
theorem c_F_history (C : cr_ h a bs ws A K ik ft) (k : Int32) (d : Nat) : PM (d + 2) 133 [.ref a, .int k] h (fun v h' => v = some (.int (rw_get (li A 5) k)) ∧ h' = h) := by
  refine en_X11_history rfl rfl ?_
  have co := C.o
  have D0 := C.d
  have xo0 := D0.o
  have xa0 := D0.sh
  have xb0 := D0.ko
  have xc0 := D0.lo
  have xf0 := D0.co
  have x10 := D0.wo
  have x20 := D0.to
  have x30 := D0.so
  have x40 := D0.go
  have x50 := D0.po
  simp only [w_X11_history_0, w_X11_history_1, w_X11_history_4, w_X11_history_7, w_X11_history_8, w_X11_history_11, pm_1i_c, pm_2i_c, pm_1l_c, pm_2l_c, pm_1a_c, pm_ia_c, pm_iia_c, pm_va_c, pm_cp_c, pm_k0_c, pm_k1_c, pm_k2_c, pm_k3_c, pm_s1_c, pm_s2_c, pm_s3_c, pm_s4_c, pm_ri_c, pm_ra_c, pm_rn_c, pm_rk_i, pm_rk_z, pm_rk_a, pm_vk_i, pm_vk_z, pm_vk_a, pm_cti, pm_ctr, pm_ldi_z, pm_ldi_s, pm_lda_z, pm_lda_s, pm_cat_n, pm_cat_i, pm_cat_r, pm_cat_l, pm_obj, pm_arr, pm_opt, pm_ird, pm_aln, List.getElem?_cons_zero, List.getElem?_cons_succ, List.set_cons_zero, List.set_cons_succ, List.length_cons, List.length_nil, List.length_set, true_and, and_true, Nat.add_zero, Nat.zero_add, Nat.le_refl, Nat.reduceAdd, Nat.reduceLT, Nat.reduceLeDiff, Nat.zero_le, not_false_eq_true, not_true_eq_false, false_implies, implies_true, true_implies, Nat.zero_lt_succ, Nat.lt_add_one, co, xo0, xa0, xb0, xc0, xf0, x10, x20, x30, x40, x50]
  refine PM_use (c_Row_get D0.p k d) ?_
  rintro v h1 l1 ⟨rfl, rfl⟩
  show W_X11_history _ _ _ _ _ _ _ _ _
  simp only [w_X11_history_0, w_X11_history_1, w_X11_history_4, w_X11_history_7, w_X11_history_8, w_X11_history_11, pm_1i_c, pm_2i_c, pm_1l_c, pm_2l_c, pm_1a_c, pm_ia_c, pm_iia_c, pm_va_c, pm_cp_c, pm_k0_c, pm_k1_c, pm_k2_c, pm_k3_c, pm_s1_c, pm_s2_c, pm_s3_c, pm_s4_c, pm_ri_c, pm_ra_c, pm_rn_c, pm_rk_i, pm_rk_z, pm_rk_a, pm_vk_i, pm_vk_z, pm_vk_a, pm_cti, pm_ctr, pm_ldi_z, pm_ldi_s, pm_lda_z, pm_lda_s, pm_cat_n, pm_cat_i, pm_cat_r, pm_cat_l, pm_obj, pm_arr, pm_opt, pm_ird, pm_aln, List.getElem?_cons_zero, List.getElem?_cons_succ, List.set_cons_zero, List.set_cons_succ, List.length_cons, List.length_nil, List.length_set, true_and, and_true, Nat.add_zero, Nat.zero_add, Nat.le_refl, Nat.reduceAdd, Nat.reduceLT, Nat.reduceLeDiff, Nat.zero_le, not_false_eq_true, not_true_eq_false, false_implies, implies_true, true_implies, Nat.zero_lt_succ, Nat.lt_add_one, pm_tl_n, pm_tl_s, sc_uL]
theorem c_F_octet (C : cr_ h a bs ws A K ik ft) (k : Int32) (d : Nat) : PM (d + 2) 137 [.ref a, .int k] h (fun v h' => v = some (.int (rw_get ws k)) ∧ h' = h) := by
  refine en_X11_octet rfl rfl ?_
  have co := C.o
  have wo := C.wo
  simp only [w_X11_octet_0, w_X11_octet_1, w_X11_octet_4, w_X11_octet_5, w_X11_octet_8, pm_1i_c, pm_2i_c, pm_1l_c, pm_2l_c, pm_1a_c, pm_ia_c, pm_iia_c, pm_va_c, pm_cp_c, pm_k0_c, pm_k1_c, pm_k2_c, pm_k3_c, pm_s1_c, pm_s2_c, pm_s3_c, pm_s4_c, pm_ri_c, pm_ra_c, pm_rn_c, pm_rk_i, pm_rk_z, pm_rk_a, pm_vk_i, pm_vk_z, pm_vk_a, pm_cti, pm_ctr, pm_ldi_z, pm_ldi_s, pm_lda_z, pm_lda_s, pm_cat_n, pm_cat_i, pm_cat_r, pm_cat_l, pm_obj, pm_arr, pm_opt, pm_ird, pm_aln, List.getElem?_cons_zero, List.getElem?_cons_succ, List.set_cons_zero, List.set_cons_succ, List.length_cons, List.length_nil, List.length_set, true_and, and_true, Nat.add_zero, Nat.zero_add, Nat.le_refl, Nat.reduceAdd, Nat.reduceLT, Nat.reduceLeDiff, Nat.zero_le, not_false_eq_true, not_true_eq_false, false_implies, implies_true, true_implies, Nat.zero_lt_succ, Nat.lt_add_one, co, wo]
  refine PM_use (c_Row_get C.wr k d) ?_
  rintro v h1 l1 ⟨rfl, rfl⟩
  show W_X11_octet _ _ _ _ _ _ _ _ _
  simp only [w_X11_octet_0, w_X11_octet_1, w_X11_octet_4, w_X11_octet_5, w_X11_octet_8, pm_1i_c, pm_2i_c, pm_1l_c, pm_2l_c, pm_1a_c, pm_ia_c, pm_iia_c, pm_va_c, pm_cp_c, pm_k0_c, pm_k1_c, pm_k2_c, pm_k3_c, pm_s1_c, pm_s2_c, pm_s3_c, pm_s4_c, pm_ri_c, pm_ra_c, pm_rn_c, pm_rk_i, pm_rk_z, pm_rk_a, pm_vk_i, pm_vk_z, pm_vk_a, pm_cti, pm_ctr, pm_ldi_z, pm_ldi_s, pm_lda_z, pm_lda_s, pm_cat_n, pm_cat_i, pm_cat_r, pm_cat_l, pm_obj, pm_arr, pm_opt, pm_ird, pm_aln, List.getElem?_cons_zero, List.getElem?_cons_succ, List.set_cons_zero, List.set_cons_succ, List.length_cons, List.length_nil, List.length_set, true_and, and_true, Nat.add_zero, Nat.zero_add, Nat.le_refl, Nat.reduceAdd, Nat.reduceLT, Nat.reduceLeDiff, Nat.zero_le, not_false_eq_true, not_true_eq_false, false_implies, implies_true, true_implies, Nat.zero_lt_succ, Nat.lt_add_one, pm_tl_n, pm_tl_s, sc_uL]
theorem c_F_halve (C : cr_ h a bs ws A K ik ft) (d : Nat) : PM (d + 3) 128 [.ref a] h (fun v h' => v = some (.int (sc (halF A) 0)) ∧ cr_ h' a bs ws (halF A) K ik ft ∧ frC h h' a) := by
  refine en_X11_halve rfl ?_
  have co := C.o
  have D0 := C.d
  have xo0 := D0.o
  have xa0 := D0.sh
  have xb0 := D0.ko
  have xc0 := D0.lo
  have xf0 := D0.co
  have x10 := D0.wo
  have x20 := D0.to
  have x30 := D0.so
  have x40 := D0.go
  have x50 := D0.po
  simp only [w_X11_halve_0, w_X11_halve_1, w_X11_halve_4, w_X11_halve_7, w_X11_halve_10, w_X11_halve_11, w_X11_halve_14, w_X11_halve_17, w_X11_halve_20, pm_1i_c, pm_2i_c, pm_1l_c, pm_2l_c, pm_1a_c, pm_ia_c, pm_iia_c, pm_va_c, pm_cp_c, pm_k0_c, pm_k1_c, pm_k2_c, pm_k3_c, pm_s1_c, pm_s2_c, pm_s3_c, pm_s4_c, pm_ri_c, pm_ra_c, pm_rn_c, pm_rk_i, pm_rk_z, pm_rk_a, pm_vk_i, pm_vk_z, pm_vk_a, pm_cti, pm_ctr, pm_ldi_z, pm_ldi_s, pm_lda_z, pm_lda_s, pm_cat_n, pm_cat_i, pm_cat_r, pm_cat_l, pm_obj, pm_arr, pm_opt, pm_ird, pm_aln, List.getElem?_cons_zero, List.getElem?_cons_succ, List.set_cons_zero, List.set_cons_succ, List.length_cons, List.length_nil, List.length_set, true_and, and_true, Nat.add_zero, Nat.zero_add, Nat.le_refl, Nat.reduceAdd, Nat.reduceLT, Nat.reduceLeDiff, Nat.zero_le, not_false_eq_true, not_true_eq_false, false_implies, implies_true, true_implies, Nat.zero_lt_succ, Nat.lt_add_one, co, xo0, xa0, xb0, xc0, xf0, x10, x20, x30, x40, x50]
  refine PM_use (c_Sketch_halveAll D0.sk d) ?_
  rintro v h1 l1 ⟨rfl, K1, K2⟩
  have D1 := D0.usk K1 K2 (skEq_halF A)
  obtain ⟨C1, f1⟩ := C.ud D1 (frd_3 K2)
  have co1 := C1.o
  have xo1 := D1.o
  have xa1 := D1.sh
  have xb1 := D1.ko
  have xc1 := D1.lo
  have xf1 := D1.co
  have x11 := D1.wo
  have x21 := D1.to
  have x31 := D1.so
  have x41 := D1.go
  have x51 := D1.po
  show W_X11_halve _ _ _ _ _ _ _ _ _
  simp only [w_X11_halve_0, w_X11_halve_1, w_X11_halve_4, w_X11_halve_7, w_X11_halve_10, w_X11_halve_11, w_X11_halve_14, w_X11_halve_17, w_X11_halve_20, pm_1i_c, pm_2i_c, pm_1l_c, pm_2l_c, pm_1a_c, pm_ia_c, pm_iia_c, pm_va_c, pm_cp_c, pm_k0_c, pm_k1_c, pm_k2_c, pm_k3_c, pm_s1_c, pm_s2_c, pm_s3_c, pm_s4_c, pm_ri_c, pm_ra_c, pm_rn_c, pm_rk_i, pm_rk_z, pm_rk_a, pm_vk_i, pm_vk_z, pm_vk_a, pm_cti, pm_ctr, pm_ldi_z, pm_ldi_s, pm_lda_z, pm_lda_s, pm_cat_n, pm_cat_i, pm_cat_r, pm_cat_l, pm_obj, pm_arr, pm_opt, pm_ird, pm_aln, List.getElem?_cons_zero, List.getElem?_cons_succ, List.set_cons_zero, List.set_cons_succ, List.length_cons, List.length_nil, List.length_set, true_and, and_true, Nat.add_zero, Nat.zero_add, Nat.le_refl, Nat.reduceAdd, Nat.reduceLT, Nat.reduceLeDiff, Nat.zero_le, not_false_eq_true, not_true_eq_false, false_implies, implies_true, true_implies, Nat.zero_lt_succ, Nat.lt_add_one, pm_tl_n, pm_tl_s, sc_uL, co1, xo1, xa1, xb1, xc1, xf1, x11, x21, x31, x41, x51, l1]
  exact ⟨C1, f1⟩
def doF (A : AD) (b : Int32) : AD := uN (uS A 14 b) (fun _ => 0)
theorem c_F_doorman (C : cr_ h a bs ws A K ik ft) {b : Int32} (hb : b = 0 ∨ b = 1) (d : Nat) : PM (d + 2) 129 [.ref a, .int b] h (fun v h' => if sc A 14 = b then v = some (.int 0) ∧ cr_ h' a bs ws A K ik ft ∧ frC h h' a else v = some (.int 1) ∧ cr_ h' a bs ws (doF A b) K ik ft ∧ frC h h' a) := by
  refine en_X11_doorman rfl rfl ?_
  have co := C.o
  have D0 := C.d
  have xo0 := D0.o
  have xa0 := D0.sh
  have xb0 := D0.ko
  have xc0 := D0.lo
  have xf0 := D0.co
  have x10 := D0.wo
  have x20 := D0.to
  have x30 := D0.so
  have x40 := D0.go
  have x50 := D0.po
  by_cases c : sc A 14 = b
  · simp only [if_pos c]
    simp only [w_X11_doorman_0, w_X11_doorman_1, w_X11_doorman_4, w_X11_doorman_7, w_X11_doorman_10, w_X11_doorman_11, w_X11_doorman_14, w_X11_doorman_15, w_X11_doorman_16, w_X11_doorman_17, w_X11_doorman_20, w_X11_doorman_23, w_X11_doorman_24, w_X11_doorman_27, w_X11_doorman_28, w_X11_doorman_31, w_X11_doorman_34, w_X11_doorman_37, w_X11_doorman_38, pm_1i_c, pm_2i_c, pm_1l_c, pm_2l_c, pm_1a_c, pm_ia_c, pm_iia_c, pm_va_c, pm_cp_c, pm_k0_c, pm_k1_c, pm_k2_c, pm_k3_c, pm_s1_c, pm_s2_c, pm_s3_c, pm_s4_c, pm_ri_c, pm_ra_c, pm_rn_c, pm_rk_i, pm_rk_z, pm_rk_a, pm_vk_i, pm_vk_z, pm_vk_a, pm_cti, pm_ctr, pm_ldi_z, pm_ldi_s, pm_lda_z, pm_lda_s, pm_cat_n, pm_cat_i, pm_cat_r, pm_cat_l, pm_obj, pm_arr, pm_opt, pm_ird, pm_aln, List.getElem?_cons_zero, List.getElem?_cons_succ, List.set_cons_zero, List.set_cons_succ, List.length_cons, List.length_nil, List.length_set, true_and, and_true, Nat.add_zero, Nat.zero_add, Nat.le_refl, Nat.reduceAdd, Nat.reduceLT, Nat.reduceLeDiff, Nat.zero_le, not_false_eq_true, not_true_eq_false, false_implies, implies_true, true_implies, Nat.zero_lt_succ, Nat.lt_add_one, co, xo0, xa0, xb0, xc0, xf0, x10, x20, x30, x40, x50, c]
    exact ⟨Or.inl trivial, C, frC.rf⟩
  · simp only [if_neg c]
    simp only [w_X11_doorman_0, w_X11_doorman_1, w_X11_doorman_4, w_X11_doorman_7, w_X11_doorman_10, w_X11_doorman_11, w_X11_doorman_16, w_X11_doorman_17, w_X11_doorman_20, w_X11_doorman_23, w_X11_doorman_24, pm_1i_c, pm_2i_c, pm_1l_c, pm_2l_c, pm_1a_c, pm_ia_c, pm_iia_c, pm_va_c, pm_cp_c, pm_k0_c, pm_k1_c, pm_k2_c, pm_k3_c, pm_s1_c, pm_s2_c, pm_s3_c, pm_s4_c, pm_ri_c, pm_ra_c, pm_rn_c, pm_rk_i, pm_rk_z, pm_rk_a, pm_vk_i, pm_vk_z, pm_vk_a, pm_cti, pm_ctr, pm_ldi_z, pm_ldi_s, pm_lda_z, pm_lda_s, pm_cat_n, pm_cat_i, pm_cat_r, pm_cat_l, pm_obj, pm_arr, pm_opt, pm_ird, pm_aln, List.getElem?_cons_zero, List.getElem?_cons_succ, List.set_cons_zero, List.set_cons_succ, List.length_cons, List.length_nil, List.length_set, true_and, and_true, Nat.add_zero, Nat.zero_add, Nat.le_refl, Nat.reduceAdd, Nat.reduceLT, Nat.reduceLeDiff, Nat.zero_le, not_false_eq_true, not_true_eq_false, false_implies, implies_true, true_implies, Nat.zero_lt_succ, Nat.lt_add_one, co, xo0, xa0, xb0, xc0, xf0, x10, x20, x30, x40, x50, c]
    refine ⟨hb, ?_⟩
    have Z : ∃ h1, h.set (a + 35 + 2) (.inr (8, [.ref (a + 35 + 2 + 1), .ref (a + 35 + 2 + 2), .int b, .int (sc A 0), .int (sc A 11), .int (sc A 13), .int (sc A 1)])) = h1 ∧ h1.length = h.length ∧ fr3 h h1 (a + 35 + 2) ∧ skA h1 (a + 35 + 2) (uS A 14 b) := by
      obtain ⟨s1, ⟨fc, s2, s3⟩, s4⟩ := D0.sk
      exact ⟨_, rfl, List.length_set, fun i x y z => hset_n (Ne.symm x), by rw [hset_s, s1]; rfl, ⟨fc, by rw [hset_r2]; exact s2, s3⟩, by rw [hset_34]; exact s4⟩
    obtain ⟨h1, E1, l1, f1, S1⟩ := Z
    rw [E1]
    have D1 := D0.usk S1 f1 ⟨rfl, rfl, fun i x y z w v => sc_ne v⟩
    obtain ⟨C1, g1⟩ := C.ud D1 (frd_3 f1)
    have co1 := C1.o
    have xo1 := D1.o
    have xa1 := D1.sh
    have xb1 := D1.ko
    have xc1 := D1.lo
    have xf1 := D1.co
    have x11 := D1.wo
    have x21 := D1.to
    have x31 := D1.so
    have x41 := D1.go
    have x51 := D1.po
    simp only [w_X11_doorman_27, w_X11_doorman_28, w_X11_doorman_31, w_X11_doorman_34, pm_1i_c, pm_2i_c, pm_1l_c, pm_2l_c, pm_1a_c, pm_ia_c, pm_iia_c, pm_va_c, pm_cp_c, pm_k0_c, pm_k1_c, pm_k2_c, pm_k3_c, pm_s1_c, pm_s2_c, pm_s3_c, pm_s4_c, pm_ri_c, pm_ra_c, pm_rn_c, pm_rk_i, pm_rk_z, pm_rk_a, pm_vk_i, pm_vk_z, pm_vk_a, pm_cti, pm_ctr, pm_ldi_z, pm_ldi_s, pm_lda_z, pm_lda_s, pm_cat_n, pm_cat_i, pm_cat_r, pm_cat_l, pm_obj, pm_arr, pm_opt, pm_ird, pm_aln, List.getElem?_cons_zero, List.getElem?_cons_succ, List.set_cons_zero, List.set_cons_succ, List.length_cons, List.length_nil, List.length_set, true_and, and_true, Nat.add_zero, Nat.zero_add, Nat.le_refl, Nat.reduceAdd, Nat.reduceLT, Nat.reduceLeDiff, Nat.zero_le, not_false_eq_true, not_true_eq_false, false_implies, implies_true, true_implies, Nat.zero_lt_succ, Nat.lt_add_one, co1, xo1, xa1, xb1, xc1, xf1, x11, x21, x31, x41, x51, l1]
    refine PM_use (c_Sketch_forgetNotes D1.sk d) ?_
    rintro v h2 l2 ⟨rfl, K1, K2⟩
    have D2 : dk_ h2 (a + 35) (doF A b) := D1.usk K1 K2 ⟨rfl, rfl, fun i x y z w v => rfl⟩
    obtain ⟨C2, g2⟩ := C1.ud D2 (frd_3 K2)
    show W_X11_doorman _ _ _ _ _ _ _ _ _
    simp only [w_X11_doorman_37, w_X11_doorman_38, pm_1i_c, pm_2i_c, pm_1l_c, pm_2l_c, pm_1a_c, pm_ia_c, pm_iia_c, pm_va_c, pm_cp_c, pm_k0_c, pm_k1_c, pm_k2_c, pm_k3_c, pm_s1_c, pm_s2_c, pm_s3_c, pm_s4_c, pm_ri_c, pm_ra_c, pm_rn_c, pm_rk_i, pm_rk_z, pm_rk_a, pm_vk_i, pm_vk_z, pm_vk_a, pm_cti, pm_ctr, pm_ldi_z, pm_ldi_s, pm_lda_z, pm_lda_s, pm_cat_n, pm_cat_i, pm_cat_r, pm_cat_l, pm_obj, pm_arr, pm_opt, pm_ird, pm_aln, List.getElem?_cons_zero, List.getElem?_cons_succ, List.set_cons_zero, List.set_cons_succ, List.length_cons, List.length_nil, List.length_set, true_and, and_true, Nat.add_zero, Nat.zero_add, Nat.le_refl, Nat.reduceAdd, Nat.reduceLT, Nat.reduceLeDiff, Nat.zero_le, not_false_eq_true, not_true_eq_false, false_implies, implies_true, true_implies, Nat.zero_lt_succ, Nat.lt_add_one, pm_tl_n, pm_tl_s, sc_uL, l2, l1]
    exact ⟨Or.inr trivial, C2, g1.tr g2⟩
def fsF (A : AD) (ks : List Int32) : AD := ks.foldl srvF A
theorem skV_fsF : ∀ (ks : List Int32) {A : AD}, skV A → skV (fsF A ks)
  | [], _, V => V
  | k :: ks, A, V => skV_fsF ks (skV_srvF V k)
theorem skV_stl {A : AD} (V : skV A) (door : Int32) : skV (stlF A door) := ⟨V.1, V.2.1, fun _ _ => Or.inl rfl⟩
def agn (A : AD) (door : Int32) : Int32 := sc (fsF (stlF A door) (li A 5)) 3
theorem c_F_hitsBehind (hl : h.length ≤ 1000000) (C : cr_ h a bs ws A K ik ft) (V : skV A) (door : Int32) (d : Nat) : PM (d + 7) 130 [.ref a, .int door] h (fun v h' => v = some (.int (agn A door)) ∧ cr_ h' a bs ws A K ik ft ∧ frC h h' a) := by
  refine en_X11_hitsBehind rfl rfl ?_
  have len := C.d.p.le.1
  have loop : ∀ n k, (li A 5).length - k = n → k ≤ (li A 5).length → ∀ (hh : pmH), cr_ hh a bs ws A K ik ft → dk_ hh (a + 87) (fsF (stlF A door) ((li A 5).take k)) → hh.length = h.length → frC h hh a → W_X11_hitsBehind (d + 6) (h.length + 0) 0 (fun v h' => v = some (.int (agn A door)) ∧ cr_ h' a bs ws A K ik ft ∧ frC h h' a) 14 [some (.ref a), some (.int door), some (.int (nI k))] [] hh 0 := by
    intro n
    induction n with
    | zero =>
      intro k hn hk hh C1 D2 q1 q2
      have D1 := C1.d
      have co := C1.o
      have e1 : ¬ nI k < nI (li A 5).length := nI_nlt (by omega) (by omega)
      have xo1 := D1.o
      have xa1 := D1.sh
      have xb1 := D1.ko
      have xc1 := D1.lo
      have xf1 := D1.co
      have x11 := D1.wo
      have x21 := D1.to
      have x31 := D1.so
      have x41 := D1.go
      have x51 := D1.po
      have xo2 := D2.o
      have xa2 := D2.sh
      have xb2 := D2.ko
      have xc2 := D2.lo
      have xf2 := D2.co
      have x12 := D2.wo
      have x22 := D2.to
      have x32 := D2.so
      have x42 := D2.go
      have x52 := D2.po
      rw [w_X11_hitsBehind_14]
      simp only [w_X11_hitsBehind_15, w_X11_hitsBehind_16, w_X11_hitsBehind_19, w_X11_hitsBehind_22, w_X11_hitsBehind_25, w_X11_hitsBehind_28, w_X11_hitsBehind_29, w_X11_hitsBehind_32, w_X11_hitsBehind_33, w_X11_hitsBehind_36, w_X11_hitsBehind_39, w_X11_hitsBehind_40, w_X11_hitsBehind_43, w_X11_hitsBehind_46, w_X11_hitsBehind_47, w_X11_hitsBehind_50, w_X11_hitsBehind_53, w_X11_hitsBehind_54, w_X11_hitsBehind_57, w_X11_hitsBehind_60, pm_1i_c, pm_2i_c, pm_1l_c, pm_2l_c, pm_1a_c, pm_ia_c, pm_iia_c, pm_va_c, pm_cp_c, pm_k0_c, pm_k1_c, pm_k2_c, pm_k3_c, pm_s1_c, pm_s2_c, pm_s3_c, pm_s4_c, pm_ri_c, pm_ra_c, pm_rn_c, pm_rk_i, pm_rk_z, pm_rk_a, pm_vk_i, pm_vk_z, pm_vk_a, pm_cti, pm_ctr, pm_ldi_z, pm_ldi_s, pm_lda_z, pm_lda_s, pm_cat_n, pm_cat_i, pm_cat_r, pm_cat_l, pm_obj, pm_arr, pm_opt, pm_ird, pm_aln, List.getElem?_cons_zero, List.getElem?_cons_succ, List.set_cons_zero, List.set_cons_succ, List.length_cons, List.length_nil, List.length_set, true_and, and_true, Nat.add_zero, Nat.zero_add, Nat.le_refl, Nat.reduceAdd, Nat.reduceLT, Nat.reduceLeDiff, Nat.zero_le, not_false_eq_true, not_true_eq_false, false_implies, implies_true, true_implies, Nat.zero_lt_succ, Nat.lt_add_one, co, xo1, xa1, xb1, xc1, xf1, x11, x21, x31, x41, x51, q1]
      refine PM_use (c_Row_size D1.p (d + 5)) ?_
      rintro v h1 l1 ⟨rfl, rfl⟩
      show W_X11_hitsBehind _ _ _ _ _ _ _ _ _
      simp only [w_X11_hitsBehind_25, w_X11_hitsBehind_28, w_X11_hitsBehind_29, w_X11_hitsBehind_32, w_X11_hitsBehind_33, w_X11_hitsBehind_36, w_X11_hitsBehind_39, w_X11_hitsBehind_40, w_X11_hitsBehind_43, w_X11_hitsBehind_46, w_X11_hitsBehind_47, w_X11_hitsBehind_50, w_X11_hitsBehind_53, w_X11_hitsBehind_54, w_X11_hitsBehind_57, w_X11_hitsBehind_60, pm_1i_c, pm_2i_c, pm_1l_c, pm_2l_c, pm_1a_c, pm_ia_c, pm_iia_c, pm_va_c, pm_cp_c, pm_k0_c, pm_k1_c, pm_k2_c, pm_k3_c, pm_s1_c, pm_s2_c, pm_s3_c, pm_s4_c, pm_ri_c, pm_ra_c, pm_rn_c, pm_rk_i, pm_rk_z, pm_rk_a, pm_vk_i, pm_vk_z, pm_vk_a, pm_cti, pm_ctr, pm_ldi_z, pm_ldi_s, pm_lda_z, pm_lda_s, pm_cat_n, pm_cat_i, pm_cat_r, pm_cat_l, pm_obj, pm_arr, pm_opt, pm_ird, pm_aln, List.getElem?_cons_zero, List.getElem?_cons_succ, List.set_cons_zero, List.set_cons_succ, List.length_cons, List.length_nil, List.length_set, true_and, and_true, Nat.add_zero, Nat.zero_add, Nat.le_refl, Nat.reduceAdd, Nat.reduceLT, Nat.reduceLeDiff, Nat.zero_le, not_false_eq_true, not_true_eq_false, false_implies, implies_true, true_implies, Nat.zero_lt_succ, Nat.lt_add_one, pm_tl_n, pm_tl_s, sc_uL, e1, co, xo2, xa2, xb2, xc2, xf2, x12, x22, x32, x42, x52, q1]
      rw [List.take_of_length_le (by omega)] at *
      exact ⟨rfl, C1, q2⟩
    | succ n ih =>
      intro k hn hk hh C1 D2 q1 q2
      have D1 := C1.d
      have co := C1.o
      have e1 : nI k < nI (li A 5).length := nI_lt (by omega) (by omega)
      have xo1 := D1.o
      have xa1 := D1.sh
      have xb1 := D1.ko
      have xc1 := D1.lo
      have xf1 := D1.co
      have x11 := D1.wo
      have x21 := D1.to
      have x31 := D1.so
      have x41 := D1.go
      have x51 := D1.po
      have xo2 := D2.o
      have xa2 := D2.sh
      have xb2 := D2.ko
      have xc2 := D2.lo
      have xf2 := D2.co
      have x12 := D2.wo
      have x22 := D2.to
      have x32 := D2.so
      have x42 := D2.go
      have x52 := D2.po
      rw [w_X11_hitsBehind_14]
      simp only [w_X11_hitsBehind_15, w_X11_hitsBehind_16, w_X11_hitsBehind_19, w_X11_hitsBehind_22, w_X11_hitsBehind_25, w_X11_hitsBehind_28, w_X11_hitsBehind_29, w_X11_hitsBehind_32, w_X11_hitsBehind_33, w_X11_hitsBehind_36, w_X11_hitsBehind_39, w_X11_hitsBehind_40, w_X11_hitsBehind_43, w_X11_hitsBehind_46, w_X11_hitsBehind_47, w_X11_hitsBehind_50, w_X11_hitsBehind_53, w_X11_hitsBehind_54, w_X11_hitsBehind_57, w_X11_hitsBehind_60, pm_1i_c, pm_2i_c, pm_1l_c, pm_2l_c, pm_1a_c, pm_ia_c, pm_iia_c, pm_va_c, pm_cp_c, pm_k0_c, pm_k1_c, pm_k2_c, pm_k3_c, pm_s1_c, pm_s2_c, pm_s3_c, pm_s4_c, pm_ri_c, pm_ra_c, pm_rn_c, pm_rk_i, pm_rk_z, pm_rk_a, pm_vk_i, pm_vk_z, pm_vk_a, pm_cti, pm_ctr, pm_ldi_z, pm_ldi_s, pm_lda_z, pm_lda_s, pm_cat_n, pm_cat_i, pm_cat_r, pm_cat_l, pm_obj, pm_arr, pm_opt, pm_ird, pm_aln, List.getElem?_cons_zero, List.getElem?_cons_succ, List.set_cons_zero, List.set_cons_succ, List.length_cons, List.length_nil, List.length_set, true_and, and_true, Nat.add_zero, Nat.zero_add, Nat.le_refl, Nat.reduceAdd, Nat.reduceLT, Nat.reduceLeDiff, Nat.zero_le, not_false_eq_true, not_true_eq_false, false_implies, implies_true, true_implies, Nat.zero_lt_succ, Nat.lt_add_one, co, xo1, xa1, xb1, xc1, xf1, x11, x21, x31, x41, x51, q1]
      refine PM_use (c_Row_size D1.p (d + 5)) ?_
      rintro v h1 l1 ⟨rfl, rfl⟩
      show W_X11_hitsBehind _ _ _ _ _ _ _ _ _
      simp only [w_X11_hitsBehind_25, w_X11_hitsBehind_28, w_X11_hitsBehind_29, w_X11_hitsBehind_32, w_X11_hitsBehind_33, w_X11_hitsBehind_36, w_X11_hitsBehind_39, w_X11_hitsBehind_40, w_X11_hitsBehind_43, w_X11_hitsBehind_46, w_X11_hitsBehind_47, w_X11_hitsBehind_50, w_X11_hitsBehind_53, w_X11_hitsBehind_54, w_X11_hitsBehind_57, w_X11_hitsBehind_60, pm_1i_c, pm_2i_c, pm_1l_c, pm_2l_c, pm_1a_c, pm_ia_c, pm_iia_c, pm_va_c, pm_cp_c, pm_k0_c, pm_k1_c, pm_k2_c, pm_k3_c, pm_s1_c, pm_s2_c, pm_s3_c, pm_s4_c, pm_ri_c, pm_ra_c, pm_rn_c, pm_rk_i, pm_rk_z, pm_rk_a, pm_vk_i, pm_vk_z, pm_vk_a, pm_cti, pm_ctr, pm_ldi_z, pm_ldi_s, pm_lda_z, pm_lda_s, pm_cat_n, pm_cat_i, pm_cat_r, pm_cat_l, pm_obj, pm_arr, pm_opt, pm_ird, pm_aln, List.getElem?_cons_zero, List.getElem?_cons_succ, List.set_cons_zero, List.set_cons_succ, List.length_cons, List.length_nil, List.length_set, true_and, and_true, Nat.add_zero, Nat.zero_add, Nat.le_refl, Nat.reduceAdd, Nat.reduceLT, Nat.reduceLeDiff, Nat.zero_le, not_false_eq_true, not_true_eq_false, false_implies, implies_true, true_implies, Nat.zero_lt_succ, Nat.lt_add_one, pm_tl_n, pm_tl_s, sc_uL, e1, co, xo1, xa1, xb1, xc1, xf1, x11, x21, x31, x41, x51, q1]
      refine PM_use (c_Row_get D1.p (nI k) (d + 5)) ?_
      rintro v h1 l1 ⟨rfl, rfl⟩
      rw [rw_getN (by omega)]
      show W_X11_hitsBehind _ _ _ _ _ _ _ _ _
      simp only [w_X11_hitsBehind_43, w_X11_hitsBehind_46, w_X11_hitsBehind_47, w_X11_hitsBehind_50, w_X11_hitsBehind_53, w_X11_hitsBehind_54, w_X11_hitsBehind_57, w_X11_hitsBehind_60, pm_1i_c, pm_2i_c, pm_1l_c, pm_2l_c, pm_1a_c, pm_ia_c, pm_iia_c, pm_va_c, pm_cp_c, pm_k0_c, pm_k1_c, pm_k2_c, pm_k3_c, pm_s1_c, pm_s2_c, pm_s3_c, pm_s4_c, pm_ri_c, pm_ra_c, pm_rn_c, pm_rk_i, pm_rk_z, pm_rk_a, pm_vk_i, pm_vk_z, pm_vk_a, pm_cti, pm_ctr, pm_ldi_z, pm_ldi_s, pm_lda_z, pm_lda_s, pm_cat_n, pm_cat_i, pm_cat_r, pm_cat_l, pm_obj, pm_arr, pm_opt, pm_ird, pm_aln, List.getElem?_cons_zero, List.getElem?_cons_succ, List.set_cons_zero, List.set_cons_succ, List.length_cons, List.length_nil, List.length_set, true_and, and_true, Nat.add_zero, Nat.zero_add, Nat.le_refl, Nat.reduceAdd, Nat.reduceLT, Nat.reduceLeDiff, Nat.zero_le, not_false_eq_true, not_true_eq_false, false_implies, implies_true, true_implies, Nat.zero_lt_succ, Nat.lt_add_one, pm_tl_n, pm_tl_s, sc_uL, xo2, xa2, xb2, xc2, xf2, x12, x22, x32, x42, x52, q1]
      refine PM_use (c_Desk_serve (by rw [q1]; exact hl) D2 (skV_fsF _ (skV_stl V door)) ((li A 5).getD k (-1)) d) ?_
      rintro v h2 l2 ⟨rfl, D3, f3⟩
      obtain ⟨C3, g3⟩ := C1.us D3 f3
      show W_X11_hitsBehind _ _ _ _ _ _ _ _ _
      simp only [w_X11_hitsBehind_46, w_X11_hitsBehind_47, w_X11_hitsBehind_50, pm_1i_c, pm_2i_c, pm_1l_c, pm_2l_c, pm_1a_c, pm_ia_c, pm_iia_c, pm_va_c, pm_cp_c, pm_k0_c, pm_k1_c, pm_k2_c, pm_k3_c, pm_s1_c, pm_s2_c, pm_s3_c, pm_s4_c, pm_ri_c, pm_ra_c, pm_rn_c, pm_rk_i, pm_rk_z, pm_rk_a, pm_vk_i, pm_vk_z, pm_vk_a, pm_cti, pm_ctr, pm_ldi_z, pm_ldi_s, pm_lda_z, pm_lda_s, pm_cat_n, pm_cat_i, pm_cat_r, pm_cat_l, pm_obj, pm_arr, pm_opt, pm_ird, pm_aln, List.getElem?_cons_zero, List.getElem?_cons_succ, List.set_cons_zero, List.set_cons_succ, List.length_cons, List.length_nil, List.length_set, true_and, and_true, Nat.add_zero, Nat.zero_add, Nat.le_refl, Nat.reduceAdd, Nat.reduceLT, Nat.reduceLeDiff, Nat.zero_le, not_false_eq_true, not_true_eq_false, false_implies, implies_true, true_implies, Nat.zero_lt_succ, Nat.lt_add_one, pm_tl_n, pm_tl_s, sc_uL, nI_1]
      refine ih (k + 1) (by omega) (by omega) h2 C3 ?_ (by rw [l2, q1]; rfl) (q2.tr g3)
      unfold fsF at D3 ⊢
      rw [take_foldA (by omega)]
      exact D3
  obtain ⟨S, D0s⟩ := C.sp
  have D0 := C.d
  have co := C.o
  have xo0 := D0.o
  have xa0 := D0.sh
  have xb0 := D0.ko
  have xc0 := D0.lo
  have xf0 := D0.co
  have x10 := D0.wo
  have x20 := D0.to
  have x30 := D0.so
  have x40 := D0.go
  have x50 := D0.po
  have xo0s := D0s.o
  have xa0s := D0s.sh
  have xb0s := D0s.ko
  have xc0s := D0s.lo
  have xf0s := D0s.co
  have x10s := D0s.wo
  have x20s := D0s.to
  have x30s := D0s.so
  have x40s := D0s.go
  have x50s := D0s.po
  simp only [w_X11_hitsBehind_0, w_X11_hitsBehind_1, w_X11_hitsBehind_4, w_X11_hitsBehind_5, w_X11_hitsBehind_8, w_X11_hitsBehind_9, pm_1i_c, pm_2i_c, pm_1l_c, pm_2l_c, pm_1a_c, pm_ia_c, pm_iia_c, pm_va_c, pm_cp_c, pm_k0_c, pm_k1_c, pm_k2_c, pm_k3_c, pm_s1_c, pm_s2_c, pm_s3_c, pm_s4_c, pm_ri_c, pm_ra_c, pm_rn_c, pm_rk_i, pm_rk_z, pm_rk_a, pm_vk_i, pm_vk_z, pm_vk_a, pm_cti, pm_ctr, pm_ldi_z, pm_ldi_s, pm_lda_z, pm_lda_s, pm_cat_n, pm_cat_i, pm_cat_r, pm_cat_l, pm_obj, pm_arr, pm_opt, pm_ird, pm_aln, List.getElem?_cons_zero, List.getElem?_cons_succ, List.set_cons_zero, List.set_cons_succ, List.length_cons, List.length_nil, List.length_set, true_and, and_true, Nat.add_zero, Nat.zero_add, Nat.le_refl, Nat.reduceAdd, Nat.reduceLT, Nat.reduceLeDiff, Nat.zero_le, not_false_eq_true, not_true_eq_false, false_implies, implies_true, true_implies, Nat.zero_lt_succ, Nat.lt_add_one, co, xo0, xa0, xb0, xc0, xf0, x10, x20, x30, x40, x50, xo0s, xa0s, xb0s, xc0s, xf0s, x10s, x20s, x30s, x40s, x50s]
  refine PM_use (c_Desk_startLike D0s D0 (by omega) V door (d + 1)) ?_
  rintro v h1 l1 ⟨rfl, D1, f1⟩
  obtain ⟨C1, g1⟩ := C.us D1 f1
  show W_X11_hitsBehind _ _ _ _ _ _ _ _ _
  simp only [w_X11_hitsBehind_12, w_X11_hitsBehind_13, pm_1i_c, pm_2i_c, pm_1l_c, pm_2l_c, pm_1a_c, pm_ia_c, pm_iia_c, pm_va_c, pm_cp_c, pm_k0_c, pm_k1_c, pm_k2_c, pm_k3_c, pm_s1_c, pm_s2_c, pm_s3_c, pm_s4_c, pm_ri_c, pm_ra_c, pm_rn_c, pm_rk_i, pm_rk_z, pm_rk_a, pm_vk_i, pm_vk_z, pm_vk_a, pm_cti, pm_ctr, pm_ldi_z, pm_ldi_s, pm_lda_z, pm_lda_s, pm_cat_n, pm_cat_i, pm_cat_r, pm_cat_l, pm_obj, pm_arr, pm_opt, pm_ird, pm_aln, List.getElem?_cons_zero, List.getElem?_cons_succ, List.set_cons_zero, List.set_cons_succ, List.length_cons, List.length_nil, List.length_set, true_and, and_true, Nat.add_zero, Nat.zero_add, Nat.le_refl, Nat.reduceAdd, Nat.reduceLT, Nat.reduceLeDiff, Nat.zero_le, not_false_eq_true, not_true_eq_false, false_implies, implies_true, true_implies, Nat.zero_lt_succ, Nat.lt_add_one, pm_tl_n, pm_tl_s, sc_uL]
  exact loop _ 0 rfl (by omega) h1 C1 (by rw [List.take_zero]; exact D1) (by rw [l1]; rfl) g1
def bsS (A : AD) : Nat → Int32 × Int32
  | 0 => (1, agn A 1)
  | i + 1 => if (bsS A i).2 < agn A (nI (10 * (i + 1))) then (nI (10 * (i + 1)), agn A (nI (10 * (i + 1)))) else bsS A i
theorem bsS_s (A : AD) (i : Nat) : bsS A (i + 1) = if (bsS A i).2 < agn A (nI (10 * (i + 1))) then (nI (10 * (i + 1)), agn A (nI (10 * (i + 1)))) else bsS A i := rfl
theorem c_F_best (hl : h.length ≤ 1000000) (C : cr_ h a bs ws A K ik ft) (V : skV A) (b : Int32) (d : Nat) : PM (d + 8) 131 [.ref a, .int b] h (fun v h' => v = some (.int (if b = 0 then (bsS A 9).1 else (bsS A 9).2)) ∧ cr_ h' a bs ws A K ik ft ∧ frC h h' a) := by
  refine en_X11_best rfl rfl ?_
  have loop : ∀ n i, 9 - i = n → i ≤ 9 → ∀ (hh : pmH) (x5 : Option Value), cr_ hh a bs ws A K ik ft → hh.length = h.length → frC h hh a → W_X11_best (d + 7) (h.length + 0) 0 (fun v h' => v = some (.int (if b = 0 then (bsS A 9).1 else (bsS A 9).2)) ∧ cr_ h' a bs ws A K ik ft ∧ frC h h' a) 12 [some (.ref a), some (.int b), some (.int (bsS A i).1), some (.int (bsS A i).2), some (.int (nI (10 * (i + 1)))), x5] [] hh 0 := by
    intro n
    induction n with
    | zero =>
      intro i hn hi hh x5 C1 q1 q2
      have : i = 9 := by omega
      subst this
      have e1 : (90 : Int32) < nI (10 * (9 + 1)) := by decide
      rw [w_X11_best_12]
      simp only [w_X11_best_14, w_X11_best_16, w_X11_best_19, w_X11_best_20, w_X11_best_22, w_X11_best_25, w_X11_best_27, w_X11_best_29, w_X11_best_30, w_X11_best_33, w_X11_best_35, w_X11_best_36, w_X11_best_38, w_X11_best_39, w_X11_best_42, w_X11_best_45, w_X11_best_46, w_X11_best_49, w_X11_best_50, w_X11_best_53, w_X11_best_54, pm_1i_c, pm_2i_c, pm_1l_c, pm_2l_c, pm_1a_c, pm_ia_c, pm_iia_c, pm_va_c, pm_cp_c, pm_k0_c, pm_k1_c, pm_k2_c, pm_k3_c, pm_s1_c, pm_s2_c, pm_s3_c, pm_s4_c, pm_ri_c, pm_ra_c, pm_rn_c, pm_rk_i, pm_rk_z, pm_rk_a, pm_vk_i, pm_vk_z, pm_vk_a, pm_cti, pm_ctr, pm_ldi_z, pm_ldi_s, pm_lda_z, pm_lda_s, pm_cat_n, pm_cat_i, pm_cat_r, pm_cat_l, pm_obj, pm_arr, pm_opt, pm_ird, pm_aln, List.getElem?_cons_zero, List.getElem?_cons_succ, List.set_cons_zero, List.set_cons_succ, List.length_cons, List.length_nil, List.length_set, true_and, and_true, Nat.add_zero, Nat.zero_add, Nat.le_refl, Nat.reduceAdd, Nat.reduceLT, Nat.reduceLeDiff, Nat.zero_le, not_false_eq_true, not_true_eq_false, false_implies, implies_true, true_implies, Nat.zero_lt_succ, Nat.lt_add_one, e1, q1]
      refine ⟨fun c => ?_, fun c => ?_⟩
      · rw [if_pos c]
        exact ⟨rfl, C1, q2⟩
      · rw [if_neg c]
        exact ⟨rfl, C1, q2⟩
    | succ n ih =>
      intro i hn hi hh x5 C1 q1 q2
      have co := C1.o
      have e1 : ¬ (90 : Int32) < nI (10 * (i + 1)) := nI_nlt (a := 90) (by omega) (by omega)
      have e2 : nI (10 * (i + 1)) + 10 = nI (10 * (i + 1 + 1)) := by
        rw [show (10 : Int32) = nI 10 from rfl, nI_add]
        rfl
      rw [w_X11_best_12]
      simp only [w_X11_best_14, w_X11_best_16, w_X11_best_19, w_X11_best_20, w_X11_best_22, pm_1i_c, pm_2i_c, pm_1l_c, pm_2l_c, pm_1a_c, pm_ia_c, pm_iia_c, pm_va_c, pm_cp_c, pm_k0_c, pm_k1_c, pm_k2_c, pm_k3_c, pm_s1_c, pm_s2_c, pm_s3_c, pm_s4_c, pm_ri_c, pm_ra_c, pm_rn_c, pm_rk_i, pm_rk_z, pm_rk_a, pm_vk_i, pm_vk_z, pm_vk_a, pm_cti, pm_ctr, pm_ldi_z, pm_ldi_s, pm_lda_z, pm_lda_s, pm_cat_n, pm_cat_i, pm_cat_r, pm_cat_l, pm_obj, pm_arr, pm_opt, pm_ird, pm_aln, List.getElem?_cons_zero, List.getElem?_cons_succ, List.set_cons_zero, List.set_cons_succ, List.length_cons, List.length_nil, List.length_set, true_and, and_true, Nat.add_zero, Nat.zero_add, Nat.le_refl, Nat.reduceAdd, Nat.reduceLT, Nat.reduceLeDiff, Nat.zero_le, not_false_eq_true, not_true_eq_false, false_implies, implies_true, true_implies, Nat.zero_lt_succ, Nat.lt_add_one, e1, q1, co]
      refine PM_use (c_F_hitsBehind (by rw [q1]; exact hl) C1 V (nI (10 * (i + 1))) d) ?_
      rintro v h2 l2 ⟨rfl, C2, g2⟩
      have I := ih (i + 1) (by omega) (by omega) h2 (some (.int (agn A (nI (10 * (i + 1)))))) C2 (by rw [l2, q1]; rfl) (q2.tr g2)
      rw [bsS_s A i] at I
      show W_X11_best _ _ _ _ _ _ _ _ _
      simp only [w_X11_best_25, w_X11_best_27, w_X11_best_29, w_X11_best_30, w_X11_best_33, w_X11_best_35, w_X11_best_36, w_X11_best_38, w_X11_best_39, w_X11_best_42, pm_1i_c, pm_2i_c, pm_1l_c, pm_2l_c, pm_1a_c, pm_ia_c, pm_iia_c, pm_va_c, pm_cp_c, pm_k0_c, pm_k1_c, pm_k2_c, pm_k3_c, pm_s1_c, pm_s2_c, pm_s3_c, pm_s4_c, pm_ri_c, pm_ra_c, pm_rn_c, pm_rk_i, pm_rk_z, pm_rk_a, pm_vk_i, pm_vk_z, pm_vk_a, pm_cti, pm_ctr, pm_ldi_z, pm_ldi_s, pm_lda_z, pm_lda_s, pm_cat_n, pm_cat_i, pm_cat_r, pm_cat_l, pm_obj, pm_arr, pm_opt, pm_ird, pm_aln, List.getElem?_cons_zero, List.getElem?_cons_succ, List.set_cons_zero, List.set_cons_succ, List.length_cons, List.length_nil, List.length_set, true_and, and_true, Nat.add_zero, Nat.zero_add, Nat.le_refl, Nat.reduceAdd, Nat.reduceLT, Nat.reduceLeDiff, Nat.zero_le, not_false_eq_true, not_true_eq_false, false_implies, implies_true, true_implies, Nat.zero_lt_succ, Nat.lt_add_one, pm_tl_n, pm_tl_s, sc_uL, e2]
      refine ⟨fun c => ?_, fun c => ?_⟩
      · rw [if_neg c] at I
        exact I
      · rw [if_pos c] at I
        exact I
  have co := C.o
  simp only [w_X11_best_0, w_X11_best_1, w_X11_best_2, w_X11_best_3, w_X11_best_4, pm_1i_c, pm_2i_c, pm_1l_c, pm_2l_c, pm_1a_c, pm_ia_c, pm_iia_c, pm_va_c, pm_cp_c, pm_k0_c, pm_k1_c, pm_k2_c, pm_k3_c, pm_s1_c, pm_s2_c, pm_s3_c, pm_s4_c, pm_ri_c, pm_ra_c, pm_rn_c, pm_rk_i, pm_rk_z, pm_rk_a, pm_vk_i, pm_vk_z, pm_vk_a, pm_cti, pm_ctr, pm_ldi_z, pm_ldi_s, pm_lda_z, pm_lda_s, pm_cat_n, pm_cat_i, pm_cat_r, pm_cat_l, pm_obj, pm_arr, pm_opt, pm_ird, pm_aln, List.getElem?_cons_zero, List.getElem?_cons_succ, List.set_cons_zero, List.set_cons_succ, List.length_cons, List.length_nil, List.length_set, true_and, and_true, Nat.add_zero, Nat.zero_add, Nat.le_refl, Nat.reduceAdd, Nat.reduceLT, Nat.reduceLeDiff, Nat.zero_le, not_false_eq_true, not_true_eq_false, false_implies, implies_true, true_implies, Nat.zero_lt_succ, Nat.lt_add_one, co]
  refine PM_use (c_F_hitsBehind hl C V 1 d) ?_
  rintro v h1 l1 ⟨rfl, C1, g1⟩
  show W_X11_best _ _ _ _ _ _ _ _ _
  simp only [w_X11_best_7, w_X11_best_8, w_X11_best_10, pm_1i_c, pm_2i_c, pm_1l_c, pm_2l_c, pm_1a_c, pm_ia_c, pm_iia_c, pm_va_c, pm_cp_c, pm_k0_c, pm_k1_c, pm_k2_c, pm_k3_c, pm_s1_c, pm_s2_c, pm_s3_c, pm_s4_c, pm_ri_c, pm_ra_c, pm_rn_c, pm_rk_i, pm_rk_z, pm_rk_a, pm_vk_i, pm_vk_z, pm_vk_a, pm_cti, pm_ctr, pm_ldi_z, pm_ldi_s, pm_lda_z, pm_lda_s, pm_cat_n, pm_cat_i, pm_cat_r, pm_cat_l, pm_obj, pm_arr, pm_opt, pm_ird, pm_aln, List.getElem?_cons_zero, List.getElem?_cons_succ, List.set_cons_zero, List.set_cons_succ, List.length_cons, List.length_nil, List.length_set, true_and, and_true, Nat.add_zero, Nat.zero_add, Nat.le_refl, Nat.reduceAdd, Nat.reduceLT, Nat.reduceLeDiff, Nat.zero_le, not_false_eq_true, not_true_eq_false, false_implies, implies_true, true_implies, Nat.zero_lt_succ, Nat.lt_add_one, pm_tl_n, pm_tl_s, sc_uL]
  exact loop 9 0 rfl (by omega) h1 _ C1 (by rw [l1]; rfl) g1
def plnF (A : AD) (room : Int32) : Int32 := nI ((meS (li A 5) (li A 5).length).2.countP (plP room))
def enS (A : AD) (n : Int32) : Nat → Nat → Int32
  | 0, _ => -1
  | f + 1, r => if plnF A (nI r) < n then enS A n f (r + 1) else nI r
theorem enS_s (A : AD) (n : Int32) (f r : Nat) : enS A n (f + 1) r = if plnF A (nI r) < n then enS A n f (r + 1) else nI r := rfl
theorem c_F_enough (C : cr_ h a bs ws A K ik ft) (n : Int32) (d : Nat) : PM (d + 3) 132 [.ref a, .int n] h (fun v h' => v = some (.int (enS A n 64 1)) ∧ cr_ h' a bs ws A K ik ft ∧ frC h h' a) := by
  refine en_X11_enough rfl rfl ?_
  have co := C.o
  have D0 := C.d
  obtain ⟨T, Dp, U, L⟩ := C.lb
  have lo := L.1
  have xo0 := D0.o
  have xa0 := D0.sh
  have xb0 := D0.ko
  have xc0 := D0.lo
  have xf0 := D0.co
  have x10 := D0.wo
  have x20 := D0.to
  have x30 := D0.so
  have x40 := D0.go
  have x50 := D0.po
  simp only [w_X11_enough_0, w_X11_enough_1, w_X11_enough_4, w_X11_enough_5, w_X11_enough_8, w_X11_enough_11, pm_1i_c, pm_2i_c, pm_1l_c, pm_2l_c, pm_1a_c, pm_ia_c, pm_iia_c, pm_va_c, pm_cp_c, pm_k0_c, pm_k1_c, pm_k2_c, pm_k3_c, pm_s1_c, pm_s2_c, pm_s3_c, pm_s4_c, pm_ri_c, pm_ra_c, pm_rn_c, pm_rk_i, pm_rk_z, pm_rk_a, pm_vk_i, pm_vk_z, pm_vk_a, pm_cti, pm_ctr, pm_ldi_z, pm_ldi_s, pm_lda_z, pm_lda_s, pm_cat_n, pm_cat_i, pm_cat_r, pm_cat_l, pm_obj, pm_arr, pm_opt, pm_ird, pm_aln, List.getElem?_cons_zero, List.getElem?_cons_succ, List.set_cons_zero, List.set_cons_succ, List.length_cons, List.length_nil, List.length_set, true_and, and_true, Nat.add_zero, Nat.zero_add, Nat.le_refl, Nat.reduceAdd, Nat.reduceLT, Nat.reduceLeDiff, Nat.zero_le, not_false_eq_true, not_true_eq_false, false_implies, implies_true, true_implies, Nat.zero_lt_succ, Nat.lt_add_one, co, xo0, xa0, xb0, xc0, xf0, x10, x20, x30, x40, x50, lo]
  refine PM_use (c_Lb_measure L D0.p (by omega) d) ?_
  rintro v h1 l1 ⟨rfl, L1, f1⟩
  obtain ⟨C1, g1⟩ := C.ub L1 f1
  have co1 := C1.o
  have lo1 := L1.1
  have loop : ∀ f r, 65 - r = f → 1 ≤ r → r ≤ 65 → enS A n f r = enS A n 64 1 → W_X11_enough (d + 2) (h.length + 0) 0 (fun v h' => v = some (.int (enS A n 64 1)) ∧ cr_ h' a bs ws A K ik ft ∧ frC h h' a) 16 [some (.ref a), some (.int n), some (.int (nI r))] [] h1 0 := by
    intro f
    induction f with
    | zero =>
      intro r hf hr1 hr e
      have : r = 65 := by omega
      subst this
      have e1 : (64 : Int32) < nI 65 := by decide
      rw [w_X11_enough_16]
      simp only [w_X11_enough_17, w_X11_enough_19, w_X11_enough_22, w_X11_enough_23, w_X11_enough_26, w_X11_enough_27, w_X11_enough_30, w_X11_enough_31, w_X11_enough_34, w_X11_enough_35, w_X11_enough_36, w_X11_enough_39, w_X11_enough_42, w_X11_enough_43, pm_1i_c, pm_2i_c, pm_1l_c, pm_2l_c, pm_1a_c, pm_ia_c, pm_iia_c, pm_va_c, pm_cp_c, pm_k0_c, pm_k1_c, pm_k2_c, pm_k3_c, pm_s1_c, pm_s2_c, pm_s3_c, pm_s4_c, pm_ri_c, pm_ra_c, pm_rn_c, pm_rk_i, pm_rk_z, pm_rk_a, pm_vk_i, pm_vk_z, pm_vk_a, pm_cti, pm_ctr, pm_ldi_z, pm_ldi_s, pm_lda_z, pm_lda_s, pm_cat_n, pm_cat_i, pm_cat_r, pm_cat_l, pm_obj, pm_arr, pm_opt, pm_ird, pm_aln, List.getElem?_cons_zero, List.getElem?_cons_succ, List.set_cons_zero, List.set_cons_succ, List.length_cons, List.length_nil, List.length_set, true_and, and_true, Nat.add_zero, Nat.zero_add, Nat.le_refl, Nat.reduceAdd, Nat.reduceLT, Nat.reduceLeDiff, Nat.zero_le, not_false_eq_true, not_true_eq_false, false_implies, implies_true, true_implies, Nat.zero_lt_succ, Nat.lt_add_one, e1, l1]
      rw [← e]
      exact ⟨rfl, C1, g1⟩
    | succ f ih =>
      intro r hf hr1 hr e
      have e1 : ¬ (64 : Int32) < nI r := nI_nlt (a := 64) (by omega) (by omega)
      rw [enS_s] at e
      rw [w_X11_enough_16]
      simp only [w_X11_enough_17, w_X11_enough_19, w_X11_enough_22, w_X11_enough_23, w_X11_enough_26, w_X11_enough_27, w_X11_enough_30, w_X11_enough_31, w_X11_enough_34, w_X11_enough_35, w_X11_enough_36, w_X11_enough_39, w_X11_enough_42, w_X11_enough_43, pm_1i_c, pm_2i_c, pm_1l_c, pm_2l_c, pm_1a_c, pm_ia_c, pm_iia_c, pm_va_c, pm_cp_c, pm_k0_c, pm_k1_c, pm_k2_c, pm_k3_c, pm_s1_c, pm_s2_c, pm_s3_c, pm_s4_c, pm_ri_c, pm_ra_c, pm_rn_c, pm_rk_i, pm_rk_z, pm_rk_a, pm_vk_i, pm_vk_z, pm_vk_a, pm_cti, pm_ctr, pm_ldi_z, pm_ldi_s, pm_lda_z, pm_lda_s, pm_cat_n, pm_cat_i, pm_cat_r, pm_cat_l, pm_obj, pm_arr, pm_opt, pm_ird, pm_aln, List.getElem?_cons_zero, List.getElem?_cons_succ, List.set_cons_zero, List.set_cons_succ, List.length_cons, List.length_nil, List.length_set, true_and, and_true, Nat.add_zero, Nat.zero_add, Nat.le_refl, Nat.reduceAdd, Nat.reduceLT, Nat.reduceLeDiff, Nat.zero_le, not_false_eq_true, not_true_eq_false, false_implies, implies_true, true_implies, Nat.zero_lt_succ, Nat.lt_add_one, e1, l1, co1, lo1]
      refine PM_use (c_Lb_plainHits L1 (nI r) d) ?_
      rintro v h2 l2 ⟨rfl, rfl⟩
      show W_X11_enough _ _ _ _ _ _ _ _ _
      simp only [w_X11_enough_30, w_X11_enough_31, w_X11_enough_34, w_X11_enough_35, w_X11_enough_36, w_X11_enough_39, w_X11_enough_42, w_X11_enough_43, pm_1i_c, pm_2i_c, pm_1l_c, pm_2l_c, pm_1a_c, pm_ia_c, pm_iia_c, pm_va_c, pm_cp_c, pm_k0_c, pm_k1_c, pm_k2_c, pm_k3_c, pm_s1_c, pm_s2_c, pm_s3_c, pm_s4_c, pm_ri_c, pm_ra_c, pm_rn_c, pm_rk_i, pm_rk_z, pm_rk_a, pm_vk_i, pm_vk_z, pm_vk_a, pm_cti, pm_ctr, pm_ldi_z, pm_ldi_s, pm_lda_z, pm_lda_s, pm_cat_n, pm_cat_i, pm_cat_r, pm_cat_l, pm_obj, pm_arr, pm_opt, pm_ird, pm_aln, List.getElem?_cons_zero, List.getElem?_cons_succ, List.set_cons_zero, List.set_cons_succ, List.length_cons, List.length_nil, List.length_set, true_and, and_true, Nat.add_zero, Nat.zero_add, Nat.le_refl, Nat.reduceAdd, Nat.reduceLT, Nat.reduceLeDiff, Nat.zero_le, not_false_eq_true, not_true_eq_false, false_implies, implies_true, true_implies, Nat.zero_lt_succ, Nat.lt_add_one, pm_tl_n, pm_tl_s, sc_uL, l1, nI_1]
      refine ⟨fun c => ?_, fun c => ?_⟩
      · rw [if_pos (show plnF A (nI r) < n from c)] at e
        exact ih (r + 1) (by omega) (by omega) (by omega) e
      · rw [if_neg (show ¬ plnF A (nI r) < n from c)] at e
        rw [← e]
        exact ⟨rfl, C1, g1⟩
  show W_X11_enough _ _ _ _ _ _ _ _ _
  simp only [w_X11_enough_14, w_X11_enough_15, pm_1i_c, pm_2i_c, pm_1l_c, pm_2l_c, pm_1a_c, pm_ia_c, pm_iia_c, pm_va_c, pm_cp_c, pm_k0_c, pm_k1_c, pm_k2_c, pm_k3_c, pm_s1_c, pm_s2_c, pm_s3_c, pm_s4_c, pm_ri_c, pm_ra_c, pm_rn_c, pm_rk_i, pm_rk_z, pm_rk_a, pm_vk_i, pm_vk_z, pm_vk_a, pm_cti, pm_ctr, pm_ldi_z, pm_ldi_s, pm_lda_z, pm_lda_s, pm_cat_n, pm_cat_i, pm_cat_r, pm_cat_l, pm_obj, pm_arr, pm_opt, pm_ird, pm_aln, List.getElem?_cons_zero, List.getElem?_cons_succ, List.set_cons_zero, List.set_cons_succ, List.length_cons, List.length_nil, List.length_set, true_and, and_true, Nat.add_zero, Nat.zero_add, Nat.le_refl, Nat.reduceAdd, Nat.reduceLT, Nat.reduceLeDiff, Nat.zero_le, not_false_eq_true, not_true_eq_false, false_implies, implies_true, true_implies, Nat.zero_lt_succ, Nat.lt_add_one, pm_tl_n, pm_tl_s, sc_uL]
  exact loop 64 1 rfl (by omega) (by omega) rfl
theorem c_F_hot (hl : h.length ≤ 1000000) (C : cr_ h a bs ws A K ik ft) (V : skV A) (ht : (li A 1).length + (li A 2).length + (li A 3).length ≤ 65) (k : Int32) (d : Nat) : PM (d + 6) 134 [.ref a, .int k] h (fun v h' => v = some (.int (rw_get (hotL A) k)) ∧ cr_ h' a bs ws A K ik ft ∧ frC h h' a) := by
  refine en_X11_hot rfl rfl ?_
  have co := C.o
  have D0 := C.d
  have xo0 := D0.o
  have xa0 := D0.sh
  have xb0 := D0.ko
  have xc0 := D0.lo
  have xf0 := D0.co
  have x10 := D0.wo
  have x20 := D0.to
  have x30 := D0.so
  have x40 := D0.go
  have x50 := D0.po
  simp only [w_X11_hot_0, w_X11_hot_1, w_X11_hot_4, w_X11_hot_7, w_X11_hot_8, w_X11_hot_11, pm_1i_c, pm_2i_c, pm_1l_c, pm_2l_c, pm_1a_c, pm_ia_c, pm_iia_c, pm_va_c, pm_cp_c, pm_k0_c, pm_k1_c, pm_k2_c, pm_k3_c, pm_s1_c, pm_s2_c, pm_s3_c, pm_s4_c, pm_ri_c, pm_ra_c, pm_rn_c, pm_rk_i, pm_rk_z, pm_rk_a, pm_vk_i, pm_vk_z, pm_vk_a, pm_cti, pm_ctr, pm_ldi_z, pm_ldi_s, pm_lda_z, pm_lda_s, pm_cat_n, pm_cat_i, pm_cat_r, pm_cat_l, pm_obj, pm_arr, pm_opt, pm_ird, pm_aln, List.getElem?_cons_zero, List.getElem?_cons_succ, List.set_cons_zero, List.set_cons_succ, List.length_cons, List.length_nil, List.length_set, true_and, and_true, Nat.add_zero, Nat.zero_add, Nat.le_refl, Nat.reduceAdd, Nat.reduceLT, Nat.reduceLeDiff, Nat.zero_le, not_false_eq_true, not_true_eq_false, false_implies, implies_true, true_implies, Nat.zero_lt_succ, Nat.lt_add_one, co, xo0, xa0, xb0, xc0, xf0, x10, x20, x30, x40, x50]
  refine PM_use (c_Desk_hotKeys hl D0 V ht d) ?_
  rintro v h1 l1 ⟨rfl, D1, R1, f1⟩
  obtain ⟨C1, g1⟩ := C.ud D1 f1
  have ro := R1.o
  show W_X11_hot _ _ _ _ _ _ _ _ _
  simp only [w_X11_hot_0, w_X11_hot_1, w_X11_hot_4, w_X11_hot_7, w_X11_hot_8, w_X11_hot_11, pm_1i_c, pm_2i_c, pm_1l_c, pm_2l_c, pm_1a_c, pm_ia_c, pm_iia_c, pm_va_c, pm_cp_c, pm_k0_c, pm_k1_c, pm_k2_c, pm_k3_c, pm_s1_c, pm_s2_c, pm_s3_c, pm_s4_c, pm_ri_c, pm_ra_c, pm_rn_c, pm_rk_i, pm_rk_z, pm_rk_a, pm_vk_i, pm_vk_z, pm_vk_a, pm_cti, pm_ctr, pm_ldi_z, pm_ldi_s, pm_lda_z, pm_lda_s, pm_cat_n, pm_cat_i, pm_cat_r, pm_cat_l, pm_obj, pm_arr, pm_opt, pm_ird, pm_aln, List.getElem?_cons_zero, List.getElem?_cons_succ, List.set_cons_zero, List.set_cons_succ, List.length_cons, List.length_nil, List.length_set, true_and, and_true, Nat.add_zero, Nat.zero_add, Nat.le_refl, Nat.reduceAdd, Nat.reduceLT, Nat.reduceLeDiff, Nat.zero_le, not_false_eq_true, not_true_eq_false, false_implies, implies_true, true_implies, Nat.zero_lt_succ, Nat.lt_add_one, pm_tl_n, pm_tl_s, sc_uL, ro, l1]
  refine PM_use (c_Row_get R1 k (d + 4)) ?_
  rintro v h2 l2 ⟨rfl, rfl⟩
  show W_X11_hot _ _ _ _ _ _ _ _ _
  simp only [w_X11_hot_0, w_X11_hot_1, w_X11_hot_4, w_X11_hot_7, w_X11_hot_8, w_X11_hot_11, pm_1i_c, pm_2i_c, pm_1l_c, pm_2l_c, pm_1a_c, pm_ia_c, pm_iia_c, pm_va_c, pm_cp_c, pm_k0_c, pm_k1_c, pm_k2_c, pm_k3_c, pm_s1_c, pm_s2_c, pm_s3_c, pm_s4_c, pm_ri_c, pm_ra_c, pm_rn_c, pm_rk_i, pm_rk_z, pm_rk_a, pm_vk_i, pm_vk_z, pm_vk_a, pm_cti, pm_ctr, pm_ldi_z, pm_ldi_s, pm_lda_z, pm_lda_s, pm_cat_n, pm_cat_i, pm_cat_r, pm_cat_l, pm_obj, pm_arr, pm_opt, pm_ird, pm_aln, List.getElem?_cons_zero, List.getElem?_cons_succ, List.set_cons_zero, List.set_cons_succ, List.length_cons, List.length_nil, List.length_set, true_and, and_true, Nat.add_zero, Nat.zero_add, Nat.le_refl, Nat.reduceAdd, Nat.reduceLT, Nat.reduceLeDiff, Nat.zero_le, not_false_eq_true, not_true_eq_false, false_implies, implies_true, true_implies, Nat.zero_lt_succ, Nat.lt_add_one, pm_tl_n, pm_tl_s, sc_uL, l1]
  exact ⟨C1, g1⟩
theorem c_F_heat (hl : h.length ≤ 1000000) (C : cr_ h a bs ws A K ik ft) (V : skV A) (n : Int32) (d : Nat) : PM (d + 5) 135 [.ref a, .int n] h (fun v h' => v = some (.int (nI (kwN A n))) ∧ h' = h) := by
  refine en_X11_heat rfl rfl ?_
  have co := C.o
  have D0 := C.d
  have xo0 := D0.o
  have xa0 := D0.sh
  have xb0 := D0.ko
  have xc0 := D0.lo
  have xf0 := D0.co
  have x10 := D0.wo
  have x20 := D0.to
  have x30 := D0.so
  have x40 := D0.go
  have x50 := D0.po
  simp only [w_X11_heat_0, w_X11_heat_1, w_X11_heat_4, w_X11_heat_5, w_X11_heat_8, pm_1i_c, pm_2i_c, pm_1l_c, pm_2l_c, pm_1a_c, pm_ia_c, pm_iia_c, pm_va_c, pm_cp_c, pm_k0_c, pm_k1_c, pm_k2_c, pm_k3_c, pm_s1_c, pm_s2_c, pm_s3_c, pm_s4_c, pm_ri_c, pm_ra_c, pm_rn_c, pm_rk_i, pm_rk_z, pm_rk_a, pm_vk_i, pm_vk_z, pm_vk_a, pm_cti, pm_ctr, pm_ldi_z, pm_ldi_s, pm_lda_z, pm_lda_s, pm_cat_n, pm_cat_i, pm_cat_r, pm_cat_l, pm_obj, pm_arr, pm_opt, pm_ird, pm_aln, List.getElem?_cons_zero, List.getElem?_cons_succ, List.set_cons_zero, List.set_cons_succ, List.length_cons, List.length_nil, List.length_set, true_and, and_true, Nat.add_zero, Nat.zero_add, Nat.le_refl, Nat.reduceAdd, Nat.reduceLT, Nat.reduceLeDiff, Nat.zero_le, not_false_eq_true, not_true_eq_false, false_implies, implies_true, true_implies, Nat.zero_lt_succ, Nat.lt_add_one, co, xo0, xa0, xb0, xc0, xf0, x10, x20, x30, x40, x50]
  refine PM_use (c_Desk_keysWith hl D0 V n d) ?_
  rintro v h1 l1 ⟨rfl, rfl⟩
  show W_X11_heat _ _ _ _ _ _ _ _ _
  simp only [w_X11_heat_0, w_X11_heat_1, w_X11_heat_4, w_X11_heat_5, w_X11_heat_8, pm_1i_c, pm_2i_c, pm_1l_c, pm_2l_c, pm_1a_c, pm_ia_c, pm_iia_c, pm_va_c, pm_cp_c, pm_k0_c, pm_k1_c, pm_k2_c, pm_k3_c, pm_s1_c, pm_s2_c, pm_s3_c, pm_s4_c, pm_ri_c, pm_ra_c, pm_rn_c, pm_rk_i, pm_rk_z, pm_rk_a, pm_vk_i, pm_vk_z, pm_vk_a, pm_cti, pm_ctr, pm_ldi_z, pm_ldi_s, pm_lda_z, pm_lda_s, pm_cat_n, pm_cat_i, pm_cat_r, pm_cat_l, pm_obj, pm_arr, pm_opt, pm_ird, pm_aln, List.getElem?_cons_zero, List.getElem?_cons_succ, List.set_cons_zero, List.set_cons_succ, List.length_cons, List.length_nil, List.length_set, true_and, and_true, Nat.add_zero, Nat.zero_add, Nat.le_refl, Nat.reduceAdd, Nat.reduceLT, Nat.reduceLeDiff, Nat.zero_le, not_false_eq_true, not_true_eq_false, false_implies, implies_true, true_implies, Nat.zero_lt_succ, Nat.lt_add_one, pm_tl_n, pm_tl_s, sc_uL]
theorem c_F_write (C : cr_ h a bs ws A K ik ft) (d : Nat) : PM (d + 4) 136 [.ref a] h (fun v h' => v = some (.int (nI ((wtF (li A 5)).take 600).length)) ∧ cr_ h' a bs ((wtF (li A 5)).take 600) A K ik ft ∧ frC h h' a) := by
  refine en_X11_write rfl ?_
  have co := C.o
  have wo := C.wo
  simp only [w_X11_write_0, w_X11_write_1, w_X11_write_4, w_X11_write_5, pm_1i_c, pm_2i_c, pm_1l_c, pm_2l_c, pm_1a_c, pm_ia_c, pm_iia_c, pm_va_c, pm_cp_c, pm_k0_c, pm_k1_c, pm_k2_c, pm_k3_c, pm_s1_c, pm_s2_c, pm_s3_c, pm_s4_c, pm_ri_c, pm_ra_c, pm_rn_c, pm_rk_i, pm_rk_z, pm_rk_a, pm_vk_i, pm_vk_z, pm_vk_a, pm_cti, pm_ctr, pm_ldi_z, pm_ldi_s, pm_lda_z, pm_lda_s, pm_cat_n, pm_cat_i, pm_cat_r, pm_cat_l, pm_obj, pm_arr, pm_opt, pm_ird, pm_aln, List.getElem?_cons_zero, List.getElem?_cons_succ, List.set_cons_zero, List.set_cons_succ, List.length_cons, List.length_nil, List.length_set, true_and, and_true, Nat.add_zero, Nat.zero_add, Nat.le_refl, Nat.reduceAdd, Nat.reduceLT, Nat.reduceLeDiff, Nat.zero_le, not_false_eq_true, not_true_eq_false, false_implies, implies_true, true_implies, Nat.zero_lt_succ, Nat.lt_add_one, co, wo]
  refine PM_use (c_Row_cut0 C.wr (d + 2)) ?_
  rintro v h1 l1 ⟨rfl, K1, K2⟩
  obtain ⟨C1, g1⟩ := C.uw K1 K2
  have co1 := C1.o
  have wo1 := C1.wo
  have D1 := C1.d
  obtain ⟨T, Dp, U, L⟩ := C1.lb
  have lo := L.1
  have xo1 := D1.o
  have xa1 := D1.sh
  have xb1 := D1.ko
  have xc1 := D1.lo
  have xf1 := D1.co
  have x11 := D1.wo
  have x21 := D1.to
  have x31 := D1.so
  have x41 := D1.go
  have x51 := D1.po
  show W_X11_write _ _ _ _ _ _ _ _ _
  simp only [w_X11_write_8, w_X11_write_9, w_X11_write_12, w_X11_write_13, w_X11_write_16, w_X11_write_17, w_X11_write_20, w_X11_write_23, pm_1i_c, pm_2i_c, pm_1l_c, pm_2l_c, pm_1a_c, pm_ia_c, pm_iia_c, pm_va_c, pm_cp_c, pm_k0_c, pm_k1_c, pm_k2_c, pm_k3_c, pm_s1_c, pm_s2_c, pm_s3_c, pm_s4_c, pm_ri_c, pm_ra_c, pm_rn_c, pm_rk_i, pm_rk_z, pm_rk_a, pm_vk_i, pm_vk_z, pm_vk_a, pm_cti, pm_ctr, pm_ldi_z, pm_ldi_s, pm_lda_z, pm_lda_s, pm_cat_n, pm_cat_i, pm_cat_r, pm_cat_l, pm_obj, pm_arr, pm_opt, pm_ird, pm_aln, List.getElem?_cons_zero, List.getElem?_cons_succ, List.set_cons_zero, List.set_cons_succ, List.length_cons, List.length_nil, List.length_set, true_and, and_true, Nat.add_zero, Nat.zero_add, Nat.le_refl, Nat.reduceAdd, Nat.reduceLT, Nat.reduceLeDiff, Nat.zero_le, not_false_eq_true, not_true_eq_false, false_implies, implies_true, true_implies, Nat.zero_lt_succ, Nat.lt_add_one, pm_tl_n, pm_tl_s, sc_uL, co1, xo1, xa1, xb1, xc1, xf1, x11, x21, x31, x41, x51, lo, l1]
  refine PM_use (c_Lb_writeTo D1.p C1.wr (by omega) d) ?_
  rintro v h2 l2 ⟨rfl, K3, K4⟩
  obtain ⟨C2, g2⟩ := C1.uw K3 K4
  have co2 := C2.o
  have wo2 := C2.wo
  show W_X11_write _ _ _ _ _ _ _ _ _
  simp only [w_X11_write_26, w_X11_write_27, w_X11_write_30, pm_1i_c, pm_2i_c, pm_1l_c, pm_2l_c, pm_1a_c, pm_ia_c, pm_iia_c, pm_va_c, pm_cp_c, pm_k0_c, pm_k1_c, pm_k2_c, pm_k3_c, pm_s1_c, pm_s2_c, pm_s3_c, pm_s4_c, pm_ri_c, pm_ra_c, pm_rn_c, pm_rk_i, pm_rk_z, pm_rk_a, pm_vk_i, pm_vk_z, pm_vk_a, pm_cti, pm_ctr, pm_ldi_z, pm_ldi_s, pm_lda_z, pm_lda_s, pm_cat_n, pm_cat_i, pm_cat_r, pm_cat_l, pm_obj, pm_arr, pm_opt, pm_ird, pm_aln, List.getElem?_cons_zero, List.getElem?_cons_succ, List.set_cons_zero, List.set_cons_succ, List.length_cons, List.length_nil, List.length_set, true_and, and_true, Nat.add_zero, Nat.zero_add, Nat.le_refl, Nat.reduceAdd, Nat.reduceLT, Nat.reduceLeDiff, Nat.zero_le, not_false_eq_true, not_true_eq_false, false_implies, implies_true, true_implies, Nat.zero_lt_succ, Nat.lt_add_one, pm_tl_n, pm_tl_s, sc_uL, co2, wo2, l2, l1]
  refine PM_use (c_Row_size C2.wr (d + 2)) ?_
  rintro v h3 l3 ⟨rfl, rfl⟩
  show W_X11_write _ _ _ _ _ _ _ _ _
  simp only [w_X11_write_33, pm_1i_c, pm_2i_c, pm_1l_c, pm_2l_c, pm_1a_c, pm_ia_c, pm_iia_c, pm_va_c, pm_cp_c, pm_k0_c, pm_k1_c, pm_k2_c, pm_k3_c, pm_s1_c, pm_s2_c, pm_s3_c, pm_s4_c, pm_ri_c, pm_ra_c, pm_rn_c, pm_rk_i, pm_rk_z, pm_rk_a, pm_vk_i, pm_vk_z, pm_vk_a, pm_cti, pm_ctr, pm_ldi_z, pm_ldi_s, pm_lda_z, pm_lda_s, pm_cat_n, pm_cat_i, pm_cat_r, pm_cat_l, pm_obj, pm_arr, pm_opt, pm_ird, pm_aln, List.getElem?_cons_zero, List.getElem?_cons_succ, List.set_cons_zero, List.set_cons_succ, List.length_cons, List.length_nil, List.length_set, true_and, and_true, Nat.add_zero, Nat.zero_add, Nat.le_refl, Nat.reduceAdd, Nat.reduceLT, Nat.reduceLeDiff, Nat.zero_le, not_false_eq_true, not_true_eq_false, false_implies, implies_true, true_implies, Nat.zero_lt_succ, Nat.lt_add_one, pm_tl_n, pm_tl_s, sc_uL, l2, l1]
  exact ⟨C2, g1.tr g2⟩
theorem c_F_keep (C : cr_ h a bs ws A K ik ft) (V : skV A) (d : Nat) : PM (d + 6) 138 [.ref a] h (fun v h' => v = some (.int (sc A 2)) ∧ cr_ h' a bs ws A A 1 ft ∧ frC h h' a) := by
  refine en_X11_keep rfl ?_
  have co := C.o
  have D0 := C.d
  have D0k := C.k
  have xo0 := D0.o
  have xa0 := D0.sh
  have xb0 := D0.ko
  have xc0 := D0.lo
  have xf0 := D0.co
  have x10 := D0.wo
  have x20 := D0.to
  have x30 := D0.so
  have x40 := D0.go
  have x50 := D0.po
  have xo0k := D0k.o
  have xa0k := D0k.sh
  have xb0k := D0k.ko
  have xc0k := D0k.lo
  have xf0k := D0k.co
  have x10k := D0k.wo
  have x20k := D0k.to
  have x30k := D0k.so
  have x40k := D0k.go
  have x50k := D0k.po
  simp only [w_X11_keep_0, w_X11_keep_1, w_X11_keep_4, w_X11_keep_5, w_X11_keep_8, pm_1i_c, pm_2i_c, pm_1l_c, pm_2l_c, pm_1a_c, pm_ia_c, pm_iia_c, pm_va_c, pm_cp_c, pm_k0_c, pm_k1_c, pm_k2_c, pm_k3_c, pm_s1_c, pm_s2_c, pm_s3_c, pm_s4_c, pm_ri_c, pm_ra_c, pm_rn_c, pm_rk_i, pm_rk_z, pm_rk_a, pm_vk_i, pm_vk_z, pm_vk_a, pm_cti, pm_ctr, pm_ldi_z, pm_ldi_s, pm_lda_z, pm_lda_s, pm_cat_n, pm_cat_i, pm_cat_r, pm_cat_l, pm_obj, pm_arr, pm_opt, pm_ird, pm_aln, List.getElem?_cons_zero, List.getElem?_cons_succ, List.set_cons_zero, List.set_cons_succ, List.length_cons, List.length_nil, List.length_set, true_and, and_true, Nat.add_zero, Nat.zero_add, Nat.le_refl, Nat.reduceAdd, Nat.reduceLT, Nat.reduceLeDiff, Nat.zero_le, not_false_eq_true, not_true_eq_false, false_implies, implies_true, true_implies, Nat.zero_lt_succ, Nat.lt_add_one, co, xo0, xa0, xb0, xc0, xf0, x10, x20, x30, x40, x50, xo0k, xa0k, xb0k, xc0k, xf0k, x10k, x20k, x30k, x40k, x50k]
  refine PM_use (c_Desk_copyFrom D0k D0 (by omega) V d) ?_
  rintro v h1 l1 ⟨rfl, D1, f1⟩
  obtain ⟨C1, g1⟩ := C.uk D1 f1
  have co1 := C1.o
  obtain ⟨h2, E2, l2, g2, C2⟩ := C1.uo 1 ft
  show W_X11_keep _ _ _ _ _ _ _ _ _
  simp only [w_X11_keep_11, w_X11_keep_12, w_X11_keep_13, pm_1i_c, pm_2i_c, pm_1l_c, pm_2l_c, pm_1a_c, pm_ia_c, pm_iia_c, pm_va_c, pm_cp_c, pm_k0_c, pm_k1_c, pm_k2_c, pm_k3_c, pm_s1_c, pm_s2_c, pm_s3_c, pm_s4_c, pm_ri_c, pm_ra_c, pm_rn_c, pm_rk_i, pm_rk_z, pm_rk_a, pm_vk_i, pm_vk_z, pm_vk_a, pm_cti, pm_ctr, pm_ldi_z, pm_ldi_s, pm_lda_z, pm_lda_s, pm_cat_n, pm_cat_i, pm_cat_r, pm_cat_l, pm_obj, pm_arr, pm_opt, pm_ird, pm_aln, List.getElem?_cons_zero, List.getElem?_cons_succ, List.set_cons_zero, List.set_cons_succ, List.length_cons, List.length_nil, List.length_set, true_and, and_true, Nat.add_zero, Nat.zero_add, Nat.le_refl, Nat.reduceAdd, Nat.reduceLT, Nat.reduceLeDiff, Nat.zero_le, not_false_eq_true, not_true_eq_false, false_implies, implies_true, true_implies, Nat.zero_lt_succ, Nat.lt_add_one, pm_tl_n, pm_tl_s, sc_uL, co1, l1]
  refine ⟨Or.inr trivial, ?_⟩
  rw [E2]
  have co2 := C2.o
  have D2 := C2.k
  have xo2 := D2.o
  have xa2 := D2.sh
  have xb2 := D2.ko
  have xc2 := D2.lo
  have xf2 := D2.co
  have x12 := D2.wo
  have x22 := D2.to
  have x32 := D2.so
  have x42 := D2.go
  have x52 := D2.po
  simp only [w_X11_keep_16, w_X11_keep_17, w_X11_keep_20, w_X11_keep_23, pm_1i_c, pm_2i_c, pm_1l_c, pm_2l_c, pm_1a_c, pm_ia_c, pm_iia_c, pm_va_c, pm_cp_c, pm_k0_c, pm_k1_c, pm_k2_c, pm_k3_c, pm_s1_c, pm_s2_c, pm_s3_c, pm_s4_c, pm_ri_c, pm_ra_c, pm_rn_c, pm_rk_i, pm_rk_z, pm_rk_a, pm_vk_i, pm_vk_z, pm_vk_a, pm_cti, pm_ctr, pm_ldi_z, pm_ldi_s, pm_lda_z, pm_lda_s, pm_cat_n, pm_cat_i, pm_cat_r, pm_cat_l, pm_obj, pm_arr, pm_opt, pm_ird, pm_aln, List.getElem?_cons_zero, List.getElem?_cons_succ, List.set_cons_zero, List.set_cons_succ, List.length_cons, List.length_nil, List.length_set, true_and, and_true, Nat.add_zero, Nat.zero_add, Nat.le_refl, Nat.reduceAdd, Nat.reduceLT, Nat.reduceLeDiff, Nat.zero_le, not_false_eq_true, not_true_eq_false, false_implies, implies_true, true_implies, Nat.zero_lt_succ, Nat.lt_add_one, co2, xo2, xa2, xb2, xc2, xf2, x12, x22, x32, x42, x52, l2, l1]
  exact ⟨C2, g1.tr g2⟩
def cntG (A : AD) (w : Int32) : Int32 := if w = 10 then sc A 11 else if w = 11 then sc A 12 else if w = 12 then sc A 13 else if w = 13 then (if sc A 14 = 0 then 0 else 1) else if w = 14 then smF (fun k => if nt A k = 0 then 0 else 1) 256 else if w = 15 then smF (fun k => if cn A k = 0 then 0 else 1) 1024 else if w = 16 then smF (cn A) 1024 else if w = 17 then nI (li A 5).length else if w = 18 then sc A 23 else if w = 19 then sc A 6 else if w = 20 then sc A 7 else -1
def cntF (A : AD) (w : Int32) : Int32 := if w = 0 then sc A 2 else if w = 1 then sc A 3 else if w = 2 then sc A 4 else if w = 3 then sc A 5 else if w = 4 then sc A 0 else if w = 5 then sc A 1 else if w = 6 then nI (li A 1).length + nI (li A 2).length + nI (li A 3).length else if w = 7 then sc A 9 else if w = 8 then sc A 8 else if w = 9 then sc A 10 else cntG A w
theorem c_F_countMore (C : cr_ h a bs ws A K ik ft) (w : Int32) (d : Nat) : PM (d + 2) 140 [.ref a, .int w] h (fun v h' => v = some (.int (cntG A w)) ∧ h' = h) := by
  refine en_X11_countMore rfl rfl ?_
  have co := C.o
  have D0 := C.d
  have xo0 := D0.o
  have xa0 := D0.sh
  have xb0 := D0.ko
  have xc0 := D0.lo
  have xf0 := D0.co
  have x10 := D0.wo
  have x20 := D0.to
  have x30 := D0.so
  have x40 := D0.go
  have x50 := D0.po
  obtain ⟨dn, cell, hdn⟩ := D0.cl
  simp only [w_X11_countMore_0, w_X11_countMore_1, w_X11_countMore_60, w_X11_countMore_61, w_X11_countMore_64, w_X11_countMore_67, w_X11_countMore_70, w_X11_countMore_71, w_X11_countMore_72, w_X11_countMore_75, w_X11_countMore_78, w_X11_countMore_81, w_X11_countMore_82, w_X11_countMore_83, w_X11_countMore_86, w_X11_countMore_89, w_X11_countMore_92, w_X11_countMore_93, w_X11_countMore_94, w_X11_countMore_97, w_X11_countMore_100, w_X11_countMore_103, w_X11_countMore_106, w_X11_countMore_107, w_X11_countMore_110, w_X11_countMore_111, w_X11_countMore_112, w_X11_countMore_113, w_X11_countMore_116, w_X11_countMore_119, w_X11_countMore_122, w_X11_countMore_123, w_X11_countMore_124, w_X11_countMore_127, w_X11_countMore_130, w_X11_countMore_133, w_X11_countMore_134, w_X11_countMore_135, w_X11_countMore_138, w_X11_countMore_141, w_X11_countMore_144, w_X11_countMore_145, w_X11_countMore_146, w_X11_countMore_149, w_X11_countMore_152, w_X11_countMore_155, w_X11_countMore_156, w_X11_countMore_157, w_X11_countMore_160, w_X11_countMore_163, w_X11_countMore_166, w_X11_countMore_167, w_X11_countMore_168, w_X11_countMore_171, w_X11_countMore_174, w_X11_countMore_175, w_X11_countMore_176, w_X11_countMore_179, w_X11_countMore_182, w_X11_countMore_183, w_X11_countMore_184, pm_1i_c, pm_2i_c, pm_1l_c, pm_2l_c, pm_1a_c, pm_ia_c, pm_iia_c, pm_va_c, pm_cp_c, pm_k0_c, pm_k1_c, pm_k2_c, pm_k3_c, pm_s1_c, pm_s2_c, pm_s3_c, pm_s4_c, pm_ri_c, pm_ra_c, pm_rn_c, pm_rk_i, pm_rk_z, pm_rk_a, pm_vk_i, pm_vk_z, pm_vk_a, pm_cti, pm_ctr, pm_ldi_z, pm_ldi_s, pm_lda_z, pm_lda_s, pm_cat_n, pm_cat_i, pm_cat_r, pm_cat_l, pm_obj, pm_arr, pm_opt, pm_ird, pm_aln, List.getElem?_cons_zero, List.getElem?_cons_succ, List.set_cons_zero, List.set_cons_succ, List.length_cons, List.length_nil, List.length_set, true_and, and_true, Nat.add_zero, Nat.zero_add, Nat.le_refl, Nat.reduceAdd, Nat.reduceLT, Nat.reduceLeDiff, Nat.zero_le, not_false_eq_true, not_true_eq_false, false_implies, implies_true, true_implies, Nat.zero_lt_succ, Nat.lt_add_one, co, xo0, xa0, xb0, xc0, xf0, x10, x20, x30, x40, x50, cell, pm_sw_c, pm_sw_n, Int32.reduceAdd]
  unfold cntG
  refine ⟨fun c0 => by rw [if_pos c0], fun c0 => ?_⟩
  rw [if_neg c0]
  refine ⟨fun c0 => by rw [if_pos c0], fun c0 => ?_⟩
  rw [if_neg c0]
  refine ⟨fun c0 => by rw [if_pos c0], fun c0 => ?_⟩
  rw [if_neg c0]
  refine ⟨fun c0 => ?_, fun c0 => ?_⟩
  · rw [if_pos c0]
    exact ⟨fun c => by rw [if_pos c], fun c => by rw [if_neg c]⟩
  rw [if_neg c0]
  refine ⟨fun c0 => ?_, fun c0 => ?_⟩
  · rw [if_pos c0]
    refine PM_use (c_Sketch_bitsSet D0.sk d) ?_
    rintro v h1 l1 ⟨rfl, rfl⟩
    show W_X11_countMore _ _ _ _ _ _ _ _ _
    simp only [w_X11_countMore_0, w_X11_countMore_1, w_X11_countMore_60, w_X11_countMore_61, w_X11_countMore_64, w_X11_countMore_67, w_X11_countMore_70, w_X11_countMore_71, w_X11_countMore_72, w_X11_countMore_75, w_X11_countMore_78, w_X11_countMore_81, w_X11_countMore_82, w_X11_countMore_83, w_X11_countMore_86, w_X11_countMore_89, w_X11_countMore_92, w_X11_countMore_93, w_X11_countMore_94, w_X11_countMore_97, w_X11_countMore_100, w_X11_countMore_103, w_X11_countMore_106, w_X11_countMore_107, w_X11_countMore_110, w_X11_countMore_111, w_X11_countMore_112, w_X11_countMore_113, w_X11_countMore_116, w_X11_countMore_119, w_X11_countMore_122, w_X11_countMore_123, w_X11_countMore_124, w_X11_countMore_127, w_X11_countMore_130, w_X11_countMore_133, w_X11_countMore_134, w_X11_countMore_135, w_X11_countMore_138, w_X11_countMore_141, w_X11_countMore_144, w_X11_countMore_145, w_X11_countMore_146, w_X11_countMore_149, w_X11_countMore_152, w_X11_countMore_155, w_X11_countMore_156, w_X11_countMore_157, w_X11_countMore_160, w_X11_countMore_163, w_X11_countMore_166, w_X11_countMore_167, w_X11_countMore_168, w_X11_countMore_171, w_X11_countMore_174, w_X11_countMore_175, w_X11_countMore_176, w_X11_countMore_179, w_X11_countMore_182, w_X11_countMore_183, w_X11_countMore_184, pm_1i_c, pm_2i_c, pm_1l_c, pm_2l_c, pm_1a_c, pm_ia_c, pm_iia_c, pm_va_c, pm_cp_c, pm_k0_c, pm_k1_c, pm_k2_c, pm_k3_c, pm_s1_c, pm_s2_c, pm_s3_c, pm_s4_c, pm_ri_c, pm_ra_c, pm_rn_c, pm_rk_i, pm_rk_z, pm_rk_a, pm_vk_i, pm_vk_z, pm_vk_a, pm_cti, pm_ctr, pm_ldi_z, pm_ldi_s, pm_lda_z, pm_lda_s, pm_cat_n, pm_cat_i, pm_cat_r, pm_cat_l, pm_obj, pm_arr, pm_opt, pm_ird, pm_aln, List.getElem?_cons_zero, List.getElem?_cons_succ, List.set_cons_zero, List.set_cons_succ, List.length_cons, List.length_nil, List.length_set, true_and, and_true, Nat.add_zero, Nat.zero_add, Nat.le_refl, Nat.reduceAdd, Nat.reduceLT, Nat.reduceLeDiff, Nat.zero_le, not_false_eq_true, not_true_eq_false, false_implies, implies_true, true_implies, Nat.zero_lt_succ, Nat.lt_add_one, pm_tl_n, pm_tl_s, sc_uL]
  rw [if_neg c0]
  refine ⟨fun c0 => ?_, fun c0 => ?_⟩
  · rw [if_pos c0]
    refine PM_use (c_Sketch_countersUsed D0.sk d) ?_
    rintro v h1 l1 ⟨rfl, rfl⟩
    show W_X11_countMore _ _ _ _ _ _ _ _ _
    simp only [w_X11_countMore_0, w_X11_countMore_1, w_X11_countMore_60, w_X11_countMore_61, w_X11_countMore_64, w_X11_countMore_67, w_X11_countMore_70, w_X11_countMore_71, w_X11_countMore_72, w_X11_countMore_75, w_X11_countMore_78, w_X11_countMore_81, w_X11_countMore_82, w_X11_countMore_83, w_X11_countMore_86, w_X11_countMore_89, w_X11_countMore_92, w_X11_countMore_93, w_X11_countMore_94, w_X11_countMore_97, w_X11_countMore_100, w_X11_countMore_103, w_X11_countMore_106, w_X11_countMore_107, w_X11_countMore_110, w_X11_countMore_111, w_X11_countMore_112, w_X11_countMore_113, w_X11_countMore_116, w_X11_countMore_119, w_X11_countMore_122, w_X11_countMore_123, w_X11_countMore_124, w_X11_countMore_127, w_X11_countMore_130, w_X11_countMore_133, w_X11_countMore_134, w_X11_countMore_135, w_X11_countMore_138, w_X11_countMore_141, w_X11_countMore_144, w_X11_countMore_145, w_X11_countMore_146, w_X11_countMore_149, w_X11_countMore_152, w_X11_countMore_155, w_X11_countMore_156, w_X11_countMore_157, w_X11_countMore_160, w_X11_countMore_163, w_X11_countMore_166, w_X11_countMore_167, w_X11_countMore_168, w_X11_countMore_171, w_X11_countMore_174, w_X11_countMore_175, w_X11_countMore_176, w_X11_countMore_179, w_X11_countMore_182, w_X11_countMore_183, w_X11_countMore_184, pm_1i_c, pm_2i_c, pm_1l_c, pm_2l_c, pm_1a_c, pm_ia_c, pm_iia_c, pm_va_c, pm_cp_c, pm_k0_c, pm_k1_c, pm_k2_c, pm_k3_c, pm_s1_c, pm_s2_c, pm_s3_c, pm_s4_c, pm_ri_c, pm_ra_c, pm_rn_c, pm_rk_i, pm_rk_z, pm_rk_a, pm_vk_i, pm_vk_z, pm_vk_a, pm_cti, pm_ctr, pm_ldi_z, pm_ldi_s, pm_lda_z, pm_lda_s, pm_cat_n, pm_cat_i, pm_cat_r, pm_cat_l, pm_obj, pm_arr, pm_opt, pm_ird, pm_aln, List.getElem?_cons_zero, List.getElem?_cons_succ, List.set_cons_zero, List.set_cons_succ, List.length_cons, List.length_nil, List.length_set, true_and, and_true, Nat.add_zero, Nat.zero_add, Nat.le_refl, Nat.reduceAdd, Nat.reduceLT, Nat.reduceLeDiff, Nat.zero_le, not_false_eq_true, not_true_eq_false, false_implies, implies_true, true_implies, Nat.zero_lt_succ, Nat.lt_add_one, pm_tl_n, pm_tl_s, sc_uL]
  rw [if_neg c0]
  refine ⟨fun c0 => ?_, fun c0 => ?_⟩
  · rw [if_pos c0]
    refine PM_use (c_Sketch_countersTogether D0.sk d) ?_
    rintro v h1 l1 ⟨rfl, rfl⟩
    show W_X11_countMore _ _ _ _ _ _ _ _ _
    simp only [w_X11_countMore_0, w_X11_countMore_1, w_X11_countMore_60, w_X11_countMore_61, w_X11_countMore_64, w_X11_countMore_67, w_X11_countMore_70, w_X11_countMore_71, w_X11_countMore_72, w_X11_countMore_75, w_X11_countMore_78, w_X11_countMore_81, w_X11_countMore_82, w_X11_countMore_83, w_X11_countMore_86, w_X11_countMore_89, w_X11_countMore_92, w_X11_countMore_93, w_X11_countMore_94, w_X11_countMore_97, w_X11_countMore_100, w_X11_countMore_103, w_X11_countMore_106, w_X11_countMore_107, w_X11_countMore_110, w_X11_countMore_111, w_X11_countMore_112, w_X11_countMore_113, w_X11_countMore_116, w_X11_countMore_119, w_X11_countMore_122, w_X11_countMore_123, w_X11_countMore_124, w_X11_countMore_127, w_X11_countMore_130, w_X11_countMore_133, w_X11_countMore_134, w_X11_countMore_135, w_X11_countMore_138, w_X11_countMore_141, w_X11_countMore_144, w_X11_countMore_145, w_X11_countMore_146, w_X11_countMore_149, w_X11_countMore_152, w_X11_countMore_155, w_X11_countMore_156, w_X11_countMore_157, w_X11_countMore_160, w_X11_countMore_163, w_X11_countMore_166, w_X11_countMore_167, w_X11_countMore_168, w_X11_countMore_171, w_X11_countMore_174, w_X11_countMore_175, w_X11_countMore_176, w_X11_countMore_179, w_X11_countMore_182, w_X11_countMore_183, w_X11_countMore_184, pm_1i_c, pm_2i_c, pm_1l_c, pm_2l_c, pm_1a_c, pm_ia_c, pm_iia_c, pm_va_c, pm_cp_c, pm_k0_c, pm_k1_c, pm_k2_c, pm_k3_c, pm_s1_c, pm_s2_c, pm_s3_c, pm_s4_c, pm_ri_c, pm_ra_c, pm_rn_c, pm_rk_i, pm_rk_z, pm_rk_a, pm_vk_i, pm_vk_z, pm_vk_a, pm_cti, pm_ctr, pm_ldi_z, pm_ldi_s, pm_lda_z, pm_lda_s, pm_cat_n, pm_cat_i, pm_cat_r, pm_cat_l, pm_obj, pm_arr, pm_opt, pm_ird, pm_aln, List.getElem?_cons_zero, List.getElem?_cons_succ, List.set_cons_zero, List.set_cons_succ, List.length_cons, List.length_nil, List.length_set, true_and, and_true, Nat.add_zero, Nat.zero_add, Nat.le_refl, Nat.reduceAdd, Nat.reduceLT, Nat.reduceLeDiff, Nat.zero_le, not_false_eq_true, not_true_eq_false, false_implies, implies_true, true_implies, Nat.zero_lt_succ, Nat.lt_add_one, pm_tl_n, pm_tl_s, sc_uL]
  rw [if_neg c0]
  refine ⟨fun c0 => ?_, fun c0 => ?_⟩
  · rw [if_pos c0]
    refine PM_use (c_Row_size D0.p d) ?_
    rintro v h1 l1 ⟨rfl, rfl⟩
    show W_X11_countMore _ _ _ _ _ _ _ _ _
    simp only [w_X11_countMore_0, w_X11_countMore_1, w_X11_countMore_60, w_X11_countMore_61, w_X11_countMore_64, w_X11_countMore_67, w_X11_countMore_70, w_X11_countMore_71, w_X11_countMore_72, w_X11_countMore_75, w_X11_countMore_78, w_X11_countMore_81, w_X11_countMore_82, w_X11_countMore_83, w_X11_countMore_86, w_X11_countMore_89, w_X11_countMore_92, w_X11_countMore_93, w_X11_countMore_94, w_X11_countMore_97, w_X11_countMore_100, w_X11_countMore_103, w_X11_countMore_106, w_X11_countMore_107, w_X11_countMore_110, w_X11_countMore_111, w_X11_countMore_112, w_X11_countMore_113, w_X11_countMore_116, w_X11_countMore_119, w_X11_countMore_122, w_X11_countMore_123, w_X11_countMore_124, w_X11_countMore_127, w_X11_countMore_130, w_X11_countMore_133, w_X11_countMore_134, w_X11_countMore_135, w_X11_countMore_138, w_X11_countMore_141, w_X11_countMore_144, w_X11_countMore_145, w_X11_countMore_146, w_X11_countMore_149, w_X11_countMore_152, w_X11_countMore_155, w_X11_countMore_156, w_X11_countMore_157, w_X11_countMore_160, w_X11_countMore_163, w_X11_countMore_166, w_X11_countMore_167, w_X11_countMore_168, w_X11_countMore_171, w_X11_countMore_174, w_X11_countMore_175, w_X11_countMore_176, w_X11_countMore_179, w_X11_countMore_182, w_X11_countMore_183, w_X11_countMore_184, pm_1i_c, pm_2i_c, pm_1l_c, pm_2l_c, pm_1a_c, pm_ia_c, pm_iia_c, pm_va_c, pm_cp_c, pm_k0_c, pm_k1_c, pm_k2_c, pm_k3_c, pm_s1_c, pm_s2_c, pm_s3_c, pm_s4_c, pm_ri_c, pm_ra_c, pm_rn_c, pm_rk_i, pm_rk_z, pm_rk_a, pm_vk_i, pm_vk_z, pm_vk_a, pm_cti, pm_ctr, pm_ldi_z, pm_ldi_s, pm_lda_z, pm_lda_s, pm_cat_n, pm_cat_i, pm_cat_r, pm_cat_l, pm_obj, pm_arr, pm_opt, pm_ird, pm_aln, List.getElem?_cons_zero, List.getElem?_cons_succ, List.set_cons_zero, List.set_cons_succ, List.length_cons, List.length_nil, List.length_set, true_and, and_true, Nat.add_zero, Nat.zero_add, Nat.le_refl, Nat.reduceAdd, Nat.reduceLT, Nat.reduceLeDiff, Nat.zero_le, not_false_eq_true, not_true_eq_false, false_implies, implies_true, true_implies, Nat.zero_lt_succ, Nat.lt_add_one, pm_tl_n, pm_tl_s, sc_uL]
  rw [if_neg c0]
  refine ⟨fun c0 => by rw [if_pos c0], fun c0 => ?_⟩
  rw [if_neg c0]
  refine ⟨fun c0 => by rw [if_pos c0], fun c0 => ?_⟩
  rw [if_neg c0]
  exact ⟨fun c0 => by rw [if_pos c0], fun c0 => by rw [if_neg c0]⟩
theorem c_F_count (C : cr_ h a bs ws A K ik ft) (w : Int32) (d : Nat) : PM (d + 3) 139 [.ref a, .int w] h (fun v h' => v = some (.int (cntF A w)) ∧ h' = h) := by
  refine en_X11_count rfl rfl ?_
  have co := C.o
  have D0 := C.d
  have xo0 := D0.o
  have xa0 := D0.sh
  have xb0 := D0.ko
  have xc0 := D0.lo
  have xf0 := D0.co
  have x10 := D0.wo
  have x20 := D0.to
  have x30 := D0.so
  have x40 := D0.go
  have x50 := D0.po
  simp only [w_X11_count_0, w_X11_count_1, w_X11_count_56, w_X11_count_57, w_X11_count_60, w_X11_count_63, w_X11_count_64, w_X11_count_65, w_X11_count_68, w_X11_count_71, w_X11_count_72, w_X11_count_73, w_X11_count_76, w_X11_count_79, w_X11_count_80, w_X11_count_81, w_X11_count_84, w_X11_count_87, w_X11_count_88, w_X11_count_89, w_X11_count_92, w_X11_count_95, w_X11_count_98, w_X11_count_99, w_X11_count_100, w_X11_count_103, w_X11_count_106, w_X11_count_109, w_X11_count_110, w_X11_count_111, w_X11_count_114, w_X11_count_117, w_X11_count_120, w_X11_count_121, w_X11_count_124, w_X11_count_127, w_X11_count_130, w_X11_count_131, w_X11_count_132, w_X11_count_135, w_X11_count_138, w_X11_count_141, w_X11_count_142, w_X11_count_143, w_X11_count_144, w_X11_count_147, w_X11_count_150, w_X11_count_153, w_X11_count_154, w_X11_count_155, w_X11_count_158, w_X11_count_161, w_X11_count_164, w_X11_count_165, w_X11_count_166, w_X11_count_169, w_X11_count_172, w_X11_count_175, w_X11_count_176, w_X11_count_177, w_X11_count_178, w_X11_count_181, pm_1i_c, pm_2i_c, pm_1l_c, pm_2l_c, pm_1a_c, pm_ia_c, pm_iia_c, pm_va_c, pm_cp_c, pm_k0_c, pm_k1_c, pm_k2_c, pm_k3_c, pm_s1_c, pm_s2_c, pm_s3_c, pm_s4_c, pm_ri_c, pm_ra_c, pm_rn_c, pm_rk_i, pm_rk_z, pm_rk_a, pm_vk_i, pm_vk_z, pm_vk_a, pm_cti, pm_ctr, pm_ldi_z, pm_ldi_s, pm_lda_z, pm_lda_s, pm_cat_n, pm_cat_i, pm_cat_r, pm_cat_l, pm_obj, pm_arr, pm_opt, pm_ird, pm_aln, List.getElem?_cons_zero, List.getElem?_cons_succ, List.set_cons_zero, List.set_cons_succ, List.length_cons, List.length_nil, List.length_set, true_and, and_true, Nat.add_zero, Nat.zero_add, Nat.le_refl, Nat.reduceAdd, Nat.reduceLT, Nat.reduceLeDiff, Nat.zero_le, not_false_eq_true, not_true_eq_false, false_implies, implies_true, true_implies, Nat.zero_lt_succ, Nat.lt_add_one, co, xo0, xa0, xb0, xc0, xf0, x10, x20, x30, x40, x50, pm_sw_c, pm_sw_n, Int32.reduceAdd]
  unfold cntF
  refine ⟨fun c0 => by rw [if_pos c0], fun c0 => ?_⟩
  rw [if_neg c0]
  refine ⟨fun c0 => by rw [if_pos c0], fun c0 => ?_⟩
  rw [if_neg c0]
  refine ⟨fun c0 => by rw [if_pos c0], fun c0 => ?_⟩
  rw [if_neg c0]
  refine ⟨fun c0 => by rw [if_pos c0], fun c0 => ?_⟩
  rw [if_neg c0]
  refine ⟨fun c0 => by rw [if_pos c0], fun c0 => ?_⟩
  rw [if_neg c0]
  refine ⟨fun c0 => by rw [if_pos c0], fun c0 => ?_⟩
  rw [if_neg c0]
  refine ⟨fun c0 => ?_, fun c0 => ?_⟩
  · rw [if_pos c0]
    refine PM_use (c_Row_size D0.w (d + 1)) ?_
    rintro v h1 l1 ⟨rfl, rfl⟩
    show W_X11_count _ _ _ _ _ _ _ _ _
    simp only [w_X11_count_0, w_X11_count_1, w_X11_count_56, w_X11_count_57, w_X11_count_60, w_X11_count_63, w_X11_count_64, w_X11_count_65, w_X11_count_68, w_X11_count_71, w_X11_count_72, w_X11_count_73, w_X11_count_76, w_X11_count_79, w_X11_count_80, w_X11_count_81, w_X11_count_84, w_X11_count_87, w_X11_count_88, w_X11_count_89, w_X11_count_92, w_X11_count_95, w_X11_count_98, w_X11_count_99, w_X11_count_100, w_X11_count_103, w_X11_count_106, w_X11_count_109, w_X11_count_110, w_X11_count_111, w_X11_count_114, w_X11_count_117, w_X11_count_120, w_X11_count_121, w_X11_count_124, w_X11_count_127, w_X11_count_130, w_X11_count_131, w_X11_count_132, w_X11_count_135, w_X11_count_138, w_X11_count_141, w_X11_count_142, w_X11_count_143, w_X11_count_144, w_X11_count_147, w_X11_count_150, w_X11_count_153, w_X11_count_154, w_X11_count_155, w_X11_count_158, w_X11_count_161, w_X11_count_164, w_X11_count_165, w_X11_count_166, w_X11_count_169, w_X11_count_172, w_X11_count_175, w_X11_count_176, w_X11_count_177, w_X11_count_178, w_X11_count_181, pm_1i_c, pm_2i_c, pm_1l_c, pm_2l_c, pm_1a_c, pm_ia_c, pm_iia_c, pm_va_c, pm_cp_c, pm_k0_c, pm_k1_c, pm_k2_c, pm_k3_c, pm_s1_c, pm_s2_c, pm_s3_c, pm_s4_c, pm_ri_c, pm_ra_c, pm_rn_c, pm_rk_i, pm_rk_z, pm_rk_a, pm_vk_i, pm_vk_z, pm_vk_a, pm_cti, pm_ctr, pm_ldi_z, pm_ldi_s, pm_lda_z, pm_lda_s, pm_cat_n, pm_cat_i, pm_cat_r, pm_cat_l, pm_obj, pm_arr, pm_opt, pm_ird, pm_aln, List.getElem?_cons_zero, List.getElem?_cons_succ, List.set_cons_zero, List.set_cons_succ, List.length_cons, List.length_nil, List.length_set, true_and, and_true, Nat.add_zero, Nat.zero_add, Nat.le_refl, Nat.reduceAdd, Nat.reduceLT, Nat.reduceLeDiff, Nat.zero_le, not_false_eq_true, not_true_eq_false, false_implies, implies_true, true_implies, Nat.zero_lt_succ, Nat.lt_add_one, pm_tl_n, pm_tl_s, sc_uL, co, xo0, xa0, xb0, xc0, xf0, x10, x20, x30, x40, x50]
    refine PM_use (c_Row_size D0.t (d + 1)) ?_
    rintro v h1 l1 ⟨rfl, rfl⟩
    show W_X11_count _ _ _ _ _ _ _ _ _
    simp only [w_X11_count_0, w_X11_count_1, w_X11_count_56, w_X11_count_57, w_X11_count_60, w_X11_count_63, w_X11_count_64, w_X11_count_65, w_X11_count_68, w_X11_count_71, w_X11_count_72, w_X11_count_73, w_X11_count_76, w_X11_count_79, w_X11_count_80, w_X11_count_81, w_X11_count_84, w_X11_count_87, w_X11_count_88, w_X11_count_89, w_X11_count_92, w_X11_count_95, w_X11_count_98, w_X11_count_99, w_X11_count_100, w_X11_count_103, w_X11_count_106, w_X11_count_109, w_X11_count_110, w_X11_count_111, w_X11_count_114, w_X11_count_117, w_X11_count_120, w_X11_count_121, w_X11_count_124, w_X11_count_127, w_X11_count_130, w_X11_count_131, w_X11_count_132, w_X11_count_135, w_X11_count_138, w_X11_count_141, w_X11_count_142, w_X11_count_143, w_X11_count_144, w_X11_count_147, w_X11_count_150, w_X11_count_153, w_X11_count_154, w_X11_count_155, w_X11_count_158, w_X11_count_161, w_X11_count_164, w_X11_count_165, w_X11_count_166, w_X11_count_169, w_X11_count_172, w_X11_count_175, w_X11_count_176, w_X11_count_177, w_X11_count_178, w_X11_count_181, pm_1i_c, pm_2i_c, pm_1l_c, pm_2l_c, pm_1a_c, pm_ia_c, pm_iia_c, pm_va_c, pm_cp_c, pm_k0_c, pm_k1_c, pm_k2_c, pm_k3_c, pm_s1_c, pm_s2_c, pm_s3_c, pm_s4_c, pm_ri_c, pm_ra_c, pm_rn_c, pm_rk_i, pm_rk_z, pm_rk_a, pm_vk_i, pm_vk_z, pm_vk_a, pm_cti, pm_ctr, pm_ldi_z, pm_ldi_s, pm_lda_z, pm_lda_s, pm_cat_n, pm_cat_i, pm_cat_r, pm_cat_l, pm_obj, pm_arr, pm_opt, pm_ird, pm_aln, List.getElem?_cons_zero, List.getElem?_cons_succ, List.set_cons_zero, List.set_cons_succ, List.length_cons, List.length_nil, List.length_set, true_and, and_true, Nat.add_zero, Nat.zero_add, Nat.le_refl, Nat.reduceAdd, Nat.reduceLT, Nat.reduceLeDiff, Nat.zero_le, not_false_eq_true, not_true_eq_false, false_implies, implies_true, true_implies, Nat.zero_lt_succ, Nat.lt_add_one, pm_tl_n, pm_tl_s, sc_uL, co, xo0, xa0, xb0, xc0, xf0, x10, x20, x30, x40, x50]
    refine PM_use (c_Row_size D0.s (d + 1)) ?_
    rintro v h1 l1 ⟨rfl, rfl⟩
    show W_X11_count _ _ _ _ _ _ _ _ _
    simp only [w_X11_count_0, w_X11_count_1, w_X11_count_56, w_X11_count_57, w_X11_count_60, w_X11_count_63, w_X11_count_64, w_X11_count_65, w_X11_count_68, w_X11_count_71, w_X11_count_72, w_X11_count_73, w_X11_count_76, w_X11_count_79, w_X11_count_80, w_X11_count_81, w_X11_count_84, w_X11_count_87, w_X11_count_88, w_X11_count_89, w_X11_count_92, w_X11_count_95, w_X11_count_98, w_X11_count_99, w_X11_count_100, w_X11_count_103, w_X11_count_106, w_X11_count_109, w_X11_count_110, w_X11_count_111, w_X11_count_114, w_X11_count_117, w_X11_count_120, w_X11_count_121, w_X11_count_124, w_X11_count_127, w_X11_count_130, w_X11_count_131, w_X11_count_132, w_X11_count_135, w_X11_count_138, w_X11_count_141, w_X11_count_142, w_X11_count_143, w_X11_count_144, w_X11_count_147, w_X11_count_150, w_X11_count_153, w_X11_count_154, w_X11_count_155, w_X11_count_158, w_X11_count_161, w_X11_count_164, w_X11_count_165, w_X11_count_166, w_X11_count_169, w_X11_count_172, w_X11_count_175, w_X11_count_176, w_X11_count_177, w_X11_count_178, w_X11_count_181, pm_1i_c, pm_2i_c, pm_1l_c, pm_2l_c, pm_1a_c, pm_ia_c, pm_iia_c, pm_va_c, pm_cp_c, pm_k0_c, pm_k1_c, pm_k2_c, pm_k3_c, pm_s1_c, pm_s2_c, pm_s3_c, pm_s4_c, pm_ri_c, pm_ra_c, pm_rn_c, pm_rk_i, pm_rk_z, pm_rk_a, pm_vk_i, pm_vk_z, pm_vk_a, pm_cti, pm_ctr, pm_ldi_z, pm_ldi_s, pm_lda_z, pm_lda_s, pm_cat_n, pm_cat_i, pm_cat_r, pm_cat_l, pm_obj, pm_arr, pm_opt, pm_ird, pm_aln, List.getElem?_cons_zero, List.getElem?_cons_succ, List.set_cons_zero, List.set_cons_succ, List.length_cons, List.length_nil, List.length_set, true_and, and_true, Nat.add_zero, Nat.zero_add, Nat.le_refl, Nat.reduceAdd, Nat.reduceLT, Nat.reduceLeDiff, Nat.zero_le, not_false_eq_true, not_true_eq_false, false_implies, implies_true, true_implies, Nat.zero_lt_succ, Nat.lt_add_one, pm_tl_n, pm_tl_s, sc_uL]
  rw [if_neg c0]
  refine ⟨fun c0 => by rw [if_pos c0], fun c0 => ?_⟩
  rw [if_neg c0]
  refine ⟨fun c0 => by rw [if_pos c0], fun c0 => ?_⟩
  rw [if_neg c0]
  refine ⟨fun c0 => by rw [if_pos c0], fun c0 => ?_⟩
  rw [if_neg c0]
  refine PM_use (c_F_countMore C w d) ?_
  rintro v h1 l1 ⟨rfl, rfl⟩
  show W_X11_count _ _ _ _ _ _ _ _ _
  simp only [w_X11_count_0, w_X11_count_1, w_X11_count_56, w_X11_count_57, w_X11_count_60, w_X11_count_63, w_X11_count_64, w_X11_count_65, w_X11_count_68, w_X11_count_71, w_X11_count_72, w_X11_count_73, w_X11_count_76, w_X11_count_79, w_X11_count_80, w_X11_count_81, w_X11_count_84, w_X11_count_87, w_X11_count_88, w_X11_count_89, w_X11_count_92, w_X11_count_95, w_X11_count_98, w_X11_count_99, w_X11_count_100, w_X11_count_103, w_X11_count_106, w_X11_count_109, w_X11_count_110, w_X11_count_111, w_X11_count_114, w_X11_count_117, w_X11_count_120, w_X11_count_121, w_X11_count_124, w_X11_count_127, w_X11_count_130, w_X11_count_131, w_X11_count_132, w_X11_count_135, w_X11_count_138, w_X11_count_141, w_X11_count_142, w_X11_count_143, w_X11_count_144, w_X11_count_147, w_X11_count_150, w_X11_count_153, w_X11_count_154, w_X11_count_155, w_X11_count_158, w_X11_count_161, w_X11_count_164, w_X11_count_165, w_X11_count_166, w_X11_count_169, w_X11_count_172, w_X11_count_175, w_X11_count_176, w_X11_count_177, w_X11_count_178, w_X11_count_181, pm_1i_c, pm_2i_c, pm_1l_c, pm_2l_c, pm_1a_c, pm_ia_c, pm_iia_c, pm_va_c, pm_cp_c, pm_k0_c, pm_k1_c, pm_k2_c, pm_k3_c, pm_s1_c, pm_s2_c, pm_s3_c, pm_s4_c, pm_ri_c, pm_ra_c, pm_rn_c, pm_rk_i, pm_rk_z, pm_rk_a, pm_vk_i, pm_vk_z, pm_vk_a, pm_cti, pm_ctr, pm_ldi_z, pm_ldi_s, pm_lda_z, pm_lda_s, pm_cat_n, pm_cat_i, pm_cat_r, pm_cat_l, pm_obj, pm_arr, pm_opt, pm_ird, pm_aln, List.getElem?_cons_zero, List.getElem?_cons_succ, List.set_cons_zero, List.set_cons_succ, List.length_cons, List.length_nil, List.length_set, true_and, and_true, Nat.add_zero, Nat.zero_add, Nat.le_refl, Nat.reduceAdd, Nat.reduceLT, Nat.reduceLeDiff, Nat.zero_le, not_false_eq_true, not_true_eq_false, false_implies, implies_true, true_implies, Nat.zero_lt_succ, Nat.lt_add_one, pm_tl_n, pm_tl_s, sc_uL]
end FD
