/-! AdmissionDesk: the methods that throw. -/
section FE
variable {h h' : pmH} {a : Nat} {bs ws : List Int32} {A A' K S : AD} {ik ft : Int32}
/-- what a call leaves that changes nothing: its answer, or what it throws -/
def reQ (a : Nat) (bs ws : List Int32) (A K : AD) (ik ft : Int32) (h : pmH) (ok : Bool) (k : Nat) (x : Int32) : pmQ := fun v h' => v = some (if ok = true then .int x else .retAddr k) ∧ cr_ h' a bs ws A K ik ft ∧ frC h h' a
theorem c_F_ask (hl : h.length ≤ 1000000) (C : cr_ h a bs ws A K ik ft) (V : skV A) (key : Int32) (d : Nat) : W_X11_ask (d + 6) (h.length + 0) 0 (fun v h' => if kyB key = true then v = some (.int (nI (partN (srA A key) key))) ∧ cr_ h' a bs ws (srvF A key) K ik ft ∧ frC h h' a else v = some (.retAddr 0) ∧ cr_ h' a bs ws A K ik ft ∧ frC h h' a) 0 [some (.ref a), some (.int key)] [] h 0 := by
  have co := C.o
  have D0 := C.d
  have xo0 := D0.o
  have xa0 := D0.sh
  have xb0 := D0.ko
  have xc0 := D0.lo
  have xf0 := D0.co
  have x10 := D0.wo
  have x20 := D0.to
  have x30 := D0.so
  have x40 := D0.go
  have x50 := D0.po
  simp only [w_X11_ask_0, w_X11_ask_1, pm_1i_c, pm_2i_c, pm_1l_c, pm_2l_c, pm_1a_c, pm_ia_c, pm_iia_c, pm_va_c, pm_cp_c, pm_k0_c, pm_k1_c, pm_k2_c, pm_k3_c, pm_s1_c, pm_s2_c, pm_s3_c, pm_s4_c, pm_ri_c, pm_ra_c, pm_rn_c, pm_rk_i, pm_rk_z, pm_rk_a, pm_vk_i, pm_vk_z, pm_vk_a, pm_cti, pm_ctr, pm_ldi_z, pm_ldi_s, pm_lda_z, pm_lda_s, pm_cat_n, pm_cat_i, pm_cat_r, pm_cat_l, pm_obj, pm_arr, pm_opt, pm_ird, pm_aln, List.getElem?_cons_zero, List.getElem?_cons_succ, List.set_cons_zero, List.set_cons_succ, List.length_cons, List.length_nil, List.length_set, true_and, and_true, Nat.add_zero, Nat.zero_add, Nat.le_refl, Nat.reduceAdd, Nat.reduceLT, Nat.reduceLeDiff, Nat.zero_le, not_false_eq_true, not_true_eq_false, false_implies, implies_true, true_implies, Nat.zero_lt_succ, Nat.lt_add_one]
  refine PM_use (c_F_isKey key (d + 5)) ?_
  rintro v h1 l1 ⟨rfl, rfl⟩
  rcases Bool.eq_false_or_eq_true (kyB key) with c | c
  · simp only [c, if_true]
    show W_X11_ask _ _ _ _ _ _ _ _ _
    simp only [w_X11_ask_0, w_X11_ask_1, w_X11_ask_4, w_X11_ask_7, w_X11_ask_17, w_X11_ask_18, w_X11_ask_21, w_X11_ask_22, w_X11_ask_25, pm_1i_c, pm_2i_c, pm_1l_c, pm_2l_c, pm_1a_c, pm_ia_c, pm_iia_c, pm_va_c, pm_cp_c, pm_k0_c, pm_k1_c, pm_k2_c, pm_k3_c, pm_s1_c, pm_s2_c, pm_s3_c, pm_s4_c, pm_ri_c, pm_ra_c, pm_rn_c, pm_rk_i, pm_rk_z, pm_rk_a, pm_vk_i, pm_vk_z, pm_vk_a, pm_cti, pm_ctr, pm_ldi_z, pm_ldi_s, pm_lda_z, pm_lda_s, pm_cat_n, pm_cat_i, pm_cat_r, pm_cat_l, pm_obj, pm_arr, pm_opt, pm_ird, pm_aln, List.getElem?_cons_zero, List.getElem?_cons_succ, List.set_cons_zero, List.set_cons_succ, List.length_cons, List.length_nil, List.length_set, true_and, and_true, Nat.add_zero, Nat.zero_add, Nat.le_refl, Nat.reduceAdd, Nat.reduceLT, Nat.reduceLeDiff, Nat.zero_le, not_false_eq_true, not_true_eq_false, false_implies, implies_true, true_implies, Nat.zero_lt_succ, Nat.lt_add_one, pm_tl_n, pm_tl_s, sc_uL, show ¬ (1 : Int32) = 0 by decide, co, xo0, xa0, xb0, xc0, xf0, x10, x20, x30, x40, x50]
    refine PM_use (c_Desk_serve hl D0 V key d) ?_
    rintro v h2 l2 ⟨rfl, D1, f1⟩
    obtain ⟨C1, g1⟩ := C.ud D1 f1
    show W_X11_ask _ _ _ _ _ _ _ _ _
    simp only [w_X11_ask_0, w_X11_ask_1, w_X11_ask_4, w_X11_ask_7, w_X11_ask_17, w_X11_ask_18, w_X11_ask_21, w_X11_ask_22, w_X11_ask_25, pm_1i_c, pm_2i_c, pm_1l_c, pm_2l_c, pm_1a_c, pm_ia_c, pm_iia_c, pm_va_c, pm_cp_c, pm_k0_c, pm_k1_c, pm_k2_c, pm_k3_c, pm_s1_c, pm_s2_c, pm_s3_c, pm_s4_c, pm_ri_c, pm_ra_c, pm_rn_c, pm_rk_i, pm_rk_z, pm_rk_a, pm_vk_i, pm_vk_z, pm_vk_a, pm_cti, pm_ctr, pm_ldi_z, pm_ldi_s, pm_lda_z, pm_lda_s, pm_cat_n, pm_cat_i, pm_cat_r, pm_cat_l, pm_obj, pm_arr, pm_opt, pm_ird, pm_aln, List.getElem?_cons_zero, List.getElem?_cons_succ, List.set_cons_zero, List.set_cons_succ, List.length_cons, List.length_nil, List.length_set, true_and, and_true, Nat.add_zero, Nat.zero_add, Nat.le_refl, Nat.reduceAdd, Nat.reduceLT, Nat.reduceLeDiff, Nat.zero_le, not_false_eq_true, not_true_eq_false, false_implies, implies_true, true_implies, Nat.zero_lt_succ, Nat.lt_add_one, pm_tl_n, pm_tl_s, sc_uL, l2]
    exact ⟨C1, g1⟩
  · simp only [c, Bool.false_eq_true, if_false]
    show W_X11_ask _ _ _ _ _ _ _ _ _
    simp only [w_X11_ask_0, w_X11_ask_1, w_X11_ask_4, w_X11_ask_7, w_X11_ask_17, w_X11_ask_18, w_X11_ask_21, w_X11_ask_22, w_X11_ask_25, pm_1i_c, pm_2i_c, pm_1l_c, pm_2l_c, pm_1a_c, pm_ia_c, pm_iia_c, pm_va_c, pm_cp_c, pm_k0_c, pm_k1_c, pm_k2_c, pm_k3_c, pm_s1_c, pm_s2_c, pm_s3_c, pm_s4_c, pm_ri_c, pm_ra_c, pm_rn_c, pm_rk_i, pm_rk_z, pm_rk_a, pm_vk_i, pm_vk_z, pm_vk_a, pm_cti, pm_ctr, pm_ldi_z, pm_ldi_s, pm_lda_z, pm_lda_s, pm_cat_n, pm_cat_i, pm_cat_r, pm_cat_l, pm_obj, pm_arr, pm_opt, pm_ird, pm_aln, List.getElem?_cons_zero, List.getElem?_cons_succ, List.set_cons_zero, List.set_cons_succ, List.length_cons, List.length_nil, List.length_set, true_and, and_true, Nat.add_zero, Nat.zero_add, Nat.le_refl, Nat.reduceAdd, Nat.reduceLT, Nat.reduceLeDiff, Nat.zero_le, not_false_eq_true, not_true_eq_false, false_implies, implies_true, true_implies, Nat.zero_lt_succ, Nat.lt_add_one, pm_tl_n, pm_tl_s, sc_uL]
    exact ⟨C, frC.rf⟩
theorem c_F_where (C : cr_ h a bs ws A K ik ft) (key : Int32) (d : Nat) : W_X11_where (d + 2) (h.length + 0) 0 (reQ a bs ws A K ik ft h (kyB key) 0 (nI (partN A key))) 0 [some (.ref a), some (.int key)] [] h 0 := by
  have co := C.o
  have D0 := C.d
  have xo0 := D0.o
  have xa0 := D0.sh
  have xb0 := D0.ko
  have xc0 := D0.lo
  have xf0 := D0.co
  have x10 := D0.wo
  have x20 := D0.to
  have x30 := D0.so
  have x40 := D0.go
  have x50 := D0.po
  simp only [w_X11_where_0, w_X11_where_1, pm_1i_c, pm_2i_c, pm_1l_c, pm_2l_c, pm_1a_c, pm_ia_c, pm_iia_c, pm_va_c, pm_cp_c, pm_k0_c, pm_k1_c, pm_k2_c, pm_k3_c, pm_s1_c, pm_s2_c, pm_s3_c, pm_s4_c, pm_ri_c, pm_ra_c, pm_rn_c, pm_rk_i, pm_rk_z, pm_rk_a, pm_vk_i, pm_vk_z, pm_vk_a, pm_cti, pm_ctr, pm_ldi_z, pm_ldi_s, pm_lda_z, pm_lda_s, pm_cat_n, pm_cat_i, pm_cat_r, pm_cat_l, pm_obj, pm_arr, pm_opt, pm_ird, pm_aln, List.getElem?_cons_zero, List.getElem?_cons_succ, List.set_cons_zero, List.set_cons_succ, List.length_cons, List.length_nil, List.length_set, true_and, and_true, Nat.add_zero, Nat.zero_add, Nat.le_refl, Nat.reduceAdd, Nat.reduceLT, Nat.reduceLeDiff, Nat.zero_le, not_false_eq_true, not_true_eq_false, false_implies, implies_true, true_implies, Nat.zero_lt_succ, Nat.lt_add_one]
  refine PM_use (c_F_isKey key (d + 1)) ?_
  rintro v h1 l1 ⟨rfl, rfl⟩
  unfold reQ
  rcases Bool.eq_false_or_eq_true (kyB key) with c | c
  · simp only [c, if_true]
    show W_X11_where _ _ _ _ _ _ _ _ _
    simp only [w_X11_where_0, w_X11_where_1, w_X11_where_4, w_X11_where_7, w_X11_where_17, w_X11_where_18, w_X11_where_21, w_X11_where_22, w_X11_where_25, pm_1i_c, pm_2i_c, pm_1l_c, pm_2l_c, pm_1a_c, pm_ia_c, pm_iia_c, pm_va_c, pm_cp_c, pm_k0_c, pm_k1_c, pm_k2_c, pm_k3_c, pm_s1_c, pm_s2_c, pm_s3_c, pm_s4_c, pm_ri_c, pm_ra_c, pm_rn_c, pm_rk_i, pm_rk_z, pm_rk_a, pm_vk_i, pm_vk_z, pm_vk_a, pm_cti, pm_ctr, pm_ldi_z, pm_ldi_s, pm_lda_z, pm_lda_s, pm_cat_n, pm_cat_i, pm_cat_r, pm_cat_l, pm_obj, pm_arr, pm_opt, pm_ird, pm_aln, List.getElem?_cons_zero, List.getElem?_cons_succ, List.set_cons_zero, List.set_cons_succ, List.length_cons, List.length_nil, List.length_set, true_and, and_true, Nat.add_zero, Nat.zero_add, Nat.le_refl, Nat.reduceAdd, Nat.reduceLT, Nat.reduceLeDiff, Nat.zero_le, not_false_eq_true, not_true_eq_false, false_implies, implies_true, true_implies, Nat.zero_lt_succ, Nat.lt_add_one, pm_tl_n, pm_tl_s, sc_uL, show ¬ (1 : Int32) = 0 by decide, co, xo0, xa0, xb0, xc0, xf0, x10, x20, x30, x40, x50]
    refine PM_use (c_Desk_partOf D0 key d) ?_
    rintro v h2 l2 ⟨rfl, rfl⟩
    show W_X11_where _ _ _ _ _ _ _ _ _
    simp only [w_X11_where_0, w_X11_where_1, w_X11_where_4, w_X11_where_7, w_X11_where_17, w_X11_where_18, w_X11_where_21, w_X11_where_22, w_X11_where_25, pm_1i_c, pm_2i_c, pm_1l_c, pm_2l_c, pm_1a_c, pm_ia_c, pm_iia_c, pm_va_c, pm_cp_c, pm_k0_c, pm_k1_c, pm_k2_c, pm_k3_c, pm_s1_c, pm_s2_c, pm_s3_c, pm_s4_c, pm_ri_c, pm_ra_c, pm_rn_c, pm_rk_i, pm_rk_z, pm_rk_a, pm_vk_i, pm_vk_z, pm_vk_a, pm_cti, pm_ctr, pm_ldi_z, pm_ldi_s, pm_lda_z, pm_lda_s, pm_cat_n, pm_cat_i, pm_cat_r, pm_cat_l, pm_obj, pm_arr, pm_opt, pm_ird, pm_aln, List.getElem?_cons_zero, List.getElem?_cons_succ, List.set_cons_zero, List.set_cons_succ, List.length_cons, List.length_nil, List.length_set, true_and, and_true, Nat.add_zero, Nat.zero_add, Nat.le_refl, Nat.reduceAdd, Nat.reduceLT, Nat.reduceLeDiff, Nat.zero_le, not_false_eq_true, not_true_eq_false, false_implies, implies_true, true_implies, Nat.zero_lt_succ, Nat.lt_add_one, pm_tl_n, pm_tl_s, sc_uL]
    exact ⟨C, frC.rf⟩
  · simp only [c, Bool.false_eq_true, if_false]
    show W_X11_where _ _ _ _ _ _ _ _ _
    simp only [w_X11_where_0, w_X11_where_1, w_X11_where_4, w_X11_where_7, w_X11_where_17, w_X11_where_18, w_X11_where_21, w_X11_where_22, w_X11_where_25, pm_1i_c, pm_2i_c, pm_1l_c, pm_2l_c, pm_1a_c, pm_ia_c, pm_iia_c, pm_va_c, pm_cp_c, pm_k0_c, pm_k1_c, pm_k2_c, pm_k3_c, pm_s1_c, pm_s2_c, pm_s3_c, pm_s4_c, pm_ri_c, pm_ra_c, pm_rn_c, pm_rk_i, pm_rk_z, pm_rk_a, pm_vk_i, pm_vk_z, pm_vk_a, pm_cti, pm_ctr, pm_ldi_z, pm_ldi_s, pm_lda_z, pm_lda_s, pm_cat_n, pm_cat_i, pm_cat_r, pm_cat_l, pm_obj, pm_arr, pm_opt, pm_ird, pm_aln, List.getElem?_cons_zero, List.getElem?_cons_succ, List.set_cons_zero, List.set_cons_succ, List.length_cons, List.length_nil, List.length_set, true_and, and_true, Nat.add_zero, Nat.zero_add, Nat.le_refl, Nat.reduceAdd, Nat.reduceLT, Nat.reduceLeDiff, Nat.zero_le, not_false_eq_true, not_true_eq_false, false_implies, implies_true, true_implies, Nat.zero_lt_succ, Nat.lt_add_one, pm_tl_n, pm_tl_s, sc_uL]
    exact ⟨C, frC.rf⟩
theorem ptB_of {x : Int32} (c : ptB x = true) : ∃ p, 1 ≤ p ∧ p ≤ 3 ∧ x = nI p := by
  unfold ptB at c
  rw [decide_eq_true_eq] at c
  have h0 : ¬ x < 0 := fun z => c.1 (Int32.lt_trans z (by decide))
  obtain ⟨n, hn, rfl⟩ := nI_of h0
  have a1 : ¬ n < 1 := fun z => c.1 (nI_lt (b := 1) z (by omega))
  have a2 : ¬ 3 < n := fun z => c.2 (nI_lt (a := 3) z (by omega))
  exact ⟨n, by omega, by omega, rfl⟩
theorem c_F_part (C : cr_ h a bs ws A K ik ft) (p w : Int32) (d : Nat) : W_X11_part (d + 4) (h.length + 0) 0 (reQ a bs ws A K ik ft h (ptB p && (decide (w = 0) || decide (w = 1))) 1 (if w = 0 then nI (li A p.toNatClampNeg).length else pfI (sc A 8) (sc A 9) (sc A 10) p)) 0 [some (.ref a), some (.int p), some (.int w)] [] h 0 := by
  have co := C.o
  have D0 := C.d
  have xo0 := D0.o
  have xa0 := D0.sh
  have xb0 := D0.ko
  have xc0 := D0.lo
  have xf0 := D0.co
  have x10 := D0.wo
  have x20 := D0.to
  have x30 := D0.so
  have x40 := D0.go
  have x50 := D0.po
  simp only [w_X11_part_0, w_X11_part_1, pm_1i_c, pm_2i_c, pm_1l_c, pm_2l_c, pm_1a_c, pm_ia_c, pm_iia_c, pm_va_c, pm_cp_c, pm_k0_c, pm_k1_c, pm_k2_c, pm_k3_c, pm_s1_c, pm_s2_c, pm_s3_c, pm_s4_c, pm_ri_c, pm_ra_c, pm_rn_c, pm_rk_i, pm_rk_z, pm_rk_a, pm_vk_i, pm_vk_z, pm_vk_a, pm_cti, pm_ctr, pm_ldi_z, pm_ldi_s, pm_lda_z, pm_lda_s, pm_cat_n, pm_cat_i, pm_cat_r, pm_cat_l, pm_obj, pm_arr, pm_opt, pm_ird, pm_aln, List.getElem?_cons_zero, List.getElem?_cons_succ, List.set_cons_zero, List.set_cons_succ, List.length_cons, List.length_nil, List.length_set, true_and, and_true, Nat.add_zero, Nat.zero_add, Nat.le_refl, Nat.reduceAdd, Nat.reduceLT, Nat.reduceLeDiff, Nat.zero_le, not_false_eq_true, not_true_eq_false, false_implies, implies_true, true_implies, Nat.zero_lt_succ, Nat.lt_add_one]
  refine PM_use (c_F_isPart p (d + 3)) ?_
  rintro v h1 l1 ⟨rfl, rfl⟩
  unfold reQ
  rcases Bool.eq_false_or_eq_true (ptB p) with c | c
  · simp only [c, if_true, Bool.true_and]
    obtain ⟨q, q1, q2, rfl⟩ := ptB_of c
    have row := D0.row q1 (by omega : q ≤ 5)
    have ro := row.o
    by_cases w0 : w = 0
    · subst w0
      simp only [decide_true, Bool.true_or, if_true]
      show W_X11_part _ _ _ _ _ _ _ _ _
      simp only [w_X11_part_0, w_X11_part_1, w_X11_part_4, w_X11_part_7, w_X11_part_17, w_X11_part_18, w_X11_part_21, w_X11_part_22, w_X11_part_23, w_X11_part_26, w_X11_part_36, w_X11_part_37, w_X11_part_40, w_X11_part_41, w_X11_part_44, w_X11_part_45, w_X11_part_48, w_X11_part_51, w_X11_part_54, w_X11_part_55, w_X11_part_58, w_X11_part_61, w_X11_part_62, w_X11_part_65, pm_1i_c, pm_2i_c, pm_1l_c, pm_2l_c, pm_1a_c, pm_ia_c, pm_iia_c, pm_va_c, pm_cp_c, pm_k0_c, pm_k1_c, pm_k2_c, pm_k3_c, pm_s1_c, pm_s2_c, pm_s3_c, pm_s4_c, pm_ri_c, pm_ra_c, pm_rn_c, pm_rk_i, pm_rk_z, pm_rk_a, pm_vk_i, pm_vk_z, pm_vk_a, pm_cti, pm_ctr, pm_ldi_z, pm_ldi_s, pm_lda_z, pm_lda_s, pm_cat_n, pm_cat_i, pm_cat_r, pm_cat_l, pm_obj, pm_arr, pm_opt, pm_ird, pm_aln, List.getElem?_cons_zero, List.getElem?_cons_succ, List.set_cons_zero, List.set_cons_succ, List.length_cons, List.length_nil, List.length_set, true_and, and_true, Nat.add_zero, Nat.zero_add, Nat.le_refl, Nat.reduceAdd, Nat.reduceLT, Nat.reduceLeDiff, Nat.zero_le, not_false_eq_true, not_true_eq_false, false_implies, implies_true, true_implies, Nat.zero_lt_succ, Nat.lt_add_one, pm_tl_n, pm_tl_s, sc_uL, show ¬ (1 : Int32) = 0 by decide, co, xo0, xa0, xb0, xc0, xf0, x10, x20, x30, x40, x50]
      refine PM_use (c_Desk_rowOf D0 q1 q2 (d + 3)) ?_
      rintro v h2 l2 ⟨rfl, rfl⟩
      show W_X11_part _ _ _ _ _ _ _ _ _
      simp only [w_X11_part_0, w_X11_part_1, w_X11_part_4, w_X11_part_7, w_X11_part_17, w_X11_part_18, w_X11_part_21, w_X11_part_22, w_X11_part_23, w_X11_part_26, w_X11_part_36, w_X11_part_37, w_X11_part_40, w_X11_part_41, w_X11_part_44, w_X11_part_45, w_X11_part_48, w_X11_part_51, w_X11_part_54, w_X11_part_55, w_X11_part_58, w_X11_part_61, w_X11_part_62, w_X11_part_65, pm_1i_c, pm_2i_c, pm_1l_c, pm_2l_c, pm_1a_c, pm_ia_c, pm_iia_c, pm_va_c, pm_cp_c, pm_k0_c, pm_k1_c, pm_k2_c, pm_k3_c, pm_s1_c, pm_s2_c, pm_s3_c, pm_s4_c, pm_ri_c, pm_ra_c, pm_rn_c, pm_rk_i, pm_rk_z, pm_rk_a, pm_vk_i, pm_vk_z, pm_vk_a, pm_cti, pm_ctr, pm_ldi_z, pm_ldi_s, pm_lda_z, pm_lda_s, pm_cat_n, pm_cat_i, pm_cat_r, pm_cat_l, pm_obj, pm_arr, pm_opt, pm_ird, pm_aln, List.getElem?_cons_zero, List.getElem?_cons_succ, List.set_cons_zero, List.set_cons_succ, List.length_cons, List.length_nil, List.length_set, true_and, and_true, Nat.add_zero, Nat.zero_add, Nat.le_refl, Nat.reduceAdd, Nat.reduceLT, Nat.reduceLeDiff, Nat.zero_le, not_false_eq_true, not_true_eq_false, false_implies, implies_true, true_implies, Nat.zero_lt_succ, Nat.lt_add_one, pm_tl_n, pm_tl_s, sc_uL, ro]
      refine PM_use (c_Row_size row (d + 3)) ?_
      rintro v h2 l2 ⟨rfl, rfl⟩
      rw [nI_clamp (by omega)]
      show W_X11_part _ _ _ _ _ _ _ _ _
      simp only [w_X11_part_0, w_X11_part_1, w_X11_part_4, w_X11_part_7, w_X11_part_17, w_X11_part_18, w_X11_part_21, w_X11_part_22, w_X11_part_23, w_X11_part_26, w_X11_part_36, w_X11_part_37, w_X11_part_40, w_X11_part_41, w_X11_part_44, w_X11_part_45, w_X11_part_48, w_X11_part_51, w_X11_part_54, w_X11_part_55, w_X11_part_58, w_X11_part_61, w_X11_part_62, w_X11_part_65, pm_1i_c, pm_2i_c, pm_1l_c, pm_2l_c, pm_1a_c, pm_ia_c, pm_iia_c, pm_va_c, pm_cp_c, pm_k0_c, pm_k1_c, pm_k2_c, pm_k3_c, pm_s1_c, pm_s2_c, pm_s3_c, pm_s4_c, pm_ri_c, pm_ra_c, pm_rn_c, pm_rk_i, pm_rk_z, pm_rk_a, pm_vk_i, pm_vk_z, pm_vk_a, pm_cti, pm_ctr, pm_ldi_z, pm_ldi_s, pm_lda_z, pm_lda_s, pm_cat_n, pm_cat_i, pm_cat_r, pm_cat_l, pm_obj, pm_arr, pm_opt, pm_ird, pm_aln, List.getElem?_cons_zero, List.getElem?_cons_succ, List.set_cons_zero, List.set_cons_succ, List.length_cons, List.length_nil, List.length_set, true_and, and_true, Nat.add_zero, Nat.zero_add, Nat.le_refl, Nat.reduceAdd, Nat.reduceLT, Nat.reduceLeDiff, Nat.zero_le, not_false_eq_true, not_true_eq_false, false_implies, implies_true, true_implies, Nat.zero_lt_succ, Nat.lt_add_one, pm_tl_n, pm_tl_s, sc_uL]
      exact ⟨C, frC.rf⟩
    · by_cases w1 : w = 1
      · subst w1
        simp only [decide_true, Bool.or_true, if_true, show ¬ (1 : Int32) = 0 by decide, if_false]
        show W_X11_part _ _ _ _ _ _ _ _ _
        simp only [w_X11_part_0, w_X11_part_1, w_X11_part_4, w_X11_part_7, w_X11_part_17, w_X11_part_18, w_X11_part_21, w_X11_part_22, w_X11_part_23, w_X11_part_26, w_X11_part_36, w_X11_part_37, w_X11_part_40, w_X11_part_41, w_X11_part_44, w_X11_part_45, w_X11_part_48, w_X11_part_51, w_X11_part_54, w_X11_part_55, w_X11_part_58, w_X11_part_61, w_X11_part_62, w_X11_part_65, pm_1i_c, pm_2i_c, pm_1l_c, pm_2l_c, pm_1a_c, pm_ia_c, pm_iia_c, pm_va_c, pm_cp_c, pm_k0_c, pm_k1_c, pm_k2_c, pm_k3_c, pm_s1_c, pm_s2_c, pm_s3_c, pm_s4_c, pm_ri_c, pm_ra_c, pm_rn_c, pm_rk_i, pm_rk_z, pm_rk_a, pm_vk_i, pm_vk_z, pm_vk_a, pm_cti, pm_ctr, pm_ldi_z, pm_ldi_s, pm_lda_z, pm_lda_s, pm_cat_n, pm_cat_i, pm_cat_r, pm_cat_l, pm_obj, pm_arr, pm_opt, pm_ird, pm_aln, List.getElem?_cons_zero, List.getElem?_cons_succ, List.set_cons_zero, List.set_cons_succ, List.length_cons, List.length_nil, List.length_set, true_and, and_true, Nat.add_zero, Nat.zero_add, Nat.le_refl, Nat.reduceAdd, Nat.reduceLT, Nat.reduceLeDiff, Nat.zero_le, not_false_eq_true, not_true_eq_false, false_implies, implies_true, true_implies, Nat.zero_lt_succ, Nat.lt_add_one, pm_tl_n, pm_tl_s, sc_uL, show ¬ (1 : Int32) = 0 by decide, co, xo0, xa0, xb0, xc0, xf0, x10, x20, x30, x40, x50]
        refine PM_use (c_Shares_partFor D0.sh (nI q) d) ?_
        rintro v h2 l2 ⟨rfl, rfl⟩
        show W_X11_part _ _ _ _ _ _ _ _ _
        simp only [w_X11_part_0, w_X11_part_1, w_X11_part_4, w_X11_part_7, w_X11_part_17, w_X11_part_18, w_X11_part_21, w_X11_part_22, w_X11_part_23, w_X11_part_26, w_X11_part_36, w_X11_part_37, w_X11_part_40, w_X11_part_41, w_X11_part_44, w_X11_part_45, w_X11_part_48, w_X11_part_51, w_X11_part_54, w_X11_part_55, w_X11_part_58, w_X11_part_61, w_X11_part_62, w_X11_part_65, pm_1i_c, pm_2i_c, pm_1l_c, pm_2l_c, pm_1a_c, pm_ia_c, pm_iia_c, pm_va_c, pm_cp_c, pm_k0_c, pm_k1_c, pm_k2_c, pm_k3_c, pm_s1_c, pm_s2_c, pm_s3_c, pm_s4_c, pm_ri_c, pm_ra_c, pm_rn_c, pm_rk_i, pm_rk_z, pm_rk_a, pm_vk_i, pm_vk_z, pm_vk_a, pm_cti, pm_ctr, pm_ldi_z, pm_ldi_s, pm_lda_z, pm_lda_s, pm_cat_n, pm_cat_i, pm_cat_r, pm_cat_l, pm_obj, pm_arr, pm_opt, pm_ird, pm_aln, List.getElem?_cons_zero, List.getElem?_cons_succ, List.set_cons_zero, List.set_cons_succ, List.length_cons, List.length_nil, List.length_set, true_and, and_true, Nat.add_zero, Nat.zero_add, Nat.le_refl, Nat.reduceAdd, Nat.reduceLT, Nat.reduceLeDiff, Nat.zero_le, not_false_eq_true, not_true_eq_false, false_implies, implies_true, true_implies, Nat.zero_lt_succ, Nat.lt_add_one, pm_tl_n, pm_tl_s, sc_uL]
        exact ⟨C, frC.rf⟩
      · simp only [w0, w1, decide_false, Bool.or_false, Bool.false_eq_true, if_false]
        show W_X11_part _ _ _ _ _ _ _ _ _
        simp only [w_X11_part_0, w_X11_part_1, w_X11_part_4, w_X11_part_7, w_X11_part_17, w_X11_part_18, w_X11_part_21, w_X11_part_22, w_X11_part_23, w_X11_part_26, w_X11_part_36, w_X11_part_37, w_X11_part_40, w_X11_part_41, w_X11_part_44, w_X11_part_45, w_X11_part_48, w_X11_part_51, w_X11_part_54, w_X11_part_55, w_X11_part_58, w_X11_part_61, w_X11_part_62, w_X11_part_65, pm_1i_c, pm_2i_c, pm_1l_c, pm_2l_c, pm_1a_c, pm_ia_c, pm_iia_c, pm_va_c, pm_cp_c, pm_k0_c, pm_k1_c, pm_k2_c, pm_k3_c, pm_s1_c, pm_s2_c, pm_s3_c, pm_s4_c, pm_ri_c, pm_ra_c, pm_rn_c, pm_rk_i, pm_rk_z, pm_rk_a, pm_vk_i, pm_vk_z, pm_vk_a, pm_cti, pm_ctr, pm_ldi_z, pm_ldi_s, pm_lda_z, pm_lda_s, pm_cat_n, pm_cat_i, pm_cat_r, pm_cat_l, pm_obj, pm_arr, pm_opt, pm_ird, pm_aln, List.getElem?_cons_zero, List.getElem?_cons_succ, List.set_cons_zero, List.set_cons_succ, List.length_cons, List.length_nil, List.length_set, true_and, and_true, Nat.add_zero, Nat.zero_add, Nat.le_refl, Nat.reduceAdd, Nat.reduceLT, Nat.reduceLeDiff, Nat.zero_le, not_false_eq_true, not_true_eq_false, false_implies, implies_true, true_implies, Nat.zero_lt_succ, Nat.lt_add_one, pm_tl_n, pm_tl_s, sc_uL, show ¬ (1 : Int32) = 0 by decide, w0, w1]
        exact ⟨C, frC.rf⟩
  · simp only [c, Bool.false_eq_true, if_false, Bool.false_and]
    show W_X11_part _ _ _ _ _ _ _ _ _
    simp only [w_X11_part_0, w_X11_part_1, w_X11_part_4, w_X11_part_7, w_X11_part_17, w_X11_part_18, w_X11_part_21, w_X11_part_22, w_X11_part_23, w_X11_part_26, w_X11_part_36, w_X11_part_37, w_X11_part_40, w_X11_part_41, w_X11_part_44, w_X11_part_45, w_X11_part_48, w_X11_part_51, w_X11_part_54, w_X11_part_55, w_X11_part_58, w_X11_part_61, w_X11_part_62, w_X11_part_65, pm_1i_c, pm_2i_c, pm_1l_c, pm_2l_c, pm_1a_c, pm_ia_c, pm_iia_c, pm_va_c, pm_cp_c, pm_k0_c, pm_k1_c, pm_k2_c, pm_k3_c, pm_s1_c, pm_s2_c, pm_s3_c, pm_s4_c, pm_ri_c, pm_ra_c, pm_rn_c, pm_rk_i, pm_rk_z, pm_rk_a, pm_vk_i, pm_vk_z, pm_vk_a, pm_cti, pm_ctr, pm_ldi_z, pm_ldi_s, pm_lda_z, pm_lda_s, pm_cat_n, pm_cat_i, pm_cat_r, pm_cat_l, pm_obj, pm_arr, pm_opt, pm_ird, pm_aln, List.getElem?_cons_zero, List.getElem?_cons_succ, List.set_cons_zero, List.set_cons_succ, List.length_cons, List.length_nil, List.length_set, true_and, and_true, Nat.add_zero, Nat.zero_add, Nat.le_refl, Nat.reduceAdd, Nat.reduceLT, Nat.reduceLeDiff, Nat.zero_le, not_false_eq_true, not_true_eq_false, false_implies, implies_true, true_implies, Nat.zero_lt_succ, Nat.lt_add_one, pm_tl_n, pm_tl_s, sc_uL]
    exact ⟨C, frC.rf⟩
theorem c_F_at (C : cr_ h a bs ws A K ik ft) (p k : Int32) (d : Nat) : W_X11_at (d + 2) (h.length + 0) 0 (reQ a bs ws A K ik ft h (ptB p) 1 (rw_get (li A p.toNatClampNeg) k)) 0 [some (.ref a), some (.int p), some (.int k)] [] h 0 := by
  have co := C.o
  have D0 := C.d
  have xo0 := D0.o
  have xa0 := D0.sh
  have xb0 := D0.ko
  have xc0 := D0.lo
  have xf0 := D0.co
  have x10 := D0.wo
  have x20 := D0.to
  have x30 := D0.so
  have x40 := D0.go
  have x50 := D0.po
  simp only [w_X11_at_0, w_X11_at_1, pm_1i_c, pm_2i_c, pm_1l_c, pm_2l_c, pm_1a_c, pm_ia_c, pm_iia_c, pm_va_c, pm_cp_c, pm_k0_c, pm_k1_c, pm_k2_c, pm_k3_c, pm_s1_c, pm_s2_c, pm_s3_c, pm_s4_c, pm_ri_c, pm_ra_c, pm_rn_c, pm_rk_i, pm_rk_z, pm_rk_a, pm_vk_i, pm_vk_z, pm_vk_a, pm_cti, pm_ctr, pm_ldi_z, pm_ldi_s, pm_lda_z, pm_lda_s, pm_cat_n, pm_cat_i, pm_cat_r, pm_cat_l, pm_obj, pm_arr, pm_opt, pm_ird, pm_aln, List.getElem?_cons_zero, List.getElem?_cons_succ, List.set_cons_zero, List.set_cons_succ, List.length_cons, List.length_nil, List.length_set, true_and, and_true, Nat.add_zero, Nat.zero_add, Nat.le_refl, Nat.reduceAdd, Nat.reduceLT, Nat.reduceLeDiff, Nat.zero_le, not_false_eq_true, not_true_eq_false, false_implies, implies_true, true_implies, Nat.zero_lt_succ, Nat.lt_add_one]
  refine PM_use (c_F_isPart p (d + 1)) ?_
  rintro v h1 l1 ⟨rfl, rfl⟩
  unfold reQ
  rcases Bool.eq_false_or_eq_true (ptB p) with c | c
  · simp only [c, if_true]
    obtain ⟨q, q1, q2, rfl⟩ := ptB_of c
    have row := D0.row q1 (by omega : q ≤ 5)
    have ro := row.o
    show W_X11_at _ _ _ _ _ _ _ _ _
    simp only [w_X11_at_0, w_X11_at_1, w_X11_at_4, w_X11_at_7, w_X11_at_17, w_X11_at_18, w_X11_at_21, w_X11_at_22, w_X11_at_25, w_X11_at_26, w_X11_at_29, pm_1i_c, pm_2i_c, pm_1l_c, pm_2l_c, pm_1a_c, pm_ia_c, pm_iia_c, pm_va_c, pm_cp_c, pm_k0_c, pm_k1_c, pm_k2_c, pm_k3_c, pm_s1_c, pm_s2_c, pm_s3_c, pm_s4_c, pm_ri_c, pm_ra_c, pm_rn_c, pm_rk_i, pm_rk_z, pm_rk_a, pm_vk_i, pm_vk_z, pm_vk_a, pm_cti, pm_ctr, pm_ldi_z, pm_ldi_s, pm_lda_z, pm_lda_s, pm_cat_n, pm_cat_i, pm_cat_r, pm_cat_l, pm_obj, pm_arr, pm_opt, pm_ird, pm_aln, List.getElem?_cons_zero, List.getElem?_cons_succ, List.set_cons_zero, List.set_cons_succ, List.length_cons, List.length_nil, List.length_set, true_and, and_true, Nat.add_zero, Nat.zero_add, Nat.le_refl, Nat.reduceAdd, Nat.reduceLT, Nat.reduceLeDiff, Nat.zero_le, not_false_eq_true, not_true_eq_false, false_implies, implies_true, true_implies, Nat.zero_lt_succ, Nat.lt_add_one, pm_tl_n, pm_tl_s, sc_uL, show ¬ (1 : Int32) = 0 by decide, co, xo0, xa0, xb0, xc0, xf0, x10, x20, x30, x40, x50]
    refine PM_use (c_Desk_rowOf D0 q1 q2 (d + 1)) ?_
    rintro v h2 l2 ⟨rfl, rfl⟩
    show W_X11_at _ _ _ _ _ _ _ _ _
    simp only [w_X11_at_0, w_X11_at_1, w_X11_at_4, w_X11_at_7, w_X11_at_17, w_X11_at_18, w_X11_at_21, w_X11_at_22, w_X11_at_25, w_X11_at_26, w_X11_at_29, pm_1i_c, pm_2i_c, pm_1l_c, pm_2l_c, pm_1a_c, pm_ia_c, pm_iia_c, pm_va_c, pm_cp_c, pm_k0_c, pm_k1_c, pm_k2_c, pm_k3_c, pm_s1_c, pm_s2_c, pm_s3_c, pm_s4_c, pm_ri_c, pm_ra_c, pm_rn_c, pm_rk_i, pm_rk_z, pm_rk_a, pm_vk_i, pm_vk_z, pm_vk_a, pm_cti, pm_ctr, pm_ldi_z, pm_ldi_s, pm_lda_z, pm_lda_s, pm_cat_n, pm_cat_i, pm_cat_r, pm_cat_l, pm_obj, pm_arr, pm_opt, pm_ird, pm_aln, List.getElem?_cons_zero, List.getElem?_cons_succ, List.set_cons_zero, List.set_cons_succ, List.length_cons, List.length_nil, List.length_set, true_and, and_true, Nat.add_zero, Nat.zero_add, Nat.le_refl, Nat.reduceAdd, Nat.reduceLT, Nat.reduceLeDiff, Nat.zero_le, not_false_eq_true, not_true_eq_false, false_implies, implies_true, true_implies, Nat.zero_lt_succ, Nat.lt_add_one, pm_tl_n, pm_tl_s, sc_uL, ro]
    refine PM_use (c_Row_get row k (d + 1)) ?_
    rintro v h2 l2 ⟨rfl, rfl⟩
    rw [nI_clamp (by omega)]
    show W_X11_at _ _ _ _ _ _ _ _ _
    simp only [w_X11_at_0, w_X11_at_1, w_X11_at_4, w_X11_at_7, w_X11_at_17, w_X11_at_18, w_X11_at_21, w_X11_at_22, w_X11_at_25, w_X11_at_26, w_X11_at_29, pm_1i_c, pm_2i_c, pm_1l_c, pm_2l_c, pm_1a_c, pm_ia_c, pm_iia_c, pm_va_c, pm_cp_c, pm_k0_c, pm_k1_c, pm_k2_c, pm_k3_c, pm_s1_c, pm_s2_c, pm_s3_c, pm_s4_c, pm_ri_c, pm_ra_c, pm_rn_c, pm_rk_i, pm_rk_z, pm_rk_a, pm_vk_i, pm_vk_z, pm_vk_a, pm_cti, pm_ctr, pm_ldi_z, pm_ldi_s, pm_lda_z, pm_lda_s, pm_cat_n, pm_cat_i, pm_cat_r, pm_cat_l, pm_obj, pm_arr, pm_opt, pm_ird, pm_aln, List.getElem?_cons_zero, List.getElem?_cons_succ, List.set_cons_zero, List.set_cons_succ, List.length_cons, List.length_nil, List.length_set, true_and, and_true, Nat.add_zero, Nat.zero_add, Nat.le_refl, Nat.reduceAdd, Nat.reduceLT, Nat.reduceLeDiff, Nat.zero_le, not_false_eq_true, not_true_eq_false, false_implies, implies_true, true_implies, Nat.zero_lt_succ, Nat.lt_add_one, pm_tl_n, pm_tl_s, sc_uL]
    exact ⟨C, frC.rf⟩
  · simp only [c, Bool.false_eq_true, if_false]
    show W_X11_at _ _ _ _ _ _ _ _ _
    simp only [w_X11_at_0, w_X11_at_1, w_X11_at_4, w_X11_at_7, w_X11_at_17, w_X11_at_18, w_X11_at_21, w_X11_at_22, w_X11_at_25, w_X11_at_26, w_X11_at_29, pm_1i_c, pm_2i_c, pm_1l_c, pm_2l_c, pm_1a_c, pm_ia_c, pm_iia_c, pm_va_c, pm_cp_c, pm_k0_c, pm_k1_c, pm_k2_c, pm_k3_c, pm_s1_c, pm_s2_c, pm_s3_c, pm_s4_c, pm_ri_c, pm_ra_c, pm_rn_c, pm_rk_i, pm_rk_z, pm_rk_a, pm_vk_i, pm_vk_z, pm_vk_a, pm_cti, pm_ctr, pm_ldi_z, pm_ldi_s, pm_lda_z, pm_lda_s, pm_cat_n, pm_cat_i, pm_cat_r, pm_cat_l, pm_obj, pm_arr, pm_opt, pm_ird, pm_aln, List.getElem?_cons_zero, List.getElem?_cons_succ, List.set_cons_zero, List.set_cons_succ, List.length_cons, List.length_nil, List.length_set, true_and, and_true, Nat.add_zero, Nat.zero_add, Nat.le_refl, Nat.reduceAdd, Nat.reduceLT, Nat.reduceLeDiff, Nat.zero_le, not_false_eq_true, not_true_eq_false, false_implies, implies_true, true_implies, Nat.zero_lt_succ, Nat.lt_add_one, pm_tl_n, pm_tl_s, sc_uL]
    exact ⟨C, frC.rf⟩
def ltB (w : Int32) : Bool := decide (w = 0) || (decide (w = 1) || (decide (w = 2) || decide (w = 3)))
def ltF (A : AD) (w : Int32) : Int32 := if w = 0 then sc A 19 else if w = 1 then sc A 20 else if w = 2 then sc A 21 else sc A 22
theorem c_F_latest (C : cr_ h a bs ws A K ik ft) (w : Int32) (d : Nat) : W_X11_latest d (h.length + 0) 0 (reQ a bs ws A K ik ft h (ltB w) 1 (ltF A w)) 0 [some (.ref a), some (.int w)] [] h 0 := by
  have co := C.o
  have D0 := C.d
  have xo0 := D0.o
  have xa0 := D0.sh
  have xb0 := D0.ko
  have xc0 := D0.lo
  have xf0 := D0.co
  have x10 := D0.wo
  have x20 := D0.to
  have x30 := D0.so
  have x40 := D0.go
  have x50 := D0.po
  simp only [w_X11_latest_0, w_X11_latest_1, w_X11_latest_32, w_X11_latest_33, w_X11_latest_36, w_X11_latest_39, w_X11_latest_42, w_X11_latest_43, w_X11_latest_44, w_X11_latest_47, w_X11_latest_50, w_X11_latest_53, w_X11_latest_54, w_X11_latest_55, w_X11_latest_58, w_X11_latest_61, w_X11_latest_64, w_X11_latest_65, w_X11_latest_66, w_X11_latest_69, w_X11_latest_72, w_X11_latest_75, w_X11_latest_76, pm_1i_c, pm_2i_c, pm_1l_c, pm_2l_c, pm_1a_c, pm_ia_c, pm_iia_c, pm_va_c, pm_cp_c, pm_k0_c, pm_k1_c, pm_k2_c, pm_k3_c, pm_s1_c, pm_s2_c, pm_s3_c, pm_s4_c, pm_ri_c, pm_ra_c, pm_rn_c, pm_rk_i, pm_rk_z, pm_rk_a, pm_vk_i, pm_vk_z, pm_vk_a, pm_cti, pm_ctr, pm_ldi_z, pm_ldi_s, pm_lda_z, pm_lda_s, pm_cat_n, pm_cat_i, pm_cat_r, pm_cat_l, pm_obj, pm_arr, pm_opt, pm_ird, pm_aln, List.getElem?_cons_zero, List.getElem?_cons_succ, List.set_cons_zero, List.set_cons_succ, List.length_cons, List.length_nil, List.length_set, true_and, and_true, Nat.add_zero, Nat.zero_add, Nat.le_refl, Nat.reduceAdd, Nat.reduceLT, Nat.reduceLeDiff, Nat.zero_le, not_false_eq_true, not_true_eq_false, false_implies, implies_true, true_implies, Nat.zero_lt_succ, Nat.lt_add_one, co, xo0, xa0, xb0, xc0, xf0, x10, x20, x30, x40, x50, pm_sw_c, pm_sw_n, Int32.reduceAdd]
  unfold reQ ltB ltF
  have fr := frC.rf (h := h) (a := a)
  refine ⟨fun c => ?_, fun c => ⟨fun c2 => ?_, fun c2 => ⟨fun c3 => ?_, fun c3 => ⟨fun c4 => ?_, fun c4 => ?_⟩⟩⟩⟩
  · simp [c, C, fr]
  · simp [c2, C, fr]
  · simp [c3, C, fr]
  · simp [c4, C, fr]
  · simp [c, c2, c3, c4, C, fr]
theorem c_F_estimate (hl : h.length ≤ 1000000) (C : cr_ h a bs ws A K ik ft) (V : skV A) (key : Int32) (d : Nat) : W_X11_estimate (d + 3) (h.length + 0) 0 (reQ a bs ws A K ik ft h (kyB key) 0 (estF A key)) 0 [some (.ref a), some (.int key)] [] h 0 := by
  have co := C.o
  have D0 := C.d
  have xo0 := D0.o
  have xa0 := D0.sh
  have xb0 := D0.ko
  have xc0 := D0.lo
  have xf0 := D0.co
  have x10 := D0.wo
  have x20 := D0.to
  have x30 := D0.so
  have x40 := D0.go
  have x50 := D0.po
  simp only [w_X11_estimate_0, w_X11_estimate_1, pm_1i_c, pm_2i_c, pm_1l_c, pm_2l_c, pm_1a_c, pm_ia_c, pm_iia_c, pm_va_c, pm_cp_c, pm_k0_c, pm_k1_c, pm_k2_c, pm_k3_c, pm_s1_c, pm_s2_c, pm_s3_c, pm_s4_c, pm_ri_c, pm_ra_c, pm_rn_c, pm_rk_i, pm_rk_z, pm_rk_a, pm_vk_i, pm_vk_z, pm_vk_a, pm_cti, pm_ctr, pm_ldi_z, pm_ldi_s, pm_lda_z, pm_lda_s, pm_cat_n, pm_cat_i, pm_cat_r, pm_cat_l, pm_obj, pm_arr, pm_opt, pm_ird, pm_aln, List.getElem?_cons_zero, List.getElem?_cons_succ, List.set_cons_zero, List.set_cons_succ, List.length_cons, List.length_nil, List.length_set, true_and, and_true, Nat.add_zero, Nat.zero_add, Nat.le_refl, Nat.reduceAdd, Nat.reduceLT, Nat.reduceLeDiff, Nat.zero_le, not_false_eq_true, not_true_eq_false, false_implies, implies_true, true_implies, Nat.zero_lt_succ, Nat.lt_add_one]
  refine PM_use (c_F_isKey key (d + 2)) ?_
  rintro v h1 l1 ⟨rfl, rfl⟩
  unfold reQ
  rcases Bool.eq_false_or_eq_true (kyB key) with c | c
  · simp only [c, if_true]
    show W_X11_estimate _ _ _ _ _ _ _ _ _
    simp only [w_X11_estimate_0, w_X11_estimate_1, w_X11_estimate_4, w_X11_estimate_7, w_X11_estimate_17, w_X11_estimate_18, w_X11_estimate_21, w_X11_estimate_24, w_X11_estimate_25, w_X11_estimate_28, pm_1i_c, pm_2i_c, pm_1l_c, pm_2l_c, pm_1a_c, pm_ia_c, pm_iia_c, pm_va_c, pm_cp_c, pm_k0_c, pm_k1_c, pm_k2_c, pm_k3_c, pm_s1_c, pm_s2_c, pm_s3_c, pm_s4_c, pm_ri_c, pm_ra_c, pm_rn_c, pm_rk_i, pm_rk_z, pm_rk_a, pm_vk_i, pm_vk_z, pm_vk_a, pm_cti, pm_ctr, pm_ldi_z, pm_ldi_s, pm_lda_z, pm_lda_s, pm_cat_n, pm_cat_i, pm_cat_r, pm_cat_l, pm_obj, pm_arr, pm_opt, pm_ird, pm_aln, List.getElem?_cons_zero, List.getElem?_cons_succ, List.set_cons_zero, List.set_cons_succ, List.length_cons, List.length_nil, List.length_set, true_and, and_true, Nat.add_zero, Nat.zero_add, Nat.le_refl, Nat.reduceAdd, Nat.reduceLT, Nat.reduceLeDiff, Nat.zero_le, not_false_eq_true, not_true_eq_false, false_implies, implies_true, true_implies, Nat.zero_lt_succ, Nat.lt_add_one, pm_tl_n, pm_tl_s, sc_uL, show ¬ (1 : Int32) = 0 by decide, co, xo0, xa0, xb0, xc0, xf0, x10, x20, x30, x40, x50]
    refine PM_use (c_Sketch_estimateOf hl D0.sk V key d) ?_
    rintro v h2 l2 ⟨rfl, rfl⟩
    show W_X11_estimate _ _ _ _ _ _ _ _ _
    simp only [w_X11_estimate_0, w_X11_estimate_1, w_X11_estimate_4, w_X11_estimate_7, w_X11_estimate_17, w_X11_estimate_18, w_X11_estimate_21, w_X11_estimate_24, w_X11_estimate_25, w_X11_estimate_28, pm_1i_c, pm_2i_c, pm_1l_c, pm_2l_c, pm_1a_c, pm_ia_c, pm_iia_c, pm_va_c, pm_cp_c, pm_k0_c, pm_k1_c, pm_k2_c, pm_k3_c, pm_s1_c, pm_s2_c, pm_s3_c, pm_s4_c, pm_ri_c, pm_ra_c, pm_rn_c, pm_rk_i, pm_rk_z, pm_rk_a, pm_vk_i, pm_vk_z, pm_vk_a, pm_cti, pm_ctr, pm_ldi_z, pm_ldi_s, pm_lda_z, pm_lda_s, pm_cat_n, pm_cat_i, pm_cat_r, pm_cat_l, pm_obj, pm_arr, pm_opt, pm_ird, pm_aln, List.getElem?_cons_zero, List.getElem?_cons_succ, List.set_cons_zero, List.set_cons_succ, List.length_cons, List.length_nil, List.length_set, true_and, and_true, Nat.add_zero, Nat.zero_add, Nat.le_refl, Nat.reduceAdd, Nat.reduceLT, Nat.reduceLeDiff, Nat.zero_le, not_false_eq_true, not_true_eq_false, false_implies, implies_true, true_implies, Nat.zero_lt_succ, Nat.lt_add_one, pm_tl_n, pm_tl_s, sc_uL]
    exact ⟨C, frC.rf⟩
  · simp only [c, Bool.false_eq_true, if_false]
    show W_X11_estimate _ _ _ _ _ _ _ _ _
    simp only [w_X11_estimate_0, w_X11_estimate_1, w_X11_estimate_4, w_X11_estimate_7, w_X11_estimate_17, w_X11_estimate_18, w_X11_estimate_21, w_X11_estimate_24, w_X11_estimate_25, w_X11_estimate_28, pm_1i_c, pm_2i_c, pm_1l_c, pm_2l_c, pm_1a_c, pm_ia_c, pm_iia_c, pm_va_c, pm_cp_c, pm_k0_c, pm_k1_c, pm_k2_c, pm_k3_c, pm_s1_c, pm_s2_c, pm_s3_c, pm_s4_c, pm_ri_c, pm_ra_c, pm_rn_c, pm_rk_i, pm_rk_z, pm_rk_a, pm_vk_i, pm_vk_z, pm_vk_a, pm_cti, pm_ctr, pm_ldi_z, pm_ldi_s, pm_lda_z, pm_lda_s, pm_cat_n, pm_cat_i, pm_cat_r, pm_cat_l, pm_obj, pm_arr, pm_opt, pm_ird, pm_aln, List.getElem?_cons_zero, List.getElem?_cons_succ, List.set_cons_zero, List.set_cons_succ, List.length_cons, List.length_nil, List.length_set, true_and, and_true, Nat.add_zero, Nat.zero_add, Nat.le_refl, Nat.reduceAdd, Nat.reduceLT, Nat.reduceLeDiff, Nat.zero_le, not_false_eq_true, not_true_eq_false, false_implies, implies_true, true_implies, Nat.zero_lt_succ, Nat.lt_add_one, pm_tl_n, pm_tl_s, sc_uL]
    exact ⟨C, frC.rf⟩
def rowB (r : Int32) : Bool := decide (¬ r < 0 ∧ r < 4)
theorem rowB_of {x : Int32} (c1 : ¬ x < 0) (c2 : x < 4) : ∃ p, p < 4 ∧ x = nI p := by
  obtain ⟨n, hn, rfl⟩ := nI_of c1
  have a1 : n < 4 := by
    rcases Nat.lt_or_ge n 4 with z | z
    · exact z
    · exact absurd c2 (nI_nlt (b := 4) z hn)
  exact ⟨n, a1, rfl⟩
theorem c_F_place (hl : h.length ≤ 1000000) (C : cr_ h a bs ws A K ik ft) (V : skV A) (key r : Int32) (d : Nat) : W_X11_place (d + 2) (h.length + 0) 0 (reQ a bs ws A K ik ft h (kyB key && rowB r) 0 (plA A key r.toNatClampNeg)) 0 [some (.ref a), some (.int key), some (.int r)] [] h 0 := by
  have co := C.o
  have D0 := C.d
  have xo0 := D0.o
  have xa0 := D0.sh
  have xb0 := D0.ko
  have xc0 := D0.lo
  have xf0 := D0.co
  have x10 := D0.wo
  have x20 := D0.to
  have x30 := D0.so
  have x40 := D0.go
  have x50 := D0.po
  simp only [w_X11_place_0, w_X11_place_1, pm_1i_c, pm_2i_c, pm_1l_c, pm_2l_c, pm_1a_c, pm_ia_c, pm_iia_c, pm_va_c, pm_cp_c, pm_k0_c, pm_k1_c, pm_k2_c, pm_k3_c, pm_s1_c, pm_s2_c, pm_s3_c, pm_s4_c, pm_ri_c, pm_ra_c, pm_rn_c, pm_rk_i, pm_rk_z, pm_rk_a, pm_vk_i, pm_vk_z, pm_vk_a, pm_cti, pm_ctr, pm_ldi_z, pm_ldi_s, pm_lda_z, pm_lda_s, pm_cat_n, pm_cat_i, pm_cat_r, pm_cat_l, pm_obj, pm_arr, pm_opt, pm_ird, pm_aln, List.getElem?_cons_zero, List.getElem?_cons_succ, List.set_cons_zero, List.set_cons_succ, List.length_cons, List.length_nil, List.length_set, true_and, and_true, Nat.add_zero, Nat.zero_add, Nat.le_refl, Nat.reduceAdd, Nat.reduceLT, Nat.reduceLeDiff, Nat.zero_le, not_false_eq_true, not_true_eq_false, false_implies, implies_true, true_implies, Nat.zero_lt_succ, Nat.lt_add_one]
  refine PM_use (c_F_isKey key (d + 1)) ?_
  rintro v h1 l1 ⟨rfl, rfl⟩
  unfold reQ
  rcases Bool.eq_false_or_eq_true (kyB key) with c | c
  · simp only [c, if_true, Bool.true_and]
    by_cases r0 : r < 0
    · have e : rowB r = false := by unfold rowB; rw [decide_eq_false_iff_not]; exact fun z => z.1 r0
      simp only [e, Bool.false_eq_true, if_false]
      show W_X11_place _ _ _ _ _ _ _ _ _
      simp only [w_X11_place_0, w_X11_place_1, w_X11_place_4, w_X11_place_7, w_X11_place_17, w_X11_place_18, w_X11_place_21, w_X11_place_22, w_X11_place_23, w_X11_place_26, w_X11_place_36, w_X11_place_37, w_X11_place_40, w_X11_place_43, w_X11_place_44, w_X11_place_45, w_X11_place_48, pm_1i_c, pm_2i_c, pm_1l_c, pm_2l_c, pm_1a_c, pm_ia_c, pm_iia_c, pm_va_c, pm_cp_c, pm_k0_c, pm_k1_c, pm_k2_c, pm_k3_c, pm_s1_c, pm_s2_c, pm_s3_c, pm_s4_c, pm_ri_c, pm_ra_c, pm_rn_c, pm_rk_i, pm_rk_z, pm_rk_a, pm_vk_i, pm_vk_z, pm_vk_a, pm_cti, pm_ctr, pm_ldi_z, pm_ldi_s, pm_lda_z, pm_lda_s, pm_cat_n, pm_cat_i, pm_cat_r, pm_cat_l, pm_obj, pm_arr, pm_opt, pm_ird, pm_aln, List.getElem?_cons_zero, List.getElem?_cons_succ, List.set_cons_zero, List.set_cons_succ, List.length_cons, List.length_nil, List.length_set, true_and, and_true, Nat.add_zero, Nat.zero_add, Nat.le_refl, Nat.reduceAdd, Nat.reduceLT, Nat.reduceLeDiff, Nat.zero_le, not_false_eq_true, not_true_eq_false, false_implies, implies_true, true_implies, Nat.zero_lt_succ, Nat.lt_add_one, pm_tl_n, pm_tl_s, sc_uL, show ¬ (1 : Int32) = 0 by decide, r0]
      exact ⟨C, frC.rf⟩
    · by_cases r4 : r < 4
      · have e : rowB r = true := decide_eq_true ⟨r0, r4⟩
        simp only [e, if_true]
        show W_X11_place _ _ _ _ _ _ _ _ _
        simp only [w_X11_place_0, w_X11_place_1, w_X11_place_4, w_X11_place_7, w_X11_place_17, w_X11_place_18, w_X11_place_21, w_X11_place_22, w_X11_place_23, w_X11_place_26, w_X11_place_36, w_X11_place_37, w_X11_place_40, w_X11_place_43, w_X11_place_44, w_X11_place_45, w_X11_place_48, pm_1i_c, pm_2i_c, pm_1l_c, pm_2l_c, pm_1a_c, pm_ia_c, pm_iia_c, pm_va_c, pm_cp_c, pm_k0_c, pm_k1_c, pm_k2_c, pm_k3_c, pm_s1_c, pm_s2_c, pm_s3_c, pm_s4_c, pm_ri_c, pm_ra_c, pm_rn_c, pm_rk_i, pm_rk_z, pm_rk_a, pm_vk_i, pm_vk_z, pm_vk_a, pm_cti, pm_ctr, pm_ldi_z, pm_ldi_s, pm_lda_z, pm_lda_s, pm_cat_n, pm_cat_i, pm_cat_r, pm_cat_l, pm_obj, pm_arr, pm_opt, pm_ird, pm_aln, List.getElem?_cons_zero, List.getElem?_cons_succ, List.set_cons_zero, List.set_cons_succ, List.length_cons, List.length_nil, List.length_set, true_and, and_true, Nat.add_zero, Nat.zero_add, Nat.le_refl, Nat.reduceAdd, Nat.reduceLT, Nat.reduceLeDiff, Nat.zero_le, not_false_eq_true, not_true_eq_false, false_implies, implies_true, true_implies, Nat.zero_lt_succ, Nat.lt_add_one, pm_tl_n, pm_tl_s, sc_uL, show ¬ (1 : Int32) = 0 by decide, r0, r4, co, xo0, xa0, xb0, xc0, xf0, x10, x20, x30, x40, x50]
        obtain ⟨q, q4, rfl⟩ := rowB_of r0 r4
        refine PM_use (c_Sketch_placeOf hl D0.sk V.1 key q4 d) ?_
        rintro v h2 l2 ⟨rfl, rfl⟩
        rw [nI_clamp (by omega)]
        show W_X11_place _ _ _ _ _ _ _ _ _
        simp only [w_X11_place_0, w_X11_place_1, w_X11_place_4, w_X11_place_7, w_X11_place_17, w_X11_place_18, w_X11_place_21, w_X11_place_22, w_X11_place_23, w_X11_place_26, w_X11_place_36, w_X11_place_37, w_X11_place_40, w_X11_place_43, w_X11_place_44, w_X11_place_45, w_X11_place_48, pm_1i_c, pm_2i_c, pm_1l_c, pm_2l_c, pm_1a_c, pm_ia_c, pm_iia_c, pm_va_c, pm_cp_c, pm_k0_c, pm_k1_c, pm_k2_c, pm_k3_c, pm_s1_c, pm_s2_c, pm_s3_c, pm_s4_c, pm_ri_c, pm_ra_c, pm_rn_c, pm_rk_i, pm_rk_z, pm_rk_a, pm_vk_i, pm_vk_z, pm_vk_a, pm_cti, pm_ctr, pm_ldi_z, pm_ldi_s, pm_lda_z, pm_lda_s, pm_cat_n, pm_cat_i, pm_cat_r, pm_cat_l, pm_obj, pm_arr, pm_opt, pm_ird, pm_aln, List.getElem?_cons_zero, List.getElem?_cons_succ, List.set_cons_zero, List.set_cons_succ, List.length_cons, List.length_nil, List.length_set, true_and, and_true, Nat.add_zero, Nat.zero_add, Nat.le_refl, Nat.reduceAdd, Nat.reduceLT, Nat.reduceLeDiff, Nat.zero_le, not_false_eq_true, not_true_eq_false, false_implies, implies_true, true_implies, Nat.zero_lt_succ, Nat.lt_add_one, pm_tl_n, pm_tl_s, sc_uL]
        exact ⟨C, frC.rf⟩
      · have e : rowB r = false := by unfold rowB; rw [decide_eq_false_iff_not]; exact fun z => r4 z.2
        simp only [e, Bool.false_eq_true, if_false]
        show W_X11_place _ _ _ _ _ _ _ _ _
        simp only [w_X11_place_0, w_X11_place_1, w_X11_place_4, w_X11_place_7, w_X11_place_17, w_X11_place_18, w_X11_place_21, w_X11_place_22, w_X11_place_23, w_X11_place_26, w_X11_place_36, w_X11_place_37, w_X11_place_40, w_X11_place_43, w_X11_place_44, w_X11_place_45, w_X11_place_48, pm_1i_c, pm_2i_c, pm_1l_c, pm_2l_c, pm_1a_c, pm_ia_c, pm_iia_c, pm_va_c, pm_cp_c, pm_k0_c, pm_k1_c, pm_k2_c, pm_k3_c, pm_s1_c, pm_s2_c, pm_s3_c, pm_s4_c, pm_ri_c, pm_ra_c, pm_rn_c, pm_rk_i, pm_rk_z, pm_rk_a, pm_vk_i, pm_vk_z, pm_vk_a, pm_cti, pm_ctr, pm_ldi_z, pm_ldi_s, pm_lda_z, pm_lda_s, pm_cat_n, pm_cat_i, pm_cat_r, pm_cat_l, pm_obj, pm_arr, pm_opt, pm_ird, pm_aln, List.getElem?_cons_zero, List.getElem?_cons_succ, List.set_cons_zero, List.set_cons_succ, List.length_cons, List.length_nil, List.length_set, true_and, and_true, Nat.add_zero, Nat.zero_add, Nat.le_refl, Nat.reduceAdd, Nat.reduceLT, Nat.reduceLeDiff, Nat.zero_le, not_false_eq_true, not_true_eq_false, false_implies, implies_true, true_implies, Nat.zero_lt_succ, Nat.lt_add_one, pm_tl_n, pm_tl_s, sc_uL, show ¬ (1 : Int32) = 0 by decide, r0, r4]
        exact ⟨C, frC.rf⟩
  · simp only [c, Bool.false_eq_true, if_false, Bool.false_and]
    show W_X11_place _ _ _ _ _ _ _ _ _
    simp only [w_X11_place_0, w_X11_place_1, w_X11_place_4, w_X11_place_7, w_X11_place_17, w_X11_place_18, w_X11_place_21, w_X11_place_22, w_X11_place_23, w_X11_place_26, w_X11_place_36, w_X11_place_37, w_X11_place_40, w_X11_place_43, w_X11_place_44, w_X11_place_45, w_X11_place_48, pm_1i_c, pm_2i_c, pm_1l_c, pm_2l_c, pm_1a_c, pm_ia_c, pm_iia_c, pm_va_c, pm_cp_c, pm_k0_c, pm_k1_c, pm_k2_c, pm_k3_c, pm_s1_c, pm_s2_c, pm_s3_c, pm_s4_c, pm_ri_c, pm_ra_c, pm_rn_c, pm_rk_i, pm_rk_z, pm_rk_a, pm_vk_i, pm_vk_z, pm_vk_a, pm_cti, pm_ctr, pm_ldi_z, pm_ldi_s, pm_lda_z, pm_lda_s, pm_cat_n, pm_cat_i, pm_cat_r, pm_cat_l, pm_obj, pm_arr, pm_opt, pm_ird, pm_aln, List.getElem?_cons_zero, List.getElem?_cons_succ, List.set_cons_zero, List.set_cons_succ, List.length_cons, List.length_nil, List.length_set, true_and, and_true, Nat.add_zero, Nat.zero_add, Nat.le_refl, Nat.reduceAdd, Nat.reduceLT, Nat.reduceLeDiff, Nat.zero_le, not_false_eq_true, not_true_eq_false, false_implies, implies_true, true_implies, Nat.zero_lt_succ, Nat.lt_add_one, pm_tl_n, pm_tl_s, sc_uL]
    exact ⟨C, frC.rf⟩
def plcB (A : AD) (p : Int32) : Bool := decide (¬ p < 0 ∧ p < 16 * sc A 13)
theorem c_F_counter (C : cr_ h a bs ws A K ik ft) (V : skV A) (r p : Int32) (d : Nat) : W_X11_counter (d + 1) (h.length + 0) 0 (reQ a bs ws A K ik ft h (rowB r && plcB A p) 0 (cn A (256 * r.toNatClampNeg + p.toNatClampNeg))) 0 [some (.ref a), some (.int r), some (.int p)] [] h 0 := by
  have co := C.o
  have D0 := C.d
  have xo0 := D0.o
  have xa0 := D0.sh
  have xb0 := D0.ko
  have xc0 := D0.lo
  have xf0 := D0.co
  have x10 := D0.wo
  have x20 := D0.to
  have x30 := D0.so
  have x40 := D0.go
  have x50 := D0.po
  unfold reQ
  by_cases r0 : r < 0
  · have e : rowB r = false := by unfold rowB; rw [decide_eq_false_iff_not]; exact fun z => z.1 r0
    simp only [e, Bool.false_eq_true, if_false, Bool.false_and]
    simp only [w_X11_counter_0, w_X11_counter_1, w_X11_counter_4, w_X11_counter_5, w_X11_counter_6, w_X11_counter_9, w_X11_counter_19, w_X11_counter_20, w_X11_counter_23, w_X11_counter_24, w_X11_counter_25, w_X11_counter_28, w_X11_counter_31, w_X11_counter_34, w_X11_counter_37, w_X11_counter_47, w_X11_counter_48, w_X11_counter_51, w_X11_counter_54, w_X11_counter_55, w_X11_counter_56, w_X11_counter_59, pm_1i_c, pm_2i_c, pm_1l_c, pm_2l_c, pm_1a_c, pm_ia_c, pm_iia_c, pm_va_c, pm_cp_c, pm_k0_c, pm_k1_c, pm_k2_c, pm_k3_c, pm_s1_c, pm_s2_c, pm_s3_c, pm_s4_c, pm_ri_c, pm_ra_c, pm_rn_c, pm_rk_i, pm_rk_z, pm_rk_a, pm_vk_i, pm_vk_z, pm_vk_a, pm_cti, pm_ctr, pm_ldi_z, pm_ldi_s, pm_lda_z, pm_lda_s, pm_cat_n, pm_cat_i, pm_cat_r, pm_cat_l, pm_obj, pm_arr, pm_opt, pm_ird, pm_aln, List.getElem?_cons_zero, List.getElem?_cons_succ, List.set_cons_zero, List.set_cons_succ, List.length_cons, List.length_nil, List.length_set, true_and, and_true, Nat.add_zero, Nat.zero_add, Nat.le_refl, Nat.reduceAdd, Nat.reduceLT, Nat.reduceLeDiff, Nat.zero_le, not_false_eq_true, not_true_eq_false, false_implies, implies_true, true_implies, Nat.zero_lt_succ, Nat.lt_add_one, r0]
    exact ⟨C, frC.rf⟩
  by_cases r4 : r < 4
  · have e : rowB r = true := decide_eq_true ⟨r0, r4⟩
    simp only [e, Bool.true_and]
    by_cases p0 : p < 0
    · have e : plcB A p = false := by unfold plcB; rw [decide_eq_false_iff_not]; exact fun z => z.1 p0
      simp only [e, Bool.false_eq_true, if_false]
      simp only [w_X11_counter_0, w_X11_counter_1, w_X11_counter_4, w_X11_counter_5, w_X11_counter_6, w_X11_counter_9, w_X11_counter_19, w_X11_counter_20, w_X11_counter_23, w_X11_counter_24, w_X11_counter_25, w_X11_counter_28, w_X11_counter_31, w_X11_counter_34, w_X11_counter_37, w_X11_counter_47, w_X11_counter_48, w_X11_counter_51, w_X11_counter_54, w_X11_counter_55, w_X11_counter_56, w_X11_counter_59, pm_1i_c, pm_2i_c, pm_1l_c, pm_2l_c, pm_1a_c, pm_ia_c, pm_iia_c, pm_va_c, pm_cp_c, pm_k0_c, pm_k1_c, pm_k2_c, pm_k3_c, pm_s1_c, pm_s2_c, pm_s3_c, pm_s4_c, pm_ri_c, pm_ra_c, pm_rn_c, pm_rk_i, pm_rk_z, pm_rk_a, pm_vk_i, pm_vk_z, pm_vk_a, pm_cti, pm_ctr, pm_ldi_z, pm_ldi_s, pm_lda_z, pm_lda_s, pm_cat_n, pm_cat_i, pm_cat_r, pm_cat_l, pm_obj, pm_arr, pm_opt, pm_ird, pm_aln, List.getElem?_cons_zero, List.getElem?_cons_succ, List.set_cons_zero, List.set_cons_succ, List.length_cons, List.length_nil, List.length_set, true_and, and_true, Nat.add_zero, Nat.zero_add, Nat.le_refl, Nat.reduceAdd, Nat.reduceLT, Nat.reduceLeDiff, Nat.zero_le, not_false_eq_true, not_true_eq_false, false_implies, implies_true, true_implies, Nat.zero_lt_succ, Nat.lt_add_one, r0, r4, p0]
      exact ⟨C, frC.rf⟩
    · simp only [w_X11_counter_0, w_X11_counter_1, w_X11_counter_4, w_X11_counter_5, w_X11_counter_6, w_X11_counter_9, w_X11_counter_19, w_X11_counter_20, w_X11_counter_23, w_X11_counter_24, w_X11_counter_25, w_X11_counter_28, w_X11_counter_31, w_X11_counter_34, w_X11_counter_37, w_X11_counter_47, w_X11_counter_48, w_X11_counter_51, w_X11_counter_54, w_X11_counter_55, w_X11_counter_56, w_X11_counter_59, pm_1i_c, pm_2i_c, pm_1l_c, pm_2l_c, pm_1a_c, pm_ia_c, pm_iia_c, pm_va_c, pm_cp_c, pm_k0_c, pm_k1_c, pm_k2_c, pm_k3_c, pm_s1_c, pm_s2_c, pm_s3_c, pm_s4_c, pm_ri_c, pm_ra_c, pm_rn_c, pm_rk_i, pm_rk_z, pm_rk_a, pm_vk_i, pm_vk_z, pm_vk_a, pm_cti, pm_ctr, pm_ldi_z, pm_ldi_s, pm_lda_z, pm_lda_s, pm_cat_n, pm_cat_i, pm_cat_r, pm_cat_l, pm_obj, pm_arr, pm_opt, pm_ird, pm_aln, List.getElem?_cons_zero, List.getElem?_cons_succ, List.set_cons_zero, List.set_cons_succ, List.length_cons, List.length_nil, List.length_set, true_and, and_true, Nat.add_zero, Nat.zero_add, Nat.le_refl, Nat.reduceAdd, Nat.reduceLT, Nat.reduceLeDiff, Nat.zero_le, not_false_eq_true, not_true_eq_false, false_implies, implies_true, true_implies, Nat.zero_lt_succ, Nat.lt_add_one, r0, r4, p0, co, xo0, xa0, xb0, xc0, xf0, x10, x20, x30, x40, x50]
      refine PM_use (c_Sketch_places D0.sk d) ?_
      rintro v h1 l1 ⟨rfl, rfl⟩
      by_cases p1 : p < 16 * sc A 13
      · have e : plcB A p = true := decide_eq_true ⟨p0, p1⟩
        simp only [e, if_true]
        show W_X11_counter _ _ _ _ _ _ _ _ _
        simp only [w_X11_counter_0, w_X11_counter_1, w_X11_counter_4, w_X11_counter_5, w_X11_counter_6, w_X11_counter_9, w_X11_counter_19, w_X11_counter_20, w_X11_counter_23, w_X11_counter_24, w_X11_counter_25, w_X11_counter_28, w_X11_counter_31, w_X11_counter_34, w_X11_counter_37, w_X11_counter_47, w_X11_counter_48, w_X11_counter_51, w_X11_counter_54, w_X11_counter_55, w_X11_counter_56, w_X11_counter_59, pm_1i_c, pm_2i_c, pm_1l_c, pm_2l_c, pm_1a_c, pm_ia_c, pm_iia_c, pm_va_c, pm_cp_c, pm_k0_c, pm_k1_c, pm_k2_c, pm_k3_c, pm_s1_c, pm_s2_c, pm_s3_c, pm_s4_c, pm_ri_c, pm_ra_c, pm_rn_c, pm_rk_i, pm_rk_z, pm_rk_a, pm_vk_i, pm_vk_z, pm_vk_a, pm_cti, pm_ctr, pm_ldi_z, pm_ldi_s, pm_lda_z, pm_lda_s, pm_cat_n, pm_cat_i, pm_cat_r, pm_cat_l, pm_obj, pm_arr, pm_opt, pm_ird, pm_aln, List.getElem?_cons_zero, List.getElem?_cons_succ, List.set_cons_zero, List.set_cons_succ, List.length_cons, List.length_nil, List.length_set, true_and, and_true, Nat.add_zero, Nat.zero_add, Nat.le_refl, Nat.reduceAdd, Nat.reduceLT, Nat.reduceLeDiff, Nat.zero_le, not_false_eq_true, not_true_eq_false, false_implies, implies_true, true_implies, Nat.zero_lt_succ, Nat.lt_add_one, pm_tl_n, pm_tl_s, sc_uL, p1, co, xo0, xa0, xb0, xc0, xf0, x10, x20, x30, x40, x50]
        obtain ⟨q, q4, rfl⟩ := rowB_of r0 r4
        obtain ⟨n, hn, rfl⟩ := nI_of p0
        obtain ⟨w, w1, w2, w3⟩ := V.1
        have e16 : (16 : Int32) * sc A 13 = nI (16 * w) := by rw [w3]; exact pk_mul 16 w
        have n256 : n < 256 := by
          rcases Nat.lt_or_ge n (16 * w) with z | z
          · omega
          · rw [e16] at p1
            exact absurd p1 (nI_nlt z hn)
        have ee : nI q * 256 + nI n = nI (256 * q + n) := by
          rw [show (256 : Int32) = nI 256 from rfl, pk_mul, nI_add, Nat.mul_comm]
        refine PM_use (c_Sketch_counterOf D0.sk (nI q) (nI n) ee (by omega) d) ?_
        rintro v h2 l2 ⟨rfl, rfl⟩
        rw [nI_clamp (by omega), nI_clamp (by omega)]
        show W_X11_counter _ _ _ _ _ _ _ _ _
        simp only [w_X11_counter_0, w_X11_counter_1, w_X11_counter_4, w_X11_counter_5, w_X11_counter_6, w_X11_counter_9, w_X11_counter_19, w_X11_counter_20, w_X11_counter_23, w_X11_counter_24, w_X11_counter_25, w_X11_counter_28, w_X11_counter_31, w_X11_counter_34, w_X11_counter_37, w_X11_counter_47, w_X11_counter_48, w_X11_counter_51, w_X11_counter_54, w_X11_counter_55, w_X11_counter_56, w_X11_counter_59, pm_1i_c, pm_2i_c, pm_1l_c, pm_2l_c, pm_1a_c, pm_ia_c, pm_iia_c, pm_va_c, pm_cp_c, pm_k0_c, pm_k1_c, pm_k2_c, pm_k3_c, pm_s1_c, pm_s2_c, pm_s3_c, pm_s4_c, pm_ri_c, pm_ra_c, pm_rn_c, pm_rk_i, pm_rk_z, pm_rk_a, pm_vk_i, pm_vk_z, pm_vk_a, pm_cti, pm_ctr, pm_ldi_z, pm_ldi_s, pm_lda_z, pm_lda_s, pm_cat_n, pm_cat_i, pm_cat_r, pm_cat_l, pm_obj, pm_arr, pm_opt, pm_ird, pm_aln, List.getElem?_cons_zero, List.getElem?_cons_succ, List.set_cons_zero, List.set_cons_succ, List.length_cons, List.length_nil, List.length_set, true_and, and_true, Nat.add_zero, Nat.zero_add, Nat.le_refl, Nat.reduceAdd, Nat.reduceLT, Nat.reduceLeDiff, Nat.zero_le, not_false_eq_true, not_true_eq_false, false_implies, implies_true, true_implies, Nat.zero_lt_succ, Nat.lt_add_one, pm_tl_n, pm_tl_s, sc_uL]
        exact ⟨C, frC.rf⟩
      · have e : plcB A p = false := by unfold plcB; rw [decide_eq_false_iff_not]; exact fun z => p1 z.2
        simp only [e, Bool.false_eq_true, if_false]
        show W_X11_counter _ _ _ _ _ _ _ _ _
        simp only [w_X11_counter_0, w_X11_counter_1, w_X11_counter_4, w_X11_counter_5, w_X11_counter_6, w_X11_counter_9, w_X11_counter_19, w_X11_counter_20, w_X11_counter_23, w_X11_counter_24, w_X11_counter_25, w_X11_counter_28, w_X11_counter_31, w_X11_counter_34, w_X11_counter_37, w_X11_counter_47, w_X11_counter_48, w_X11_counter_51, w_X11_counter_54, w_X11_counter_55, w_X11_counter_56, w_X11_counter_59, pm_1i_c, pm_2i_c, pm_1l_c, pm_2l_c, pm_1a_c, pm_ia_c, pm_iia_c, pm_va_c, pm_cp_c, pm_k0_c, pm_k1_c, pm_k2_c, pm_k3_c, pm_s1_c, pm_s2_c, pm_s3_c, pm_s4_c, pm_ri_c, pm_ra_c, pm_rn_c, pm_rk_i, pm_rk_z, pm_rk_a, pm_vk_i, pm_vk_z, pm_vk_a, pm_cti, pm_ctr, pm_ldi_z, pm_ldi_s, pm_lda_z, pm_lda_s, pm_cat_n, pm_cat_i, pm_cat_r, pm_cat_l, pm_obj, pm_arr, pm_opt, pm_ird, pm_aln, List.getElem?_cons_zero, List.getElem?_cons_succ, List.set_cons_zero, List.set_cons_succ, List.length_cons, List.length_nil, List.length_set, true_and, and_true, Nat.add_zero, Nat.zero_add, Nat.le_refl, Nat.reduceAdd, Nat.reduceLT, Nat.reduceLeDiff, Nat.zero_le, not_false_eq_true, not_true_eq_false, false_implies, implies_true, true_implies, Nat.zero_lt_succ, Nat.lt_add_one, pm_tl_n, pm_tl_s, sc_uL, p1]
        exact ⟨C, frC.rf⟩
  · have e : rowB r = false := by unfold rowB; rw [decide_eq_false_iff_not]; exact fun z => r4 z.2
    simp only [e, Bool.false_eq_true, if_false, Bool.false_and]
    simp only [w_X11_counter_0, w_X11_counter_1, w_X11_counter_4, w_X11_counter_5, w_X11_counter_6, w_X11_counter_9, w_X11_counter_19, w_X11_counter_20, w_X11_counter_23, w_X11_counter_24, w_X11_counter_25, w_X11_counter_28, w_X11_counter_31, w_X11_counter_34, w_X11_counter_37, w_X11_counter_47, w_X11_counter_48, w_X11_counter_51, w_X11_counter_54, w_X11_counter_55, w_X11_counter_56, w_X11_counter_59, pm_1i_c, pm_2i_c, pm_1l_c, pm_2l_c, pm_1a_c, pm_ia_c, pm_iia_c, pm_va_c, pm_cp_c, pm_k0_c, pm_k1_c, pm_k2_c, pm_k3_c, pm_s1_c, pm_s2_c, pm_s3_c, pm_s4_c, pm_ri_c, pm_ra_c, pm_rn_c, pm_rk_i, pm_rk_z, pm_rk_a, pm_vk_i, pm_vk_z, pm_vk_a, pm_cti, pm_ctr, pm_ldi_z, pm_ldi_s, pm_lda_z, pm_lda_s, pm_cat_n, pm_cat_i, pm_cat_r, pm_cat_l, pm_obj, pm_arr, pm_opt, pm_ird, pm_aln, List.getElem?_cons_zero, List.getElem?_cons_succ, List.set_cons_zero, List.set_cons_succ, List.length_cons, List.length_nil, List.length_set, true_and, and_true, Nat.add_zero, Nat.zero_add, Nat.le_refl, Nat.reduceAdd, Nat.reduceLT, Nat.reduceLeDiff, Nat.zero_le, not_false_eq_true, not_true_eq_false, false_implies, implies_true, true_implies, Nat.zero_lt_succ, Nat.lt_add_one, r0, r4]
    exact ⟨C, frC.rf⟩
theorem c_F_meets (hl : h.length ≤ 1000000) (C : cr_ h a bs ws A K ik ft) (V : skV A) (k o : Int32) (d : Nat) : W_X11_meets (d + 3) (h.length + 0) 0 (reQ a bs ws A K ik ft h (kyB k && kyB o) 0 (shrF A k o 4)) 0 [some (.ref a), some (.int k), some (.int o)] [] h 0 := by
  have co := C.o
  have D0 := C.d
  have xo0 := D0.o
  have xa0 := D0.sh
  have xb0 := D0.ko
  have xc0 := D0.lo
  have xf0 := D0.co
  have x10 := D0.wo
  have x20 := D0.to
  have x30 := D0.so
  have x40 := D0.go
  have x50 := D0.po
  simp only [w_X11_meets_0, w_X11_meets_1, pm_1i_c, pm_2i_c, pm_1l_c, pm_2l_c, pm_1a_c, pm_ia_c, pm_iia_c, pm_va_c, pm_cp_c, pm_k0_c, pm_k1_c, pm_k2_c, pm_k3_c, pm_s1_c, pm_s2_c, pm_s3_c, pm_s4_c, pm_ri_c, pm_ra_c, pm_rn_c, pm_rk_i, pm_rk_z, pm_rk_a, pm_vk_i, pm_vk_z, pm_vk_a, pm_cti, pm_ctr, pm_ldi_z, pm_ldi_s, pm_lda_z, pm_lda_s, pm_cat_n, pm_cat_i, pm_cat_r, pm_cat_l, pm_obj, pm_arr, pm_opt, pm_ird, pm_aln, List.getElem?_cons_zero, List.getElem?_cons_succ, List.set_cons_zero, List.set_cons_succ, List.length_cons, List.length_nil, List.length_set, true_and, and_true, Nat.add_zero, Nat.zero_add, Nat.le_refl, Nat.reduceAdd, Nat.reduceLT, Nat.reduceLeDiff, Nat.zero_le, not_false_eq_true, not_true_eq_false, false_implies, implies_true, true_implies, Nat.zero_lt_succ, Nat.lt_add_one]
  refine PM_use (c_F_isKey k (d + 2)) ?_
  rintro v h1 l1 ⟨rfl, rfl⟩
  unfold reQ
  rcases Bool.eq_false_or_eq_true (kyB k) with c | c
  · simp only [c, if_true, Bool.true_and]
    show W_X11_meets _ _ _ _ _ _ _ _ _
    simp only [w_X11_meets_0, w_X11_meets_1, w_X11_meets_4, w_X11_meets_7, w_X11_meets_8, w_X11_meets_11, w_X11_meets_14, w_X11_meets_24, w_X11_meets_25, w_X11_meets_28, w_X11_meets_31, w_X11_meets_32, w_X11_meets_33, w_X11_meets_36, pm_1i_c, pm_2i_c, pm_1l_c, pm_2l_c, pm_1a_c, pm_ia_c, pm_iia_c, pm_va_c, pm_cp_c, pm_k0_c, pm_k1_c, pm_k2_c, pm_k3_c, pm_s1_c, pm_s2_c, pm_s3_c, pm_s4_c, pm_ri_c, pm_ra_c, pm_rn_c, pm_rk_i, pm_rk_z, pm_rk_a, pm_vk_i, pm_vk_z, pm_vk_a, pm_cti, pm_ctr, pm_ldi_z, pm_ldi_s, pm_lda_z, pm_lda_s, pm_cat_n, pm_cat_i, pm_cat_r, pm_cat_l, pm_obj, pm_arr, pm_opt, pm_ird, pm_aln, List.getElem?_cons_zero, List.getElem?_cons_succ, List.set_cons_zero, List.set_cons_succ, List.length_cons, List.length_nil, List.length_set, true_and, and_true, Nat.add_zero, Nat.zero_add, Nat.le_refl, Nat.reduceAdd, Nat.reduceLT, Nat.reduceLeDiff, Nat.zero_le, not_false_eq_true, not_true_eq_false, false_implies, implies_true, true_implies, Nat.zero_lt_succ, Nat.lt_add_one, pm_tl_n, pm_tl_s, sc_uL, show ¬ (1 : Int32) = 0 by decide]
    refine PM_use (c_F_isKey o (d + 2)) ?_
    rintro v h1 l1 ⟨rfl, rfl⟩
    rcases Bool.eq_false_or_eq_true (kyB o) with c2 | c2
    · simp only [c2, if_true]
      show W_X11_meets _ _ _ _ _ _ _ _ _
      simp only [w_X11_meets_0, w_X11_meets_1, w_X11_meets_4, w_X11_meets_7, w_X11_meets_8, w_X11_meets_11, w_X11_meets_14, w_X11_meets_24, w_X11_meets_25, w_X11_meets_28, w_X11_meets_31, w_X11_meets_32, w_X11_meets_33, w_X11_meets_36, pm_1i_c, pm_2i_c, pm_1l_c, pm_2l_c, pm_1a_c, pm_ia_c, pm_iia_c, pm_va_c, pm_cp_c, pm_k0_c, pm_k1_c, pm_k2_c, pm_k3_c, pm_s1_c, pm_s2_c, pm_s3_c, pm_s4_c, pm_ri_c, pm_ra_c, pm_rn_c, pm_rk_i, pm_rk_z, pm_rk_a, pm_vk_i, pm_vk_z, pm_vk_a, pm_cti, pm_ctr, pm_ldi_z, pm_ldi_s, pm_lda_z, pm_lda_s, pm_cat_n, pm_cat_i, pm_cat_r, pm_cat_l, pm_obj, pm_arr, pm_opt, pm_ird, pm_aln, List.getElem?_cons_zero, List.getElem?_cons_succ, List.set_cons_zero, List.set_cons_succ, List.length_cons, List.length_nil, List.length_set, true_and, and_true, Nat.add_zero, Nat.zero_add, Nat.le_refl, Nat.reduceAdd, Nat.reduceLT, Nat.reduceLeDiff, Nat.zero_le, not_false_eq_true, not_true_eq_false, false_implies, implies_true, true_implies, Nat.zero_lt_succ, Nat.lt_add_one, pm_tl_n, pm_tl_s, sc_uL, show ¬ (1 : Int32) = 0 by decide, co, xo0, xa0, xb0, xc0, xf0, x10, x20, x30, x40, x50]
      refine PM_use (c_Sketch_sharedRows hl D0.sk V.1 k o d) ?_
      rintro v h2 l2 ⟨rfl, rfl⟩
      show W_X11_meets _ _ _ _ _ _ _ _ _
      simp only [w_X11_meets_0, w_X11_meets_1, w_X11_meets_4, w_X11_meets_7, w_X11_meets_8, w_X11_meets_11, w_X11_meets_14, w_X11_meets_24, w_X11_meets_25, w_X11_meets_28, w_X11_meets_31, w_X11_meets_32, w_X11_meets_33, w_X11_meets_36, pm_1i_c, pm_2i_c, pm_1l_c, pm_2l_c, pm_1a_c, pm_ia_c, pm_iia_c, pm_va_c, pm_cp_c, pm_k0_c, pm_k1_c, pm_k2_c, pm_k3_c, pm_s1_c, pm_s2_c, pm_s3_c, pm_s4_c, pm_ri_c, pm_ra_c, pm_rn_c, pm_rk_i, pm_rk_z, pm_rk_a, pm_vk_i, pm_vk_z, pm_vk_a, pm_cti, pm_ctr, pm_ldi_z, pm_ldi_s, pm_lda_z, pm_lda_s, pm_cat_n, pm_cat_i, pm_cat_r, pm_cat_l, pm_obj, pm_arr, pm_opt, pm_ird, pm_aln, List.getElem?_cons_zero, List.getElem?_cons_succ, List.set_cons_zero, List.set_cons_succ, List.length_cons, List.length_nil, List.length_set, true_and, and_true, Nat.add_zero, Nat.zero_add, Nat.le_refl, Nat.reduceAdd, Nat.reduceLT, Nat.reduceLeDiff, Nat.zero_le, not_false_eq_true, not_true_eq_false, false_implies, implies_true, true_implies, Nat.zero_lt_succ, Nat.lt_add_one, pm_tl_n, pm_tl_s, sc_uL]
      exact ⟨C, frC.rf⟩
    · simp only [c2, Bool.false_eq_true, if_false]
      show W_X11_meets _ _ _ _ _ _ _ _ _
      simp only [w_X11_meets_0, w_X11_meets_1, w_X11_meets_4, w_X11_meets_7, w_X11_meets_8, w_X11_meets_11, w_X11_meets_14, w_X11_meets_24, w_X11_meets_25, w_X11_meets_28, w_X11_meets_31, w_X11_meets_32, w_X11_meets_33, w_X11_meets_36, pm_1i_c, pm_2i_c, pm_1l_c, pm_2l_c, pm_1a_c, pm_ia_c, pm_iia_c, pm_va_c, pm_cp_c, pm_k0_c, pm_k1_c, pm_k2_c, pm_k3_c, pm_s1_c, pm_s2_c, pm_s3_c, pm_s4_c, pm_ri_c, pm_ra_c, pm_rn_c, pm_rk_i, pm_rk_z, pm_rk_a, pm_vk_i, pm_vk_z, pm_vk_a, pm_cti, pm_ctr, pm_ldi_z, pm_ldi_s, pm_lda_z, pm_lda_s, pm_cat_n, pm_cat_i, pm_cat_r, pm_cat_l, pm_obj, pm_arr, pm_opt, pm_ird, pm_aln, List.getElem?_cons_zero, List.getElem?_cons_succ, List.set_cons_zero, List.set_cons_succ, List.length_cons, List.length_nil, List.length_set, true_and, and_true, Nat.add_zero, Nat.zero_add, Nat.le_refl, Nat.reduceAdd, Nat.reduceLT, Nat.reduceLeDiff, Nat.zero_le, not_false_eq_true, not_true_eq_false, false_implies, implies_true, true_implies, Nat.zero_lt_succ, Nat.lt_add_one, pm_tl_n, pm_tl_s, sc_uL]
      exact ⟨C, frC.rf⟩
  · simp only [c, Bool.false_eq_true, if_false, Bool.false_and]
    show W_X11_meets _ _ _ _ _ _ _ _ _
    simp only [w_X11_meets_0, w_X11_meets_1, w_X11_meets_4, w_X11_meets_7, w_X11_meets_8, w_X11_meets_11, w_X11_meets_14, w_X11_meets_24, w_X11_meets_25, w_X11_meets_28, w_X11_meets_31, w_X11_meets_32, w_X11_meets_33, w_X11_meets_36, pm_1i_c, pm_2i_c, pm_1l_c, pm_2l_c, pm_1a_c, pm_ia_c, pm_iia_c, pm_va_c, pm_cp_c, pm_k0_c, pm_k1_c, pm_k2_c, pm_k3_c, pm_s1_c, pm_s2_c, pm_s3_c, pm_s4_c, pm_ri_c, pm_ra_c, pm_rn_c, pm_rk_i, pm_rk_z, pm_rk_a, pm_vk_i, pm_vk_z, pm_vk_a, pm_cti, pm_ctr, pm_ldi_z, pm_ldi_s, pm_lda_z, pm_lda_s, pm_cat_n, pm_cat_i, pm_cat_r, pm_cat_l, pm_obj, pm_arr, pm_opt, pm_ird, pm_aln, List.getElem?_cons_zero, List.getElem?_cons_succ, List.set_cons_zero, List.set_cons_succ, List.length_cons, List.length_nil, List.length_set, true_and, and_true, Nat.add_zero, Nat.zero_add, Nat.le_refl, Nat.reduceAdd, Nat.reduceLT, Nat.reduceLeDiff, Nat.zero_le, not_false_eq_true, not_true_eq_false, false_implies, implies_true, true_implies, Nat.zero_lt_succ, Nat.lt_add_one, pm_tl_n, pm_tl_s, sc_uL]
    exact ⟨C, frC.rf⟩
theorem c_F_noted (hl : h.length ≤ 1000000) (C : cr_ h a bs ws A K ik ft) (V : skV A) (key : Int32) (d : Nat) : W_X11_noted (d + 2) (h.length + 0) 0 (reQ a bs ws A K ik ft h (kyB key) 0 (if notd A key then 1 else 0)) 0 [some (.ref a), some (.int key)] [] h 0 := by
  have co := C.o
  have D0 := C.d
  have xo0 := D0.o
  have xa0 := D0.sh
  have xb0 := D0.ko
  have xc0 := D0.lo
  have xf0 := D0.co
  have x10 := D0.wo
  have x20 := D0.to
  have x30 := D0.so
  have x40 := D0.go
  have x50 := D0.po
  simp only [w_X11_noted_0, w_X11_noted_1, pm_1i_c, pm_2i_c, pm_1l_c, pm_2l_c, pm_1a_c, pm_ia_c, pm_iia_c, pm_va_c, pm_cp_c, pm_k0_c, pm_k1_c, pm_k2_c, pm_k3_c, pm_s1_c, pm_s2_c, pm_s3_c, pm_s4_c, pm_ri_c, pm_ra_c, pm_rn_c, pm_rk_i, pm_rk_z, pm_rk_a, pm_vk_i, pm_vk_z, pm_vk_a, pm_cti, pm_ctr, pm_ldi_z, pm_ldi_s, pm_lda_z, pm_lda_s, pm_cat_n, pm_cat_i, pm_cat_r, pm_cat_l, pm_obj, pm_arr, pm_opt, pm_ird, pm_aln, List.getElem?_cons_zero, List.getElem?_cons_succ, List.set_cons_zero, List.set_cons_succ, List.length_cons, List.length_nil, List.length_set, true_and, and_true, Nat.add_zero, Nat.zero_add, Nat.le_refl, Nat.reduceAdd, Nat.reduceLT, Nat.reduceLeDiff, Nat.zero_le, not_false_eq_true, not_true_eq_false, false_implies, implies_true, true_implies, Nat.zero_lt_succ, Nat.lt_add_one]
  refine PM_use (c_F_isKey key (d + 1)) ?_
  rintro v h1 l1 ⟨rfl, rfl⟩
  unfold reQ
  rcases Bool.eq_false_or_eq_true (kyB key) with c | c
  · simp only [c, if_true]
    show W_X11_noted _ _ _ _ _ _ _ _ _
    simp only [w_X11_noted_0, w_X11_noted_1, w_X11_noted_4, w_X11_noted_7, w_X11_noted_17, w_X11_noted_18, w_X11_noted_21, w_X11_noted_24, w_X11_noted_25, w_X11_noted_28, pm_1i_c, pm_2i_c, pm_1l_c, pm_2l_c, pm_1a_c, pm_ia_c, pm_iia_c, pm_va_c, pm_cp_c, pm_k0_c, pm_k1_c, pm_k2_c, pm_k3_c, pm_s1_c, pm_s2_c, pm_s3_c, pm_s4_c, pm_ri_c, pm_ra_c, pm_rn_c, pm_rk_i, pm_rk_z, pm_rk_a, pm_vk_i, pm_vk_z, pm_vk_a, pm_cti, pm_ctr, pm_ldi_z, pm_ldi_s, pm_lda_z, pm_lda_s, pm_cat_n, pm_cat_i, pm_cat_r, pm_cat_l, pm_obj, pm_arr, pm_opt, pm_ird, pm_aln, List.getElem?_cons_zero, List.getElem?_cons_succ, List.set_cons_zero, List.set_cons_succ, List.length_cons, List.length_nil, List.length_set, true_and, and_true, Nat.add_zero, Nat.zero_add, Nat.le_refl, Nat.reduceAdd, Nat.reduceLT, Nat.reduceLeDiff, Nat.zero_le, not_false_eq_true, not_true_eq_false, false_implies, implies_true, true_implies, Nat.zero_lt_succ, Nat.lt_add_one, pm_tl_n, pm_tl_s, sc_uL, show ¬ (1 : Int32) = 0 by decide, co, xo0, xa0, xb0, xc0, xf0, x10, x20, x30, x40, x50]
    refine PM_use (c_Sketch_hasNoted hl D0.sk V key d) ?_
    rintro v h2 l2 ⟨rfl, rfl⟩
    show W_X11_noted _ _ _ _ _ _ _ _ _
    simp only [w_X11_noted_0, w_X11_noted_1, w_X11_noted_4, w_X11_noted_7, w_X11_noted_17, w_X11_noted_18, w_X11_noted_21, w_X11_noted_24, w_X11_noted_25, w_X11_noted_28, pm_1i_c, pm_2i_c, pm_1l_c, pm_2l_c, pm_1a_c, pm_ia_c, pm_iia_c, pm_va_c, pm_cp_c, pm_k0_c, pm_k1_c, pm_k2_c, pm_k3_c, pm_s1_c, pm_s2_c, pm_s3_c, pm_s4_c, pm_ri_c, pm_ra_c, pm_rn_c, pm_rk_i, pm_rk_z, pm_rk_a, pm_vk_i, pm_vk_z, pm_vk_a, pm_cti, pm_ctr, pm_ldi_z, pm_ldi_s, pm_lda_z, pm_lda_s, pm_cat_n, pm_cat_i, pm_cat_r, pm_cat_l, pm_obj, pm_arr, pm_opt, pm_ird, pm_aln, List.getElem?_cons_zero, List.getElem?_cons_succ, List.set_cons_zero, List.set_cons_succ, List.length_cons, List.length_nil, List.length_set, true_and, and_true, Nat.add_zero, Nat.zero_add, Nat.le_refl, Nat.reduceAdd, Nat.reduceLT, Nat.reduceLeDiff, Nat.zero_le, not_false_eq_true, not_true_eq_false, false_implies, implies_true, true_implies, Nat.zero_lt_succ, Nat.lt_add_one, pm_tl_n, pm_tl_s, sc_uL]
    exact ⟨by split; exact Or.inr rfl; exact Or.inl rfl, C, frC.rf⟩
  · simp only [c, Bool.false_eq_true, if_false]
    show W_X11_noted _ _ _ _ _ _ _ _ _
    simp only [w_X11_noted_0, w_X11_noted_1, w_X11_noted_4, w_X11_noted_7, w_X11_noted_17, w_X11_noted_18, w_X11_noted_21, w_X11_noted_24, w_X11_noted_25, w_X11_noted_28, pm_1i_c, pm_2i_c, pm_1l_c, pm_2l_c, pm_1a_c, pm_ia_c, pm_iia_c, pm_va_c, pm_cp_c, pm_k0_c, pm_k1_c, pm_k2_c, pm_k3_c, pm_s1_c, pm_s2_c, pm_s3_c, pm_s4_c, pm_ri_c, pm_ra_c, pm_rn_c, pm_rk_i, pm_rk_z, pm_rk_a, pm_vk_i, pm_vk_z, pm_vk_a, pm_cti, pm_ctr, pm_ldi_z, pm_ldi_s, pm_lda_z, pm_lda_s, pm_cat_n, pm_cat_i, pm_cat_r, pm_cat_l, pm_obj, pm_arr, pm_opt, pm_ird, pm_aln, List.getElem?_cons_zero, List.getElem?_cons_succ, List.set_cons_zero, List.set_cons_succ, List.length_cons, List.length_nil, List.length_set, true_and, and_true, Nat.add_zero, Nat.zero_add, Nat.le_refl, Nat.reduceAdd, Nat.reduceLT, Nat.reduceLeDiff, Nat.zero_le, not_false_eq_true, not_true_eq_false, false_implies, implies_true, true_implies, Nat.zero_lt_succ, Nat.lt_add_one, pm_tl_n, pm_tl_s, sc_uL]
    exact ⟨C, frC.rf⟩
theorem c_F_wins (hl : h.length ≤ 1000000) (C : cr_ h a bs ws A K ik ft) (V : skV A) (k o : Int32) (d : Nat) : W_X11_wins (d + 4) (h.length + 0) 0 (reQ a bs ws A K ik ft h (kyB k && kyB o) 0 (if beF A k o then 1 else 0)) 0 [some (.ref a), some (.int k), some (.int o)] [] h 0 := by
  have co := C.o
  have D0 := C.d
  have xo0 := D0.o
  have xa0 := D0.sh
  have xb0 := D0.ko
  have xc0 := D0.lo
  have xf0 := D0.co
  have x10 := D0.wo
  have x20 := D0.to
  have x30 := D0.so
  have x40 := D0.go
  have x50 := D0.po
  simp only [w_X11_wins_0, w_X11_wins_1, pm_1i_c, pm_2i_c, pm_1l_c, pm_2l_c, pm_1a_c, pm_ia_c, pm_iia_c, pm_va_c, pm_cp_c, pm_k0_c, pm_k1_c, pm_k2_c, pm_k3_c, pm_s1_c, pm_s2_c, pm_s3_c, pm_s4_c, pm_ri_c, pm_ra_c, pm_rn_c, pm_rk_i, pm_rk_z, pm_rk_a, pm_vk_i, pm_vk_z, pm_vk_a, pm_cti, pm_ctr, pm_ldi_z, pm_ldi_s, pm_lda_z, pm_lda_s, pm_cat_n, pm_cat_i, pm_cat_r, pm_cat_l, pm_obj, pm_arr, pm_opt, pm_ird, pm_aln, List.getElem?_cons_zero, List.getElem?_cons_succ, List.set_cons_zero, List.set_cons_succ, List.length_cons, List.length_nil, List.length_set, true_and, and_true, Nat.add_zero, Nat.zero_add, Nat.le_refl, Nat.reduceAdd, Nat.reduceLT, Nat.reduceLeDiff, Nat.zero_le, not_false_eq_true, not_true_eq_false, false_implies, implies_true, true_implies, Nat.zero_lt_succ, Nat.lt_add_one]
  refine PM_use (c_F_isKey k (d + 3)) ?_
  rintro v h1 l1 ⟨rfl, rfl⟩
  unfold reQ
  rcases Bool.eq_false_or_eq_true (kyB k) with c | c
  · simp only [c, if_true, Bool.true_and]
    show W_X11_wins _ _ _ _ _ _ _ _ _
    simp only [w_X11_wins_0, w_X11_wins_1, w_X11_wins_4, w_X11_wins_7, w_X11_wins_8, w_X11_wins_11, w_X11_wins_14, w_X11_wins_24, w_X11_wins_25, w_X11_wins_28, w_X11_wins_29, w_X11_wins_30, w_X11_wins_33, pm_1i_c, pm_2i_c, pm_1l_c, pm_2l_c, pm_1a_c, pm_ia_c, pm_iia_c, pm_va_c, pm_cp_c, pm_k0_c, pm_k1_c, pm_k2_c, pm_k3_c, pm_s1_c, pm_s2_c, pm_s3_c, pm_s4_c, pm_ri_c, pm_ra_c, pm_rn_c, pm_rk_i, pm_rk_z, pm_rk_a, pm_vk_i, pm_vk_z, pm_vk_a, pm_cti, pm_ctr, pm_ldi_z, pm_ldi_s, pm_lda_z, pm_lda_s, pm_cat_n, pm_cat_i, pm_cat_r, pm_cat_l, pm_obj, pm_arr, pm_opt, pm_ird, pm_aln, List.getElem?_cons_zero, List.getElem?_cons_succ, List.set_cons_zero, List.set_cons_succ, List.length_cons, List.length_nil, List.length_set, true_and, and_true, Nat.add_zero, Nat.zero_add, Nat.le_refl, Nat.reduceAdd, Nat.reduceLT, Nat.reduceLeDiff, Nat.zero_le, not_false_eq_true, not_true_eq_false, false_implies, implies_true, true_implies, Nat.zero_lt_succ, Nat.lt_add_one, pm_tl_n, pm_tl_s, sc_uL, show ¬ (1 : Int32) = 0 by decide]
    refine PM_use (c_F_isKey o (d + 3)) ?_
    rintro v h1 l1 ⟨rfl, rfl⟩
    rcases Bool.eq_false_or_eq_true (kyB o) with c2 | c2
    · simp only [c2, if_true]
      show W_X11_wins _ _ _ _ _ _ _ _ _
      simp only [w_X11_wins_0, w_X11_wins_1, w_X11_wins_4, w_X11_wins_7, w_X11_wins_8, w_X11_wins_11, w_X11_wins_14, w_X11_wins_24, w_X11_wins_25, w_X11_wins_28, w_X11_wins_29, w_X11_wins_30, w_X11_wins_33, pm_1i_c, pm_2i_c, pm_1l_c, pm_2l_c, pm_1a_c, pm_ia_c, pm_iia_c, pm_va_c, pm_cp_c, pm_k0_c, pm_k1_c, pm_k2_c, pm_k3_c, pm_s1_c, pm_s2_c, pm_s3_c, pm_s4_c, pm_ri_c, pm_ra_c, pm_rn_c, pm_rk_i, pm_rk_z, pm_rk_a, pm_vk_i, pm_vk_z, pm_vk_a, pm_cti, pm_ctr, pm_ldi_z, pm_ldi_s, pm_lda_z, pm_lda_s, pm_cat_n, pm_cat_i, pm_cat_r, pm_cat_l, pm_obj, pm_arr, pm_opt, pm_ird, pm_aln, List.getElem?_cons_zero, List.getElem?_cons_succ, List.set_cons_zero, List.set_cons_succ, List.length_cons, List.length_nil, List.length_set, true_and, and_true, Nat.add_zero, Nat.zero_add, Nat.le_refl, Nat.reduceAdd, Nat.reduceLT, Nat.reduceLeDiff, Nat.zero_le, not_false_eq_true, not_true_eq_false, false_implies, implies_true, true_implies, Nat.zero_lt_succ, Nat.lt_add_one, pm_tl_n, pm_tl_s, sc_uL, show ¬ (1 : Int32) = 0 by decide, co, xo0, xa0, xb0, xc0, xf0, x10, x20, x30, x40, x50]
      refine PM_use (c_Desk_beats hl D0 V k o d) ?_
      rintro v h2 l2 ⟨rfl, D1, f1⟩
      obtain ⟨C1, g1⟩ := C.ud D1 f1
      show W_X11_wins _ _ _ _ _ _ _ _ _
      simp only [w_X11_wins_0, w_X11_wins_1, w_X11_wins_4, w_X11_wins_7, w_X11_wins_8, w_X11_wins_11, w_X11_wins_14, w_X11_wins_24, w_X11_wins_25, w_X11_wins_28, w_X11_wins_29, w_X11_wins_30, w_X11_wins_33, pm_1i_c, pm_2i_c, pm_1l_c, pm_2l_c, pm_1a_c, pm_ia_c, pm_iia_c, pm_va_c, pm_cp_c, pm_k0_c, pm_k1_c, pm_k2_c, pm_k3_c, pm_s1_c, pm_s2_c, pm_s3_c, pm_s4_c, pm_ri_c, pm_ra_c, pm_rn_c, pm_rk_i, pm_rk_z, pm_rk_a, pm_vk_i, pm_vk_z, pm_vk_a, pm_cti, pm_ctr, pm_ldi_z, pm_ldi_s, pm_lda_z, pm_lda_s, pm_cat_n, pm_cat_i, pm_cat_r, pm_cat_l, pm_obj, pm_arr, pm_opt, pm_ird, pm_aln, List.getElem?_cons_zero, List.getElem?_cons_succ, List.set_cons_zero, List.set_cons_succ, List.length_cons, List.length_nil, List.length_set, true_and, and_true, Nat.add_zero, Nat.zero_add, Nat.le_refl, Nat.reduceAdd, Nat.reduceLT, Nat.reduceLeDiff, Nat.zero_le, not_false_eq_true, not_true_eq_false, false_implies, implies_true, true_implies, Nat.zero_lt_succ, Nat.lt_add_one, pm_tl_n, pm_tl_s, sc_uL, l2]
      exact ⟨by split; exact Or.inr rfl; exact Or.inl rfl, C1, g1⟩
    · simp only [c2, Bool.false_eq_true, if_false]
      show W_X11_wins _ _ _ _ _ _ _ _ _
      simp only [w_X11_wins_0, w_X11_wins_1, w_X11_wins_4, w_X11_wins_7, w_X11_wins_8, w_X11_wins_11, w_X11_wins_14, w_X11_wins_24, w_X11_wins_25, w_X11_wins_28, w_X11_wins_29, w_X11_wins_30, w_X11_wins_33, pm_1i_c, pm_2i_c, pm_1l_c, pm_2l_c, pm_1a_c, pm_ia_c, pm_iia_c, pm_va_c, pm_cp_c, pm_k0_c, pm_k1_c, pm_k2_c, pm_k3_c, pm_s1_c, pm_s2_c, pm_s3_c, pm_s4_c, pm_ri_c, pm_ra_c, pm_rn_c, pm_rk_i, pm_rk_z, pm_rk_a, pm_vk_i, pm_vk_z, pm_vk_a, pm_cti, pm_ctr, pm_ldi_z, pm_ldi_s, pm_lda_z, pm_lda_s, pm_cat_n, pm_cat_i, pm_cat_r, pm_cat_l, pm_obj, pm_arr, pm_opt, pm_ird, pm_aln, List.getElem?_cons_zero, List.getElem?_cons_succ, List.set_cons_zero, List.set_cons_succ, List.length_cons, List.length_nil, List.length_set, true_and, and_true, Nat.add_zero, Nat.zero_add, Nat.le_refl, Nat.reduceAdd, Nat.reduceLT, Nat.reduceLeDiff, Nat.zero_le, not_false_eq_true, not_true_eq_false, false_implies, implies_true, true_implies, Nat.zero_lt_succ, Nat.lt_add_one, pm_tl_n, pm_tl_s, sc_uL]
      exact ⟨C, frC.rf⟩
  · simp only [c, Bool.false_eq_true, if_false, Bool.false_and]
    show W_X11_wins _ _ _ _ _ _ _ _ _
    simp only [w_X11_wins_0, w_X11_wins_1, w_X11_wins_4, w_X11_wins_7, w_X11_wins_8, w_X11_wins_11, w_X11_wins_14, w_X11_wins_24, w_X11_wins_25, w_X11_wins_28, w_X11_wins_29, w_X11_wins_30, w_X11_wins_33, pm_1i_c, pm_2i_c, pm_1l_c, pm_2l_c, pm_1a_c, pm_ia_c, pm_iia_c, pm_va_c, pm_cp_c, pm_k0_c, pm_k1_c, pm_k2_c, pm_k3_c, pm_s1_c, pm_s2_c, pm_s3_c, pm_s4_c, pm_ri_c, pm_ra_c, pm_rn_c, pm_rk_i, pm_rk_z, pm_rk_a, pm_vk_i, pm_vk_z, pm_vk_a, pm_cti, pm_ctr, pm_ldi_z, pm_ldi_s, pm_lda_z, pm_lda_s, pm_cat_n, pm_cat_i, pm_cat_r, pm_cat_l, pm_obj, pm_arr, pm_opt, pm_ird, pm_aln, List.getElem?_cons_zero, List.getElem?_cons_succ, List.set_cons_zero, List.set_cons_succ, List.length_cons, List.length_nil, List.length_set, true_and, and_true, Nat.add_zero, Nat.zero_add, Nat.le_refl, Nat.reduceAdd, Nat.reduceLT, Nat.reduceLeDiff, Nat.zero_le, not_false_eq_true, not_true_eq_false, false_implies, implies_true, true_implies, Nat.zero_lt_succ, Nat.lt_add_one, pm_tl_n, pm_tl_s, sc_uL]
    exact ⟨C, frC.rf⟩
def whB (w : Int32) : Bool := decide (¬ w < 0 ∧ ¬ 5 < w)
theorem c_F_tell (hl : h.length ≤ 1000000) (C : cr_ h a bs ws A K ik ft) (V : skV A) (w n : Int32) (d : Nat) : W_X11_tell (d + 6) (h.length + 0) 0 (fun v h' => if whB w = true then (if stB w n = true then v = some (.int (setG A w)) ∧ cr_ h' a bs ws (setF A w n) K ik ft ∧ frC h h' a else v = some (.retAddr 0) ∧ cr_ h' a bs ws A K ik ft ∧ frC h h' a) else v = some (.retAddr 1) ∧ cr_ h' a bs ws A K ik ft ∧ frC h h' a) 0 [some (.ref a), some (.int w), some (.int n), none] [] h 0 := by
  have co := C.o
  have D0 := C.d
  have xo0 := D0.o
  have xa0 := D0.sh
  have xb0 := D0.ko
  have xc0 := D0.lo
  have xf0 := D0.co
  have x10 := D0.wo
  have x20 := D0.to
  have x30 := D0.so
  have x40 := D0.go
  have x50 := D0.po
  by_cases w0 : w < 0
  · have e : whB w = false := by unfold whB; rw [decide_eq_false_iff_not]; exact fun z => z.1 w0
    simp only [e, Bool.false_eq_true, if_false]
    simp only [w_X11_tell_0, w_X11_tell_1, w_X11_tell_4, w_X11_tell_5, w_X11_tell_6, w_X11_tell_9, w_X11_tell_19, w_X11_tell_20, w_X11_tell_21, w_X11_tell_24, w_X11_tell_27, w_X11_tell_37, w_X11_tell_38, w_X11_tell_41, w_X11_tell_42, w_X11_tell_45, w_X11_tell_46, w_X11_tell_47, w_X11_tell_50, w_X11_tell_51, w_X11_tell_52, w_X11_tell_55, w_X11_tell_56, pm_1i_c, pm_2i_c, pm_1l_c, pm_2l_c, pm_1a_c, pm_ia_c, pm_iia_c, pm_va_c, pm_cp_c, pm_k0_c, pm_k1_c, pm_k2_c, pm_k3_c, pm_s1_c, pm_s2_c, pm_s3_c, pm_s4_c, pm_ri_c, pm_ra_c, pm_rn_c, pm_rk_i, pm_rk_z, pm_rk_a, pm_vk_i, pm_vk_z, pm_vk_a, pm_cti, pm_ctr, pm_ldi_z, pm_ldi_s, pm_lda_z, pm_lda_s, pm_cat_n, pm_cat_i, pm_cat_r, pm_cat_l, pm_obj, pm_arr, pm_opt, pm_ird, pm_aln, List.getElem?_cons_zero, List.getElem?_cons_succ, List.set_cons_zero, List.set_cons_succ, List.length_cons, List.length_nil, List.length_set, true_and, and_true, Nat.add_zero, Nat.zero_add, Nat.le_refl, Nat.reduceAdd, Nat.reduceLT, Nat.reduceLeDiff, Nat.zero_le, not_false_eq_true, not_true_eq_false, false_implies, implies_true, true_implies, Nat.zero_lt_succ, Nat.lt_add_one, w0]
    exact ⟨C, frC.rf⟩
  by_cases w5 : 5 < w
  · have e : whB w = false := by unfold whB; rw [decide_eq_false_iff_not]; exact fun z => z.2 w5
    simp only [e, Bool.false_eq_true, if_false]
    simp only [w_X11_tell_0, w_X11_tell_1, w_X11_tell_4, w_X11_tell_5, w_X11_tell_6, w_X11_tell_9, w_X11_tell_19, w_X11_tell_20, w_X11_tell_21, w_X11_tell_24, w_X11_tell_27, w_X11_tell_37, w_X11_tell_38, w_X11_tell_41, w_X11_tell_42, w_X11_tell_45, w_X11_tell_46, w_X11_tell_47, w_X11_tell_50, w_X11_tell_51, w_X11_tell_52, w_X11_tell_55, w_X11_tell_56, pm_1i_c, pm_2i_c, pm_1l_c, pm_2l_c, pm_1a_c, pm_ia_c, pm_iia_c, pm_va_c, pm_cp_c, pm_k0_c, pm_k1_c, pm_k2_c, pm_k3_c, pm_s1_c, pm_s2_c, pm_s3_c, pm_s4_c, pm_ri_c, pm_ra_c, pm_rn_c, pm_rk_i, pm_rk_z, pm_rk_a, pm_vk_i, pm_vk_z, pm_vk_a, pm_cti, pm_ctr, pm_ldi_z, pm_ldi_s, pm_lda_z, pm_lda_s, pm_cat_n, pm_cat_i, pm_cat_r, pm_cat_l, pm_obj, pm_arr, pm_opt, pm_ird, pm_aln, List.getElem?_cons_zero, List.getElem?_cons_succ, List.set_cons_zero, List.set_cons_succ, List.length_cons, List.length_nil, List.length_set, true_and, and_true, Nat.add_zero, Nat.zero_add, Nat.le_refl, Nat.reduceAdd, Nat.reduceLT, Nat.reduceLeDiff, Nat.zero_le, not_false_eq_true, not_true_eq_false, false_implies, implies_true, true_implies, Nat.zero_lt_succ, Nat.lt_add_one, w0, w5]
    exact ⟨C, frC.rf⟩
  have e : whB w = true := decide_eq_true ⟨w0, w5⟩
  simp only [e, if_true]
  simp only [w_X11_tell_0, w_X11_tell_1, w_X11_tell_4, w_X11_tell_5, w_X11_tell_6, w_X11_tell_9, w_X11_tell_19, w_X11_tell_20, w_X11_tell_21, w_X11_tell_24, w_X11_tell_27, w_X11_tell_37, w_X11_tell_38, w_X11_tell_41, w_X11_tell_42, w_X11_tell_45, w_X11_tell_46, w_X11_tell_47, w_X11_tell_50, w_X11_tell_51, w_X11_tell_52, w_X11_tell_55, w_X11_tell_56, pm_1i_c, pm_2i_c, pm_1l_c, pm_2l_c, pm_1a_c, pm_ia_c, pm_iia_c, pm_va_c, pm_cp_c, pm_k0_c, pm_k1_c, pm_k2_c, pm_k3_c, pm_s1_c, pm_s2_c, pm_s3_c, pm_s4_c, pm_ri_c, pm_ra_c, pm_rn_c, pm_rk_i, pm_rk_z, pm_rk_a, pm_vk_i, pm_vk_z, pm_vk_a, pm_cti, pm_ctr, pm_ldi_z, pm_ldi_s, pm_lda_z, pm_lda_s, pm_cat_n, pm_cat_i, pm_cat_r, pm_cat_l, pm_obj, pm_arr, pm_opt, pm_ird, pm_aln, List.getElem?_cons_zero, List.getElem?_cons_succ, List.set_cons_zero, List.set_cons_succ, List.length_cons, List.length_nil, List.length_set, true_and, and_true, Nat.add_zero, Nat.zero_add, Nat.le_refl, Nat.reduceAdd, Nat.reduceLT, Nat.reduceLeDiff, Nat.zero_le, not_false_eq_true, not_true_eq_false, false_implies, implies_true, true_implies, Nat.zero_lt_succ, Nat.lt_add_one, w0, w5]
  refine PM_use (c_F_isSetting w n (d + 4)) ?_
  rintro v h1 l1 ⟨rfl, rfl⟩
  rcases Bool.eq_false_or_eq_true (stB w n) with c | c
  · simp only [c, if_true]
    show W_X11_tell _ _ _ _ _ _ _ _ _
    simp only [w_X11_tell_0, w_X11_tell_1, w_X11_tell_4, w_X11_tell_5, w_X11_tell_6, w_X11_tell_9, w_X11_tell_19, w_X11_tell_20, w_X11_tell_21, w_X11_tell_24, w_X11_tell_27, w_X11_tell_37, w_X11_tell_38, w_X11_tell_41, w_X11_tell_42, w_X11_tell_45, w_X11_tell_46, w_X11_tell_47, w_X11_tell_50, w_X11_tell_51, w_X11_tell_52, w_X11_tell_55, w_X11_tell_56, pm_1i_c, pm_2i_c, pm_1l_c, pm_2l_c, pm_1a_c, pm_ia_c, pm_iia_c, pm_va_c, pm_cp_c, pm_k0_c, pm_k1_c, pm_k2_c, pm_k3_c, pm_s1_c, pm_s2_c, pm_s3_c, pm_s4_c, pm_ri_c, pm_ra_c, pm_rn_c, pm_rk_i, pm_rk_z, pm_rk_a, pm_vk_i, pm_vk_z, pm_vk_a, pm_cti, pm_ctr, pm_ldi_z, pm_ldi_s, pm_lda_z, pm_lda_s, pm_cat_n, pm_cat_i, pm_cat_r, pm_cat_l, pm_obj, pm_arr, pm_opt, pm_ird, pm_aln, List.getElem?_cons_zero, List.getElem?_cons_succ, List.set_cons_zero, List.set_cons_succ, List.length_cons, List.length_nil, List.length_set, true_and, and_true, Nat.add_zero, Nat.zero_add, Nat.le_refl, Nat.reduceAdd, Nat.reduceLT, Nat.reduceLeDiff, Nat.zero_le, not_false_eq_true, not_true_eq_false, false_implies, implies_true, true_implies, Nat.zero_lt_succ, Nat.lt_add_one, pm_tl_n, pm_tl_s, sc_uL, show ¬ (1 : Int32) = 0 by decide, co, xo0, xa0, xb0, xc0, xf0, x10, x20, x30, x40, x50]
    refine PM_use (c_Desk_setting D0 w (d + 5)) ?_
    rintro v h1 l1 ⟨rfl, rfl⟩
    show W_X11_tell _ _ _ _ _ _ _ _ _
    simp only [w_X11_tell_0, w_X11_tell_1, w_X11_tell_4, w_X11_tell_5, w_X11_tell_6, w_X11_tell_9, w_X11_tell_19, w_X11_tell_20, w_X11_tell_21, w_X11_tell_24, w_X11_tell_27, w_X11_tell_37, w_X11_tell_38, w_X11_tell_41, w_X11_tell_42, w_X11_tell_45, w_X11_tell_46, w_X11_tell_47, w_X11_tell_50, w_X11_tell_51, w_X11_tell_52, w_X11_tell_55, w_X11_tell_56, pm_1i_c, pm_2i_c, pm_1l_c, pm_2l_c, pm_1a_c, pm_ia_c, pm_iia_c, pm_va_c, pm_cp_c, pm_k0_c, pm_k1_c, pm_k2_c, pm_k3_c, pm_s1_c, pm_s2_c, pm_s3_c, pm_s4_c, pm_ri_c, pm_ra_c, pm_rn_c, pm_rk_i, pm_rk_z, pm_rk_a, pm_vk_i, pm_vk_z, pm_vk_a, pm_cti, pm_ctr, pm_ldi_z, pm_ldi_s, pm_lda_z, pm_lda_s, pm_cat_n, pm_cat_i, pm_cat_r, pm_cat_l, pm_obj, pm_arr, pm_opt, pm_ird, pm_aln, List.getElem?_cons_zero, List.getElem?_cons_succ, List.set_cons_zero, List.set_cons_succ, List.length_cons, List.length_nil, List.length_set, true_and, and_true, Nat.add_zero, Nat.zero_add, Nat.le_refl, Nat.reduceAdd, Nat.reduceLT, Nat.reduceLeDiff, Nat.zero_le, not_false_eq_true, not_true_eq_false, false_implies, implies_true, true_implies, Nat.zero_lt_succ, Nat.lt_add_one, pm_tl_n, pm_tl_s, sc_uL, co, xo0, xa0, xb0, xc0, xf0, x10, x20, x30, x40, x50]
    refine PM_use (c_Desk_set hl D0 V w n d) ?_
    rintro v h2 l2 ⟨rfl, D1, f1⟩
    obtain ⟨C1, g1⟩ := C.ud D1 f1
    show W_X11_tell _ _ _ _ _ _ _ _ _
    simp only [w_X11_tell_0, w_X11_tell_1, w_X11_tell_4, w_X11_tell_5, w_X11_tell_6, w_X11_tell_9, w_X11_tell_19, w_X11_tell_20, w_X11_tell_21, w_X11_tell_24, w_X11_tell_27, w_X11_tell_37, w_X11_tell_38, w_X11_tell_41, w_X11_tell_42, w_X11_tell_45, w_X11_tell_46, w_X11_tell_47, w_X11_tell_50, w_X11_tell_51, w_X11_tell_52, w_X11_tell_55, w_X11_tell_56, pm_1i_c, pm_2i_c, pm_1l_c, pm_2l_c, pm_1a_c, pm_ia_c, pm_iia_c, pm_va_c, pm_cp_c, pm_k0_c, pm_k1_c, pm_k2_c, pm_k3_c, pm_s1_c, pm_s2_c, pm_s3_c, pm_s4_c, pm_ri_c, pm_ra_c, pm_rn_c, pm_rk_i, pm_rk_z, pm_rk_a, pm_vk_i, pm_vk_z, pm_vk_a, pm_cti, pm_ctr, pm_ldi_z, pm_ldi_s, pm_lda_z, pm_lda_s, pm_cat_n, pm_cat_i, pm_cat_r, pm_cat_l, pm_obj, pm_arr, pm_opt, pm_ird, pm_aln, List.getElem?_cons_zero, List.getElem?_cons_succ, List.set_cons_zero, List.set_cons_succ, List.length_cons, List.length_nil, List.length_set, true_and, and_true, Nat.add_zero, Nat.zero_add, Nat.le_refl, Nat.reduceAdd, Nat.reduceLT, Nat.reduceLeDiff, Nat.zero_le, not_false_eq_true, not_true_eq_false, false_implies, implies_true, true_implies, Nat.zero_lt_succ, Nat.lt_add_one, pm_tl_n, pm_tl_s, sc_uL, l2]
    exact ⟨C1, g1⟩
  · simp only [c, Bool.false_eq_true, if_false]
    show W_X11_tell _ _ _ _ _ _ _ _ _
    simp only [w_X11_tell_0, w_X11_tell_1, w_X11_tell_4, w_X11_tell_5, w_X11_tell_6, w_X11_tell_9, w_X11_tell_19, w_X11_tell_20, w_X11_tell_21, w_X11_tell_24, w_X11_tell_27, w_X11_tell_37, w_X11_tell_38, w_X11_tell_41, w_X11_tell_42, w_X11_tell_45, w_X11_tell_46, w_X11_tell_47, w_X11_tell_50, w_X11_tell_51, w_X11_tell_52, w_X11_tell_55, w_X11_tell_56, pm_1i_c, pm_2i_c, pm_1l_c, pm_2l_c, pm_1a_c, pm_ia_c, pm_iia_c, pm_va_c, pm_cp_c, pm_k0_c, pm_k1_c, pm_k2_c, pm_k3_c, pm_s1_c, pm_s2_c, pm_s3_c, pm_s4_c, pm_ri_c, pm_ra_c, pm_rn_c, pm_rk_i, pm_rk_z, pm_rk_a, pm_vk_i, pm_vk_z, pm_vk_a, pm_cti, pm_ctr, pm_ldi_z, pm_ldi_s, pm_lda_z, pm_lda_s, pm_cat_n, pm_cat_i, pm_cat_r, pm_cat_l, pm_obj, pm_arr, pm_opt, pm_ird, pm_aln, List.getElem?_cons_zero, List.getElem?_cons_succ, List.set_cons_zero, List.set_cons_succ, List.length_cons, List.length_nil, List.length_set, true_and, and_true, Nat.add_zero, Nat.zero_add, Nat.le_refl, Nat.reduceAdd, Nat.reduceLT, Nat.reduceLeDiff, Nat.zero_le, not_false_eq_true, not_true_eq_false, false_implies, implies_true, true_implies, Nat.zero_lt_succ, Nat.lt_add_one, pm_tl_n, pm_tl_s, sc_uL]
    exact ⟨C, frC.rf⟩
def drB (x : Int32) : Bool := decide (¬ x < 1 ∧ ¬ 99 < x)
theorem c_F_again (hl : h.length ≤ 1000000) (C : cr_ h a bs ws A K ik ft) (V : skV A) (door : Int32) (d : Nat) : W_X11_again (d + 7) (h.length + 0) 0 (reQ a bs ws A K ik ft h (drB door) 0 (agn A door)) 0 [some (.ref a), some (.int door)] [] h 0 := by
  have co := C.o
  unfold reQ
  by_cases w0 : door < 1
  · have e : drB door = false := by unfold drB; rw [decide_eq_false_iff_not]; exact fun z => z.1 w0
    simp only [e, Bool.false_eq_true, if_false]
    simp only [w_X11_again_0, w_X11_again_1, w_X11_again_2, w_X11_again_5, w_X11_again_6, w_X11_again_8, w_X11_again_11, w_X11_again_21, w_X11_again_22, w_X11_again_23, w_X11_again_26, pm_1i_c, pm_2i_c, pm_1l_c, pm_2l_c, pm_1a_c, pm_ia_c, pm_iia_c, pm_va_c, pm_cp_c, pm_k0_c, pm_k1_c, pm_k2_c, pm_k3_c, pm_s1_c, pm_s2_c, pm_s3_c, pm_s4_c, pm_ri_c, pm_ra_c, pm_rn_c, pm_rk_i, pm_rk_z, pm_rk_a, pm_vk_i, pm_vk_z, pm_vk_a, pm_cti, pm_ctr, pm_ldi_z, pm_ldi_s, pm_lda_z, pm_lda_s, pm_cat_n, pm_cat_i, pm_cat_r, pm_cat_l, pm_obj, pm_arr, pm_opt, pm_ird, pm_aln, List.getElem?_cons_zero, List.getElem?_cons_succ, List.set_cons_zero, List.set_cons_succ, List.length_cons, List.length_nil, List.length_set, true_and, and_true, Nat.add_zero, Nat.zero_add, Nat.le_refl, Nat.reduceAdd, Nat.reduceLT, Nat.reduceLeDiff, Nat.zero_le, not_false_eq_true, not_true_eq_false, false_implies, implies_true, true_implies, Nat.zero_lt_succ, Nat.lt_add_one, w0]
    exact ⟨C, frC.rf⟩
  by_cases w5 : 99 < door
  · have e : drB door = false := by unfold drB; rw [decide_eq_false_iff_not]; exact fun z => z.2 w5
    simp only [e, Bool.false_eq_true, if_false]
    simp only [w_X11_again_0, w_X11_again_1, w_X11_again_2, w_X11_again_5, w_X11_again_6, w_X11_again_8, w_X11_again_11, w_X11_again_21, w_X11_again_22, w_X11_again_23, w_X11_again_26, pm_1i_c, pm_2i_c, pm_1l_c, pm_2l_c, pm_1a_c, pm_ia_c, pm_iia_c, pm_va_c, pm_cp_c, pm_k0_c, pm_k1_c, pm_k2_c, pm_k3_c, pm_s1_c, pm_s2_c, pm_s3_c, pm_s4_c, pm_ri_c, pm_ra_c, pm_rn_c, pm_rk_i, pm_rk_z, pm_rk_a, pm_vk_i, pm_vk_z, pm_vk_a, pm_cti, pm_ctr, pm_ldi_z, pm_ldi_s, pm_lda_z, pm_lda_s, pm_cat_n, pm_cat_i, pm_cat_r, pm_cat_l, pm_obj, pm_arr, pm_opt, pm_ird, pm_aln, List.getElem?_cons_zero, List.getElem?_cons_succ, List.set_cons_zero, List.set_cons_succ, List.length_cons, List.length_nil, List.length_set, true_and, and_true, Nat.add_zero, Nat.zero_add, Nat.le_refl, Nat.reduceAdd, Nat.reduceLT, Nat.reduceLeDiff, Nat.zero_le, not_false_eq_true, not_true_eq_false, false_implies, implies_true, true_implies, Nat.zero_lt_succ, Nat.lt_add_one, w0, w5]
    exact ⟨C, frC.rf⟩
  have e : drB door = true := decide_eq_true ⟨w0, w5⟩
  simp only [e, if_true]
  simp only [w_X11_again_0, w_X11_again_1, w_X11_again_2, w_X11_again_5, w_X11_again_6, w_X11_again_8, w_X11_again_11, w_X11_again_21, w_X11_again_22, w_X11_again_23, w_X11_again_26, pm_1i_c, pm_2i_c, pm_1l_c, pm_2l_c, pm_1a_c, pm_ia_c, pm_iia_c, pm_va_c, pm_cp_c, pm_k0_c, pm_k1_c, pm_k2_c, pm_k3_c, pm_s1_c, pm_s2_c, pm_s3_c, pm_s4_c, pm_ri_c, pm_ra_c, pm_rn_c, pm_rk_i, pm_rk_z, pm_rk_a, pm_vk_i, pm_vk_z, pm_vk_a, pm_cti, pm_ctr, pm_ldi_z, pm_ldi_s, pm_lda_z, pm_lda_s, pm_cat_n, pm_cat_i, pm_cat_r, pm_cat_l, pm_obj, pm_arr, pm_opt, pm_ird, pm_aln, List.getElem?_cons_zero, List.getElem?_cons_succ, List.set_cons_zero, List.set_cons_succ, List.length_cons, List.length_nil, List.length_set, true_and, and_true, Nat.add_zero, Nat.zero_add, Nat.le_refl, Nat.reduceAdd, Nat.reduceLT, Nat.reduceLeDiff, Nat.zero_le, not_false_eq_true, not_true_eq_false, false_implies, implies_true, true_implies, Nat.zero_lt_succ, Nat.lt_add_one, w0, w5, co]
  refine PM_use (c_F_hitsBehind hl C V door d) ?_
  rintro v h1 l1 ⟨rfl, C1, g1⟩
  show W_X11_again _ _ _ _ _ _ _ _ _
  simp only [w_X11_again_0, w_X11_again_1, w_X11_again_2, w_X11_again_5, w_X11_again_6, w_X11_again_8, w_X11_again_11, w_X11_again_21, w_X11_again_22, w_X11_again_23, w_X11_again_26, pm_1i_c, pm_2i_c, pm_1l_c, pm_2l_c, pm_1a_c, pm_ia_c, pm_iia_c, pm_va_c, pm_cp_c, pm_k0_c, pm_k1_c, pm_k2_c, pm_k3_c, pm_s1_c, pm_s2_c, pm_s3_c, pm_s4_c, pm_ri_c, pm_ra_c, pm_rn_c, pm_rk_i, pm_rk_z, pm_rk_a, pm_vk_i, pm_vk_z, pm_vk_a, pm_cti, pm_ctr, pm_ldi_z, pm_ldi_s, pm_lda_z, pm_lda_s, pm_cat_n, pm_cat_i, pm_cat_r, pm_cat_l, pm_obj, pm_arr, pm_opt, pm_ird, pm_aln, List.getElem?_cons_zero, List.getElem?_cons_succ, List.set_cons_zero, List.set_cons_succ, List.length_cons, List.length_nil, List.length_set, true_and, and_true, Nat.add_zero, Nat.zero_add, Nat.le_refl, Nat.reduceAdd, Nat.reduceLT, Nat.reduceLeDiff, Nat.zero_le, not_false_eq_true, not_true_eq_false, false_implies, implies_true, true_implies, Nat.zero_lt_succ, Nat.lt_add_one, pm_tl_n, pm_tl_s, sc_uL, l1]
  exact ⟨C1, g1⟩
theorem c_F_plain (C : cr_ h a bs ws A K ik ft) (room : Int32) (d : Nat) : W_X11_plain (d + 2) (h.length + 0) 0 (reQ a bs ws A K ik ft h (rmB room) 0 (plnF A room)) 0 [some (.ref a), some (.int room)] [] h 0 := by
  have co := C.o
  have D0 := C.d
  have xo0 := D0.o
  have xa0 := D0.sh
  have xb0 := D0.ko
  have xc0 := D0.lo
  have xf0 := D0.co
  have x10 := D0.wo
  have x20 := D0.to
  have x30 := D0.so
  have x40 := D0.go
  have x50 := D0.po
  obtain ⟨T, Dp, U, L⟩ := C.lb
  have lo := L.1
  simp only [w_X11_plain_0, w_X11_plain_1, pm_1i_c, pm_2i_c, pm_1l_c, pm_2l_c, pm_1a_c, pm_ia_c, pm_iia_c, pm_va_c, pm_cp_c, pm_k0_c, pm_k1_c, pm_k2_c, pm_k3_c, pm_s1_c, pm_s2_c, pm_s3_c, pm_s4_c, pm_ri_c, pm_ra_c, pm_rn_c, pm_rk_i, pm_rk_z, pm_rk_a, pm_vk_i, pm_vk_z, pm_vk_a, pm_cti, pm_ctr, pm_ldi_z, pm_ldi_s, pm_lda_z, pm_lda_s, pm_cat_n, pm_cat_i, pm_cat_r, pm_cat_l, pm_obj, pm_arr, pm_opt, pm_ird, pm_aln, List.getElem?_cons_zero, List.getElem?_cons_succ, List.set_cons_zero, List.set_cons_succ, List.length_cons, List.length_nil, List.length_set, true_and, and_true, Nat.add_zero, Nat.zero_add, Nat.le_refl, Nat.reduceAdd, Nat.reduceLT, Nat.reduceLeDiff, Nat.zero_le, not_false_eq_true, not_true_eq_false, false_implies, implies_true, true_implies, Nat.zero_lt_succ, Nat.lt_add_one]
  refine PM_use (c_F_isRoom room (d + 1)) ?_
  rintro v h1 l1 ⟨rfl, rfl⟩
  unfold reQ
  rcases Bool.eq_false_or_eq_true (rmB room) with c | c
  · simp only [c, if_true]
    show W_X11_plain _ _ _ _ _ _ _ _ _
    simp only [w_X11_plain_0, w_X11_plain_1, w_X11_plain_4, w_X11_plain_7, w_X11_plain_17, w_X11_plain_18, w_X11_plain_21, w_X11_plain_22, w_X11_plain_25, w_X11_plain_28, w_X11_plain_31, w_X11_plain_32, w_X11_plain_35, w_X11_plain_36, w_X11_plain_39, pm_1i_c, pm_2i_c, pm_1l_c, pm_2l_c, pm_1a_c, pm_ia_c, pm_iia_c, pm_va_c, pm_cp_c, pm_k0_c, pm_k1_c, pm_k2_c, pm_k3_c, pm_s1_c, pm_s2_c, pm_s3_c, pm_s4_c, pm_ri_c, pm_ra_c, pm_rn_c, pm_rk_i, pm_rk_z, pm_rk_a, pm_vk_i, pm_vk_z, pm_vk_a, pm_cti, pm_ctr, pm_ldi_z, pm_ldi_s, pm_lda_z, pm_lda_s, pm_cat_n, pm_cat_i, pm_cat_r, pm_cat_l, pm_obj, pm_arr, pm_opt, pm_ird, pm_aln, List.getElem?_cons_zero, List.getElem?_cons_succ, List.set_cons_zero, List.set_cons_succ, List.length_cons, List.length_nil, List.length_set, true_and, and_true, Nat.add_zero, Nat.zero_add, Nat.le_refl, Nat.reduceAdd, Nat.reduceLT, Nat.reduceLeDiff, Nat.zero_le, not_false_eq_true, not_true_eq_false, false_implies, implies_true, true_implies, Nat.zero_lt_succ, Nat.lt_add_one, pm_tl_n, pm_tl_s, sc_uL, show ¬ (1 : Int32) = 0 by decide, co, xo0, xa0, xb0, xc0, xf0, x10, x20, x30, x40, x50, lo]
    refine PM_use (c_Lb_measure L D0.p (by omega) d) ?_
    rintro v h1 l1 ⟨rfl, L1, f1⟩
    obtain ⟨C1, g1⟩ := C.ub L1 f1
    have co1 := C1.o
    have lo1 := L1.1
    show W_X11_plain _ _ _ _ _ _ _ _ _
    simp only [w_X11_plain_0, w_X11_plain_1, w_X11_plain_4, w_X11_plain_7, w_X11_plain_17, w_X11_plain_18, w_X11_plain_21, w_X11_plain_22, w_X11_plain_25, w_X11_plain_28, w_X11_plain_31, w_X11_plain_32, w_X11_plain_35, w_X11_plain_36, w_X11_plain_39, pm_1i_c, pm_2i_c, pm_1l_c, pm_2l_c, pm_1a_c, pm_ia_c, pm_iia_c, pm_va_c, pm_cp_c, pm_k0_c, pm_k1_c, pm_k2_c, pm_k3_c, pm_s1_c, pm_s2_c, pm_s3_c, pm_s4_c, pm_ri_c, pm_ra_c, pm_rn_c, pm_rk_i, pm_rk_z, pm_rk_a, pm_vk_i, pm_vk_z, pm_vk_a, pm_cti, pm_ctr, pm_ldi_z, pm_ldi_s, pm_lda_z, pm_lda_s, pm_cat_n, pm_cat_i, pm_cat_r, pm_cat_l, pm_obj, pm_arr, pm_opt, pm_ird, pm_aln, List.getElem?_cons_zero, List.getElem?_cons_succ, List.set_cons_zero, List.set_cons_succ, List.length_cons, List.length_nil, List.length_set, true_and, and_true, Nat.add_zero, Nat.zero_add, Nat.le_refl, Nat.reduceAdd, Nat.reduceLT, Nat.reduceLeDiff, Nat.zero_le, not_false_eq_true, not_true_eq_false, false_implies, implies_true, true_implies, Nat.zero_lt_succ, Nat.lt_add_one, pm_tl_n, pm_tl_s, sc_uL, co1, lo1, l1]
    refine PM_use (c_Lb_plainHits L1 room d) ?_
    rintro v h2 l2 ⟨rfl, rfl⟩
    show W_X11_plain _ _ _ _ _ _ _ _ _
    simp only [w_X11_plain_0, w_X11_plain_1, w_X11_plain_4, w_X11_plain_7, w_X11_plain_17, w_X11_plain_18, w_X11_plain_21, w_X11_plain_22, w_X11_plain_25, w_X11_plain_28, w_X11_plain_31, w_X11_plain_32, w_X11_plain_35, w_X11_plain_36, w_X11_plain_39, pm_1i_c, pm_2i_c, pm_1l_c, pm_2l_c, pm_1a_c, pm_ia_c, pm_iia_c, pm_va_c, pm_cp_c, pm_k0_c, pm_k1_c, pm_k2_c, pm_k3_c, pm_s1_c, pm_s2_c, pm_s3_c, pm_s4_c, pm_ri_c, pm_ra_c, pm_rn_c, pm_rk_i, pm_rk_z, pm_rk_a, pm_vk_i, pm_vk_z, pm_vk_a, pm_cti, pm_ctr, pm_ldi_z, pm_ldi_s, pm_lda_z, pm_lda_s, pm_cat_n, pm_cat_i, pm_cat_r, pm_cat_l, pm_obj, pm_arr, pm_opt, pm_ird, pm_aln, List.getElem?_cons_zero, List.getElem?_cons_succ, List.set_cons_zero, List.set_cons_succ, List.length_cons, List.length_nil, List.length_set, true_and, and_true, Nat.add_zero, Nat.zero_add, Nat.le_refl, Nat.reduceAdd, Nat.reduceLT, Nat.reduceLeDiff, Nat.zero_le, not_false_eq_true, not_true_eq_false, false_implies, implies_true, true_implies, Nat.zero_lt_succ, Nat.lt_add_one, pm_tl_n, pm_tl_s, sc_uL, l1]
    exact ⟨rfl, C1, g1⟩
  · simp only [c, Bool.false_eq_true, if_false]
    show W_X11_plain _ _ _ _ _ _ _ _ _
    simp only [w_X11_plain_0, w_X11_plain_1, w_X11_plain_4, w_X11_plain_7, w_X11_plain_17, w_X11_plain_18, w_X11_plain_21, w_X11_plain_22, w_X11_plain_25, w_X11_plain_28, w_X11_plain_31, w_X11_plain_32, w_X11_plain_35, w_X11_plain_36, w_X11_plain_39, pm_1i_c, pm_2i_c, pm_1l_c, pm_2l_c, pm_1a_c, pm_ia_c, pm_iia_c, pm_va_c, pm_cp_c, pm_k0_c, pm_k1_c, pm_k2_c, pm_k3_c, pm_s1_c, pm_s2_c, pm_s3_c, pm_s4_c, pm_ri_c, pm_ra_c, pm_rn_c, pm_rk_i, pm_rk_z, pm_rk_a, pm_vk_i, pm_vk_z, pm_vk_a, pm_cti, pm_ctr, pm_ldi_z, pm_ldi_s, pm_lda_z, pm_lda_s, pm_cat_n, pm_cat_i, pm_cat_r, pm_cat_l, pm_obj, pm_arr, pm_opt, pm_ird, pm_aln, List.getElem?_cons_zero, List.getElem?_cons_succ, List.set_cons_zero, List.set_cons_succ, List.length_cons, List.length_nil, List.length_set, true_and, and_true, Nat.add_zero, Nat.zero_add, Nat.le_refl, Nat.reduceAdd, Nat.reduceLT, Nat.reduceLeDiff, Nat.zero_le, not_false_eq_true, not_true_eq_false, false_implies, implies_true, true_implies, Nat.zero_lt_succ, Nat.lt_add_one, pm_tl_n, pm_tl_s, sc_uL]
    exact ⟨C, frC.rf⟩
theorem c_F_ideal (C : cr_ h a bs ws A K ik ft) (room : Int32) (d : Nat) : W_X11_ideal (d + 3) (h.length + 0) 0 (reQ a bs ws A K ik ft h (rmB room) 0 (nI (idS (li A 5) room (li A 5).length).2.2)) 0 [some (.ref a), some (.int room)] [] h 0 := by
  have co := C.o
  have D0 := C.d
  have xo0 := D0.o
  have xa0 := D0.sh
  have xb0 := D0.ko
  have xc0 := D0.lo
  have xf0 := D0.co
  have x10 := D0.wo
  have x20 := D0.to
  have x30 := D0.so
  have x40 := D0.go
  have x50 := D0.po
  obtain ⟨T, Dp, U, L⟩ := C.lb
  have lo := L.1
  simp only [w_X11_ideal_0, w_X11_ideal_1, pm_1i_c, pm_2i_c, pm_1l_c, pm_2l_c, pm_1a_c, pm_ia_c, pm_iia_c, pm_va_c, pm_cp_c, pm_k0_c, pm_k1_c, pm_k2_c, pm_k3_c, pm_s1_c, pm_s2_c, pm_s3_c, pm_s4_c, pm_ri_c, pm_ra_c, pm_rn_c, pm_rk_i, pm_rk_z, pm_rk_a, pm_vk_i, pm_vk_z, pm_vk_a, pm_cti, pm_ctr, pm_ldi_z, pm_ldi_s, pm_lda_z, pm_lda_s, pm_cat_n, pm_cat_i, pm_cat_r, pm_cat_l, pm_obj, pm_arr, pm_opt, pm_ird, pm_aln, List.getElem?_cons_zero, List.getElem?_cons_succ, List.set_cons_zero, List.set_cons_succ, List.length_cons, List.length_nil, List.length_set, true_and, and_true, Nat.add_zero, Nat.zero_add, Nat.le_refl, Nat.reduceAdd, Nat.reduceLT, Nat.reduceLeDiff, Nat.zero_le, not_false_eq_true, not_true_eq_false, false_implies, implies_true, true_implies, Nat.zero_lt_succ, Nat.lt_add_one]
  refine PM_use (c_F_isRoom room (d + 2)) ?_
  rintro v h1 l1 ⟨rfl, rfl⟩
  unfold reQ
  rcases Bool.eq_false_or_eq_true (rmB room) with c | c
  · simp only [c, if_true]
    show W_X11_ideal _ _ _ _ _ _ _ _ _
    simp only [w_X11_ideal_0, w_X11_ideal_1, w_X11_ideal_4, w_X11_ideal_7, w_X11_ideal_17, w_X11_ideal_18, w_X11_ideal_21, w_X11_ideal_22, w_X11_ideal_25, w_X11_ideal_28, w_X11_ideal_29, w_X11_ideal_32, pm_1i_c, pm_2i_c, pm_1l_c, pm_2l_c, pm_1a_c, pm_ia_c, pm_iia_c, pm_va_c, pm_cp_c, pm_k0_c, pm_k1_c, pm_k2_c, pm_k3_c, pm_s1_c, pm_s2_c, pm_s3_c, pm_s4_c, pm_ri_c, pm_ra_c, pm_rn_c, pm_rk_i, pm_rk_z, pm_rk_a, pm_vk_i, pm_vk_z, pm_vk_a, pm_cti, pm_ctr, pm_ldi_z, pm_ldi_s, pm_lda_z, pm_lda_s, pm_cat_n, pm_cat_i, pm_cat_r, pm_cat_l, pm_obj, pm_arr, pm_opt, pm_ird, pm_aln, List.getElem?_cons_zero, List.getElem?_cons_succ, List.set_cons_zero, List.set_cons_succ, List.length_cons, List.length_nil, List.length_set, true_and, and_true, Nat.add_zero, Nat.zero_add, Nat.le_refl, Nat.reduceAdd, Nat.reduceLT, Nat.reduceLeDiff, Nat.zero_le, not_false_eq_true, not_true_eq_false, false_implies, implies_true, true_implies, Nat.zero_lt_succ, Nat.lt_add_one, pm_tl_n, pm_tl_s, sc_uL, show ¬ (1 : Int32) = 0 by decide, co, xo0, xa0, xb0, xc0, xf0, x10, x20, x30, x40, x50, lo]
    refine PM_use (c_Lb_idealHits L D0.p (by omega) room d) ?_
    rintro v h1 l1 ⟨rfl, ⟨T1, U1, L1⟩, f1⟩
    obtain ⟨C1, g1⟩ := C.ub L1 f1
    show W_X11_ideal _ _ _ _ _ _ _ _ _
    simp only [w_X11_ideal_0, w_X11_ideal_1, w_X11_ideal_4, w_X11_ideal_7, w_X11_ideal_17, w_X11_ideal_18, w_X11_ideal_21, w_X11_ideal_22, w_X11_ideal_25, w_X11_ideal_28, w_X11_ideal_29, w_X11_ideal_32, pm_1i_c, pm_2i_c, pm_1l_c, pm_2l_c, pm_1a_c, pm_ia_c, pm_iia_c, pm_va_c, pm_cp_c, pm_k0_c, pm_k1_c, pm_k2_c, pm_k3_c, pm_s1_c, pm_s2_c, pm_s3_c, pm_s4_c, pm_ri_c, pm_ra_c, pm_rn_c, pm_rk_i, pm_rk_z, pm_rk_a, pm_vk_i, pm_vk_z, pm_vk_a, pm_cti, pm_ctr, pm_ldi_z, pm_ldi_s, pm_lda_z, pm_lda_s, pm_cat_n, pm_cat_i, pm_cat_r, pm_cat_l, pm_obj, pm_arr, pm_opt, pm_ird, pm_aln, List.getElem?_cons_zero, List.getElem?_cons_succ, List.set_cons_zero, List.set_cons_succ, List.length_cons, List.length_nil, List.length_set, true_and, and_true, Nat.add_zero, Nat.zero_add, Nat.le_refl, Nat.reduceAdd, Nat.reduceLT, Nat.reduceLeDiff, Nat.zero_le, not_false_eq_true, not_true_eq_false, false_implies, implies_true, true_implies, Nat.zero_lt_succ, Nat.lt_add_one, pm_tl_n, pm_tl_s, sc_uL, l1]
    exact ⟨C1, g1⟩
  · simp only [c, Bool.false_eq_true, if_false]
    show W_X11_ideal _ _ _ _ _ _ _ _ _
    simp only [w_X11_ideal_0, w_X11_ideal_1, w_X11_ideal_4, w_X11_ideal_7, w_X11_ideal_17, w_X11_ideal_18, w_X11_ideal_21, w_X11_ideal_22, w_X11_ideal_25, w_X11_ideal_28, w_X11_ideal_29, w_X11_ideal_32, pm_1i_c, pm_2i_c, pm_1l_c, pm_2l_c, pm_1a_c, pm_ia_c, pm_iia_c, pm_va_c, pm_cp_c, pm_k0_c, pm_k1_c, pm_k2_c, pm_k3_c, pm_s1_c, pm_s2_c, pm_s3_c, pm_s4_c, pm_ri_c, pm_ra_c, pm_rn_c, pm_rk_i, pm_rk_z, pm_rk_a, pm_vk_i, pm_vk_z, pm_vk_a, pm_cti, pm_ctr, pm_ldi_z, pm_ldi_s, pm_lda_z, pm_lda_s, pm_cat_n, pm_cat_i, pm_cat_r, pm_cat_l, pm_obj, pm_arr, pm_opt, pm_ird, pm_aln, List.getElem?_cons_zero, List.getElem?_cons_succ, List.set_cons_zero, List.set_cons_succ, List.length_cons, List.length_nil, List.length_set, true_and, and_true, Nat.add_zero, Nat.zero_add, Nat.le_refl, Nat.reduceAdd, Nat.reduceLT, Nat.reduceLeDiff, Nat.zero_le, not_false_eq_true, not_true_eq_false, false_implies, implies_true, true_implies, Nat.zero_lt_succ, Nat.lt_add_one, pm_tl_n, pm_tl_s, sc_uL]
    exact ⟨C, frC.rf⟩
def neS (k v : Int32) : Nat → Nat → AD → Int32
  | 0, _, _ => -1
  | f + 1, n, A => if beF A k v = true then nI n else neS k v f (n + 1) (addF A k)
theorem neS_s (k v : Int32) (f n : Nat) (A : AD) : neS k v (f + 1) n A = if beF A k v = true then nI n else neS k v f (n + 1) (addF A k) := rfl
theorem c_F_needed (hl : h.length ≤ 1000000) (C : cr_ h a bs ws A K ik ft) (V : skV A) (k o : Int32) (d : Nat) : W_X11_needed (d + 5) (h.length + 0) 0 (reQ a bs ws A K ik ft h (kyB k && kyB o) 0 (neS k o 21 0 A)) 0 [some (.ref a), some (.int k), some (.int o), none] [] h 0 := by
  have co := C.o
  have D0 := C.d
  obtain ⟨S, D0s⟩ := C.sp
  have xo0 := D0.o
  have xa0 := D0.sh
  have xb0 := D0.ko
  have xc0 := D0.lo
  have xf0 := D0.co
  have x10 := D0.wo
  have x20 := D0.to
  have x30 := D0.so
  have x40 := D0.go
  have x50 := D0.po
  have xo0s := D0s.o
  have xa0s := D0s.sh
  have xb0s := D0s.ko
  have xc0s := D0s.lo
  have xf0s := D0s.co
  have x10s := D0s.wo
  have x20s := D0s.to
  have x30s := D0s.so
  have x40s := D0s.go
  have x50s := D0s.po
  -- the trials
  have loop : ∀ f n, 21 - n = f → n ≤ 21 → ∀ (hh : pmH) (B : AD), cr_ hh a bs ws A K ik ft → dk_ hh (a + 87) B → skV B → neS k o f n B = neS k o 21 0 A → hh.length = h.length → frC h hh a → W_X11_needed (d + 5) (h.length + 0) 0 (fun v h' => v = some (.int (neS k o 21 0 A)) ∧ cr_ h' a bs ws A K ik ft ∧ frC h h' a) 37 [some (.ref a), some (.int k), some (.int o), some (.int (nI n))] [] hh 0 := by
    intro f
    induction f with
    | zero =>
      intro n hn hn2 hh B C1 D1 V1 e q1 q2
      have : n = 21 := by omega
      subst this
      have e1 : (20 : Int32) < nI 21 := by decide
      rw [w_X11_needed_37]
      simp only [w_X11_needed_38, w_X11_needed_40, w_X11_needed_74, w_X11_needed_75, pm_1i_c, pm_2i_c, pm_1l_c, pm_2l_c, pm_1a_c, pm_ia_c, pm_iia_c, pm_va_c, pm_cp_c, pm_k0_c, pm_k1_c, pm_k2_c, pm_k3_c, pm_s1_c, pm_s2_c, pm_s3_c, pm_s4_c, pm_ri_c, pm_ra_c, pm_rn_c, pm_rk_i, pm_rk_z, pm_rk_a, pm_vk_i, pm_vk_z, pm_vk_a, pm_cti, pm_ctr, pm_ldi_z, pm_ldi_s, pm_lda_z, pm_lda_s, pm_cat_n, pm_cat_i, pm_cat_r, pm_cat_l, pm_obj, pm_arr, pm_opt, pm_ird, pm_aln, List.getElem?_cons_zero, List.getElem?_cons_succ, List.set_cons_zero, List.set_cons_succ, List.length_cons, List.length_nil, List.length_set, true_and, and_true, Nat.add_zero, Nat.zero_add, Nat.le_refl, Nat.reduceAdd, Nat.reduceLT, Nat.reduceLeDiff, Nat.zero_le, not_false_eq_true, not_true_eq_false, false_implies, implies_true, true_implies, Nat.zero_lt_succ, Nat.lt_add_one, e1, q1]
      rw [← e]
      exact ⟨rfl, C1, q2⟩
    | succ f ih =>
      intro n hn hn2 hh B C1 D1 V1 e q1 q2
      have e1 : ¬ (20 : Int32) < nI n := nI_nlt (a := 20) (by omega) (by omega)
      have co := C1.o
      rw [neS_s] at e
      have xo1 := D1.o
      have xa1 := D1.sh
      have xb1 := D1.ko
      have xc1 := D1.lo
      have xf1 := D1.co
      have x11 := D1.wo
      have x21 := D1.to
      have x31 := D1.so
      have x41 := D1.go
      have x51 := D1.po
      rw [w_X11_needed_37]
      simp only [w_X11_needed_38, w_X11_needed_40, w_X11_needed_43, w_X11_needed_44, w_X11_needed_47, w_X11_needed_48, w_X11_needed_49, pm_1i_c, pm_2i_c, pm_1l_c, pm_2l_c, pm_1a_c, pm_ia_c, pm_iia_c, pm_va_c, pm_cp_c, pm_k0_c, pm_k1_c, pm_k2_c, pm_k3_c, pm_s1_c, pm_s2_c, pm_s3_c, pm_s4_c, pm_ri_c, pm_ra_c, pm_rn_c, pm_rk_i, pm_rk_z, pm_rk_a, pm_vk_i, pm_vk_z, pm_vk_a, pm_cti, pm_ctr, pm_ldi_z, pm_ldi_s, pm_lda_z, pm_lda_s, pm_cat_n, pm_cat_i, pm_cat_r, pm_cat_l, pm_obj, pm_arr, pm_opt, pm_ird, pm_aln, List.getElem?_cons_zero, List.getElem?_cons_succ, List.set_cons_zero, List.set_cons_succ, List.length_cons, List.length_nil, List.length_set, true_and, and_true, Nat.add_zero, Nat.zero_add, Nat.le_refl, Nat.reduceAdd, Nat.reduceLT, Nat.reduceLeDiff, Nat.zero_le, not_false_eq_true, not_true_eq_false, false_implies, implies_true, true_implies, Nat.zero_lt_succ, Nat.lt_add_one, e1, q1, co, xo1, xa1, xb1, xc1, xf1, x11, x21, x31, x41, x51]
      refine PM_use (c_Desk_beats (by rw [q1]; exact hl) D1 V1 k o (d + 1)) ?_
      rintro v h2 l2 ⟨rfl, D2, f2⟩
      obtain ⟨C2, g2⟩ := C1.us D2 f2
      rcases Bool.eq_false_or_eq_true (beF B k o) with c | c
      · rw [if_pos c] at e
        simp only [c, if_true]
        show W_X11_needed _ _ _ _ _ _ _ _ _
        simp only [w_X11_needed_52, w_X11_needed_55, w_X11_needed_56, pm_1i_c, pm_2i_c, pm_1l_c, pm_2l_c, pm_1a_c, pm_ia_c, pm_iia_c, pm_va_c, pm_cp_c, pm_k0_c, pm_k1_c, pm_k2_c, pm_k3_c, pm_s1_c, pm_s2_c, pm_s3_c, pm_s4_c, pm_ri_c, pm_ra_c, pm_rn_c, pm_rk_i, pm_rk_z, pm_rk_a, pm_vk_i, pm_vk_z, pm_vk_a, pm_cti, pm_ctr, pm_ldi_z, pm_ldi_s, pm_lda_z, pm_lda_s, pm_cat_n, pm_cat_i, pm_cat_r, pm_cat_l, pm_obj, pm_arr, pm_opt, pm_ird, pm_aln, List.getElem?_cons_zero, List.getElem?_cons_succ, List.set_cons_zero, List.set_cons_succ, List.length_cons, List.length_nil, List.length_set, true_and, and_true, Nat.add_zero, Nat.zero_add, Nat.le_refl, Nat.reduceAdd, Nat.reduceLT, Nat.reduceLeDiff, Nat.zero_le, not_false_eq_true, not_true_eq_false, false_implies, implies_true, true_implies, Nat.zero_lt_succ, Nat.lt_add_one, pm_tl_n, pm_tl_s, sc_uL, show ¬ (1 : Int32) = 0 by decide, l2, q1]
        rw [← e]
        exact ⟨rfl, C2, q2.tr g2⟩
      · rw [if_neg (by rw [c]; decide)] at e
        simp only [c, Bool.false_eq_true, if_false]
        have co2 := C2.o
        have xo2 := D2.o
        have xa2 := D2.sh
        have xb2 := D2.ko
        have xc2 := D2.lo
        have xf2 := D2.co
        have x12 := D2.wo
        have x22 := D2.to
        have x32 := D2.so
        have x42 := D2.go
        have x52 := D2.po
        show W_X11_needed _ _ _ _ _ _ _ _ _
        simp only [w_X11_needed_52, w_X11_needed_57, w_X11_needed_58, w_X11_needed_61, w_X11_needed_64, w_X11_needed_65, pm_1i_c, pm_2i_c, pm_1l_c, pm_2l_c, pm_1a_c, pm_ia_c, pm_iia_c, pm_va_c, pm_cp_c, pm_k0_c, pm_k1_c, pm_k2_c, pm_k3_c, pm_s1_c, pm_s2_c, pm_s3_c, pm_s4_c, pm_ri_c, pm_ra_c, pm_rn_c, pm_rk_i, pm_rk_z, pm_rk_a, pm_vk_i, pm_vk_z, pm_vk_a, pm_cti, pm_ctr, pm_ldi_z, pm_ldi_s, pm_lda_z, pm_lda_s, pm_cat_n, pm_cat_i, pm_cat_r, pm_cat_l, pm_obj, pm_arr, pm_opt, pm_ird, pm_aln, List.getElem?_cons_zero, List.getElem?_cons_succ, List.set_cons_zero, List.set_cons_succ, List.length_cons, List.length_nil, List.length_set, true_and, and_true, Nat.add_zero, Nat.zero_add, Nat.le_refl, Nat.reduceAdd, Nat.reduceLT, Nat.reduceLeDiff, Nat.zero_le, not_false_eq_true, not_true_eq_false, false_implies, implies_true, true_implies, Nat.zero_lt_succ, Nat.lt_add_one, pm_tl_n, pm_tl_s, sc_uL, co2, xo2, xa2, xb2, xc2, xf2, x12, x22, x32, x42, x52, l2, q1]
        refine PM_use (c_Sketch_add (by rw [l2, q1]; exact hl) D2.sk V1 k (d + 2)) ?_
        rintro v h3 l3 ⟨rfl, K1, K2⟩
        have D3 := D2.usk K1 K2 (skEq_addF B k)
        obtain ⟨C3, g3⟩ := C2.us D3 (frd_3 K2)
        show W_X11_needed _ _ _ _ _ _ _ _ _
        simp only [w_X11_needed_68, w_X11_needed_71, pm_1i_c, pm_2i_c, pm_1l_c, pm_2l_c, pm_1a_c, pm_ia_c, pm_iia_c, pm_va_c, pm_cp_c, pm_k0_c, pm_k1_c, pm_k2_c, pm_k3_c, pm_s1_c, pm_s2_c, pm_s3_c, pm_s4_c, pm_ri_c, pm_ra_c, pm_rn_c, pm_rk_i, pm_rk_z, pm_rk_a, pm_vk_i, pm_vk_z, pm_vk_a, pm_cti, pm_ctr, pm_ldi_z, pm_ldi_s, pm_lda_z, pm_lda_s, pm_cat_n, pm_cat_i, pm_cat_r, pm_cat_l, pm_obj, pm_arr, pm_opt, pm_ird, pm_aln, List.getElem?_cons_zero, List.getElem?_cons_succ, List.set_cons_zero, List.set_cons_succ, List.length_cons, List.length_nil, List.length_set, true_and, and_true, Nat.add_zero, Nat.zero_add, Nat.le_refl, Nat.reduceAdd, Nat.reduceLT, Nat.reduceLeDiff, Nat.zero_le, not_false_eq_true, not_true_eq_false, false_implies, implies_true, true_implies, Nat.zero_lt_succ, Nat.lt_add_one, pm_tl_n, pm_tl_s, sc_uL, nI_1]
        exact ih (n + 1) (by omega) (by omega) h3 _ C3 D3 (skV_addF V1 k) e (by rw [l3, l2, q1]; rfl) ((q2.tr g2).tr g3)
  simp only [w_X11_needed_0, w_X11_needed_1, pm_1i_c, pm_2i_c, pm_1l_c, pm_2l_c, pm_1a_c, pm_ia_c, pm_iia_c, pm_va_c, pm_cp_c, pm_k0_c, pm_k1_c, pm_k2_c, pm_k3_c, pm_s1_c, pm_s2_c, pm_s3_c, pm_s4_c, pm_ri_c, pm_ra_c, pm_rn_c, pm_rk_i, pm_rk_z, pm_rk_a, pm_vk_i, pm_vk_z, pm_vk_a, pm_cti, pm_ctr, pm_ldi_z, pm_ldi_s, pm_lda_z, pm_lda_s, pm_cat_n, pm_cat_i, pm_cat_r, pm_cat_l, pm_obj, pm_arr, pm_opt, pm_ird, pm_aln, List.getElem?_cons_zero, List.getElem?_cons_succ, List.set_cons_zero, List.set_cons_succ, List.length_cons, List.length_nil, List.length_set, true_and, and_true, Nat.add_zero, Nat.zero_add, Nat.le_refl, Nat.reduceAdd, Nat.reduceLT, Nat.reduceLeDiff, Nat.zero_le, not_false_eq_true, not_true_eq_false, false_implies, implies_true, true_implies, Nat.zero_lt_succ, Nat.lt_add_one]
  refine PM_use (c_F_isKey k (d + 4)) ?_
  rintro v h1 l1 ⟨rfl, rfl⟩
  unfold reQ
  rcases Bool.eq_false_or_eq_true (kyB k) with c | c
  · simp only [c, if_true, Bool.true_and]
    show W_X11_needed _ _ _ _ _ _ _ _ _
    simp only [w_X11_needed_0, w_X11_needed_1, w_X11_needed_4, w_X11_needed_7, w_X11_needed_8, w_X11_needed_11, w_X11_needed_14, w_X11_needed_24, w_X11_needed_25, w_X11_needed_28, w_X11_needed_29, w_X11_needed_32, w_X11_needed_35, w_X11_needed_36, w_X11_needed_38, w_X11_needed_40, w_X11_needed_43, w_X11_needed_44, w_X11_needed_47, w_X11_needed_48, w_X11_needed_49, w_X11_needed_52, w_X11_needed_55, w_X11_needed_56, w_X11_needed_57, w_X11_needed_58, w_X11_needed_61, w_X11_needed_64, w_X11_needed_65, w_X11_needed_68, w_X11_needed_71, w_X11_needed_74, w_X11_needed_75, pm_1i_c, pm_2i_c, pm_1l_c, pm_2l_c, pm_1a_c, pm_ia_c, pm_iia_c, pm_va_c, pm_cp_c, pm_k0_c, pm_k1_c, pm_k2_c, pm_k3_c, pm_s1_c, pm_s2_c, pm_s3_c, pm_s4_c, pm_ri_c, pm_ra_c, pm_rn_c, pm_rk_i, pm_rk_z, pm_rk_a, pm_vk_i, pm_vk_z, pm_vk_a, pm_cti, pm_ctr, pm_ldi_z, pm_ldi_s, pm_lda_z, pm_lda_s, pm_cat_n, pm_cat_i, pm_cat_r, pm_cat_l, pm_obj, pm_arr, pm_opt, pm_ird, pm_aln, List.getElem?_cons_zero, List.getElem?_cons_succ, List.set_cons_zero, List.set_cons_succ, List.length_cons, List.length_nil, List.length_set, true_and, and_true, Nat.add_zero, Nat.zero_add, Nat.le_refl, Nat.reduceAdd, Nat.reduceLT, Nat.reduceLeDiff, Nat.zero_le, not_false_eq_true, not_true_eq_false, false_implies, implies_true, true_implies, Nat.zero_lt_succ, Nat.lt_add_one, pm_tl_n, pm_tl_s, sc_uL, show ¬ (1 : Int32) = 0 by decide]
    refine PM_use (c_F_isKey o (d + 4)) ?_
    rintro v h1 l1 ⟨rfl, rfl⟩
    rcases Bool.eq_false_or_eq_true (kyB o) with c2 | c2
    · simp only [c2, if_true]
      show W_X11_needed _ _ _ _ _ _ _ _ _
      simp only [w_X11_needed_0, w_X11_needed_1, w_X11_needed_4, w_X11_needed_7, w_X11_needed_8, w_X11_needed_11, w_X11_needed_14, w_X11_needed_24, w_X11_needed_25, w_X11_needed_28, w_X11_needed_29, w_X11_needed_32, w_X11_needed_35, w_X11_needed_36, w_X11_needed_38, w_X11_needed_40, w_X11_needed_43, w_X11_needed_44, w_X11_needed_47, w_X11_needed_48, w_X11_needed_49, w_X11_needed_52, w_X11_needed_55, w_X11_needed_56, w_X11_needed_57, w_X11_needed_58, w_X11_needed_61, w_X11_needed_64, w_X11_needed_65, w_X11_needed_68, w_X11_needed_71, w_X11_needed_74, w_X11_needed_75, pm_1i_c, pm_2i_c, pm_1l_c, pm_2l_c, pm_1a_c, pm_ia_c, pm_iia_c, pm_va_c, pm_cp_c, pm_k0_c, pm_k1_c, pm_k2_c, pm_k3_c, pm_s1_c, pm_s2_c, pm_s3_c, pm_s4_c, pm_ri_c, pm_ra_c, pm_rn_c, pm_rk_i, pm_rk_z, pm_rk_a, pm_vk_i, pm_vk_z, pm_vk_a, pm_cti, pm_ctr, pm_ldi_z, pm_ldi_s, pm_lda_z, pm_lda_s, pm_cat_n, pm_cat_i, pm_cat_r, pm_cat_l, pm_obj, pm_arr, pm_opt, pm_ird, pm_aln, List.getElem?_cons_zero, List.getElem?_cons_succ, List.set_cons_zero, List.set_cons_succ, List.length_cons, List.length_nil, List.length_set, true_and, and_true, Nat.add_zero, Nat.zero_add, Nat.le_refl, Nat.reduceAdd, Nat.reduceLT, Nat.reduceLeDiff, Nat.zero_le, not_false_eq_true, not_true_eq_false, false_implies, implies_true, true_implies, Nat.zero_lt_succ, Nat.lt_add_one, pm_tl_n, pm_tl_s, sc_uL, show ¬ (1 : Int32) = 0 by decide, co, xo0, xa0, xb0, xc0, xf0, x10, x20, x30, x40, x50, xo0s, xa0s, xb0s, xc0s, xf0s, x10s, x20s, x30s, x40s, x50s]
      refine PM_use (c_Desk_copyFrom D0s D0 (by omega) V d) ?_
      rintro v h2 l2 ⟨rfl, D2, f2⟩
      obtain ⟨C2, g2⟩ := C.us D2 f2
      show W_X11_needed _ _ _ _ _ _ _ _ _
      simp only [w_X11_needed_35, w_X11_needed_36, pm_1i_c, pm_2i_c, pm_1l_c, pm_2l_c, pm_1a_c, pm_ia_c, pm_iia_c, pm_va_c, pm_cp_c, pm_k0_c, pm_k1_c, pm_k2_c, pm_k3_c, pm_s1_c, pm_s2_c, pm_s3_c, pm_s4_c, pm_ri_c, pm_ra_c, pm_rn_c, pm_rk_i, pm_rk_z, pm_rk_a, pm_vk_i, pm_vk_z, pm_vk_a, pm_cti, pm_ctr, pm_ldi_z, pm_ldi_s, pm_lda_z, pm_lda_s, pm_cat_n, pm_cat_i, pm_cat_r, pm_cat_l, pm_obj, pm_arr, pm_opt, pm_ird, pm_aln, List.getElem?_cons_zero, List.getElem?_cons_succ, List.set_cons_zero, List.set_cons_succ, List.length_cons, List.length_nil, List.length_set, true_and, and_true, Nat.add_zero, Nat.zero_add, Nat.le_refl, Nat.reduceAdd, Nat.reduceLT, Nat.reduceLeDiff, Nat.zero_le, not_false_eq_true, not_true_eq_false, false_implies, implies_true, true_implies, Nat.zero_lt_succ, Nat.lt_add_one, pm_tl_n, pm_tl_s, sc_uL]
      exact loop 21 0 rfl (by omega) h2 A C2 D2 V rfl (by rw [l2]; rfl) g2
    · simp only [c2, Bool.false_eq_true, if_false]
      show W_X11_needed _ _ _ _ _ _ _ _ _
      simp only [w_X11_needed_0, w_X11_needed_1, w_X11_needed_4, w_X11_needed_7, w_X11_needed_8, w_X11_needed_11, w_X11_needed_14, w_X11_needed_24, w_X11_needed_25, w_X11_needed_28, w_X11_needed_29, w_X11_needed_32, w_X11_needed_35, w_X11_needed_36, w_X11_needed_38, w_X11_needed_40, w_X11_needed_43, w_X11_needed_44, w_X11_needed_47, w_X11_needed_48, w_X11_needed_49, w_X11_needed_52, w_X11_needed_55, w_X11_needed_56, w_X11_needed_57, w_X11_needed_58, w_X11_needed_61, w_X11_needed_64, w_X11_needed_65, w_X11_needed_68, w_X11_needed_71, w_X11_needed_74, w_X11_needed_75, pm_1i_c, pm_2i_c, pm_1l_c, pm_2l_c, pm_1a_c, pm_ia_c, pm_iia_c, pm_va_c, pm_cp_c, pm_k0_c, pm_k1_c, pm_k2_c, pm_k3_c, pm_s1_c, pm_s2_c, pm_s3_c, pm_s4_c, pm_ri_c, pm_ra_c, pm_rn_c, pm_rk_i, pm_rk_z, pm_rk_a, pm_vk_i, pm_vk_z, pm_vk_a, pm_cti, pm_ctr, pm_ldi_z, pm_ldi_s, pm_lda_z, pm_lda_s, pm_cat_n, pm_cat_i, pm_cat_r, pm_cat_l, pm_obj, pm_arr, pm_opt, pm_ird, pm_aln, List.getElem?_cons_zero, List.getElem?_cons_succ, List.set_cons_zero, List.set_cons_succ, List.length_cons, List.length_nil, List.length_set, true_and, and_true, Nat.add_zero, Nat.zero_add, Nat.le_refl, Nat.reduceAdd, Nat.reduceLT, Nat.reduceLeDiff, Nat.zero_le, not_false_eq_true, not_true_eq_false, false_implies, implies_true, true_implies, Nat.zero_lt_succ, Nat.lt_add_one, pm_tl_n, pm_tl_s, sc_uL]
      exact ⟨C, frC.rf⟩
  · simp only [c, Bool.false_eq_true, if_false, Bool.false_and]
    show W_X11_needed _ _ _ _ _ _ _ _ _
    simp only [w_X11_needed_0, w_X11_needed_1, w_X11_needed_4, w_X11_needed_7, w_X11_needed_8, w_X11_needed_11, w_X11_needed_14, w_X11_needed_24, w_X11_needed_25, w_X11_needed_28, w_X11_needed_29, w_X11_needed_32, w_X11_needed_35, w_X11_needed_36, w_X11_needed_38, w_X11_needed_40, w_X11_needed_43, w_X11_needed_44, w_X11_needed_47, w_X11_needed_48, w_X11_needed_49, w_X11_needed_52, w_X11_needed_55, w_X11_needed_56, w_X11_needed_57, w_X11_needed_58, w_X11_needed_61, w_X11_needed_64, w_X11_needed_65, w_X11_needed_68, w_X11_needed_71, w_X11_needed_74, w_X11_needed_75, pm_1i_c, pm_2i_c, pm_1l_c, pm_2l_c, pm_1a_c, pm_ia_c, pm_iia_c, pm_va_c, pm_cp_c, pm_k0_c, pm_k1_c, pm_k2_c, pm_k3_c, pm_s1_c, pm_s2_c, pm_s3_c, pm_s4_c, pm_ri_c, pm_ra_c, pm_rn_c, pm_rk_i, pm_rk_z, pm_rk_a, pm_vk_i, pm_vk_z, pm_vk_a, pm_cti, pm_ctr, pm_ldi_z, pm_ldi_s, pm_lda_z, pm_lda_s, pm_cat_n, pm_cat_i, pm_cat_r, pm_cat_l, pm_obj, pm_arr, pm_opt, pm_ird, pm_aln, List.getElem?_cons_zero, List.getElem?_cons_succ, List.set_cons_zero, List.set_cons_succ, List.length_cons, List.length_nil, List.length_set, true_and, and_true, Nat.add_zero, Nat.zero_add, Nat.le_refl, Nat.reduceAdd, Nat.reduceLT, Nat.reduceLeDiff, Nat.zero_le, not_false_eq_true, not_true_eq_false, false_implies, implies_true, true_implies, Nat.zero_lt_succ, Nat.lt_add_one, pm_tl_n, pm_tl_s, sc_uL]
    exact ⟨C, frC.rf⟩
def twN (A : AD) (key : Int32) (o : Nat) : Int32 := if nI o = key then -1 else shrF A key (nI o) 4
def twS (A : AD) (key : Int32) : Nat → Int32 × Int32
  | 0 => (-1, -1)
  | o + 1 => if (twS A key o).2 < twN A key o then (nI o, twN A key o) else twS A key o
theorem twS_s (A : AD) (key : Int32) (o : Nat) : twS A key (o + 1) = if (twS A key o).2 < twN A key o then (nI o, twN A key o) else twS A key o := rfl
theorem c_F_twin (hl : h.length ≤ 1000000) (C : cr_ h a bs ws A K ik ft) (V : skV A) (key : Int32) (d : Nat) : W_X11_twin (d + 3) (h.length + 0) 0 (reQ a bs ws A K ik ft h (kyB key) 0 (twS A key 1000).1) 0 [some (.ref a), some (.int key), none, none, none, none] [] h 0 := by
  have co := C.o
  have D0 := C.d
  have xo0 := D0.o
  have xa0 := D0.sh
  have xb0 := D0.ko
  have xc0 := D0.lo
  have xf0 := D0.co
  have x10 := D0.wo
  have x20 := D0.to
  have x30 := D0.so
  have x40 := D0.go
  have x50 := D0.po
  have loop : ∀ n o, 1000 - o = n → o ≤ 1000 → ∀ (x5 : Option Value), W_X11_twin (d + 3) (h.length + 0) 0 (fun v h' => v = some (.int (twS A key 1000).1) ∧ cr_ h' a bs ws A K ik ft ∧ frC h h' a) 24 [some (.ref a), some (.int key), some (.int (twS A key o).1), some (.int (twS A key o).2), some (.int (nI o)), x5] [] h 0 := by
    intro n
    induction n with
    | zero =>
      intro o hn ho x5
      have : o = 1000 := by omega
      have e1 : ¬ nI o < 1000 := nI_nlt (b := 1000) (by omega) (by omega)
      rw [w_X11_twin_24]
      simp only [w_X11_twin_26, w_X11_twin_29, w_X11_twin_75, w_X11_twin_76, pm_1i_c, pm_2i_c, pm_1l_c, pm_2l_c, pm_1a_c, pm_ia_c, pm_iia_c, pm_va_c, pm_cp_c, pm_k0_c, pm_k1_c, pm_k2_c, pm_k3_c, pm_s1_c, pm_s2_c, pm_s3_c, pm_s4_c, pm_ri_c, pm_ra_c, pm_rn_c, pm_rk_i, pm_rk_z, pm_rk_a, pm_vk_i, pm_vk_z, pm_vk_a, pm_cti, pm_ctr, pm_ldi_z, pm_ldi_s, pm_lda_z, pm_lda_s, pm_cat_n, pm_cat_i, pm_cat_r, pm_cat_l, pm_obj, pm_arr, pm_opt, pm_ird, pm_aln, List.getElem?_cons_zero, List.getElem?_cons_succ, List.set_cons_zero, List.set_cons_succ, List.length_cons, List.length_nil, List.length_set, true_and, and_true, Nat.add_zero, Nat.zero_add, Nat.le_refl, Nat.reduceAdd, Nat.reduceLT, Nat.reduceLeDiff, Nat.zero_le, not_false_eq_true, not_true_eq_false, false_implies, implies_true, true_implies, Nat.zero_lt_succ, Nat.lt_add_one, e1]
      rw [this]
      exact ⟨rfl, C, frC.rf⟩
    | succ n ih =>
      intro o hn ho x5
      have e1 : nI o < 1000 := nI_lt (b := 1000) (by omega) (by omega)
      have I := ih (o + 1) (by omega) (by omega)
      rw [twS_s A key o] at I
      have fin : ∀ x5, W_X11_twin (d + 3) (h.length + 0) 0 (fun v h' => v = some (.int (twS A key 1000).1) ∧ cr_ h' a bs ws A K ik ft ∧ frC h h' a) 55 [some (.ref a), some (.int key), some (.int (twS A key o).1), some (.int (twS A key o).2), some (.int (nI o)), x5] [.int (twN A key o)] h 0 := by
        intro x5
        simp only [w_X11_twin_55, w_X11_twin_57, w_X11_twin_59, w_X11_twin_60, w_X11_twin_63, w_X11_twin_65, w_X11_twin_66, w_X11_twin_68, w_X11_twin_69, w_X11_twin_72, pm_1i_c, pm_2i_c, pm_1l_c, pm_2l_c, pm_1a_c, pm_ia_c, pm_iia_c, pm_va_c, pm_cp_c, pm_k0_c, pm_k1_c, pm_k2_c, pm_k3_c, pm_s1_c, pm_s2_c, pm_s3_c, pm_s4_c, pm_ri_c, pm_ra_c, pm_rn_c, pm_rk_i, pm_rk_z, pm_rk_a, pm_vk_i, pm_vk_z, pm_vk_a, pm_cti, pm_ctr, pm_ldi_z, pm_ldi_s, pm_lda_z, pm_lda_s, pm_cat_n, pm_cat_i, pm_cat_r, pm_cat_l, pm_obj, pm_arr, pm_opt, pm_ird, pm_aln, List.getElem?_cons_zero, List.getElem?_cons_succ, List.set_cons_zero, List.set_cons_succ, List.length_cons, List.length_nil, List.length_set, true_and, and_true, Nat.add_zero, Nat.zero_add, Nat.le_refl, Nat.reduceAdd, Nat.reduceLT, Nat.reduceLeDiff, Nat.zero_le, not_false_eq_true, not_true_eq_false, false_implies, implies_true, true_implies, Nat.zero_lt_succ, Nat.lt_add_one, nI_1]
        refine ⟨fun c => ?_, fun c => ?_⟩
        · rw [if_neg c] at I
          exact I _
        · rw [if_pos c] at I
          exact I _
      rw [w_X11_twin_24]
      by_cases c : nI o = key
      · have ee : twN A key o = -1 := if_pos c
        simp only [w_X11_twin_26, w_X11_twin_29, pm_1i_c, pm_2i_c, pm_1l_c, pm_2l_c, pm_1a_c, pm_ia_c, pm_iia_c, pm_va_c, pm_cp_c, pm_k0_c, pm_k1_c, pm_k2_c, pm_k3_c, pm_s1_c, pm_s2_c, pm_s3_c, pm_s4_c, pm_ri_c, pm_ra_c, pm_rn_c, pm_rk_i, pm_rk_z, pm_rk_a, pm_vk_i, pm_vk_z, pm_vk_a, pm_cti, pm_ctr, pm_ldi_z, pm_ldi_s, pm_lda_z, pm_lda_s, pm_cat_n, pm_cat_i, pm_cat_r, pm_cat_l, pm_obj, pm_arr, pm_opt, pm_ird, pm_aln, List.getElem?_cons_zero, List.getElem?_cons_succ, List.set_cons_zero, List.set_cons_succ, List.length_cons, List.length_nil, List.length_set, true_and, and_true, Nat.add_zero, Nat.zero_add, Nat.le_refl, Nat.reduceAdd, Nat.reduceLT, Nat.reduceLeDiff, Nat.zero_le, not_false_eq_true, not_true_eq_false, false_implies, implies_true, true_implies, Nat.zero_lt_succ, Nat.lt_add_one, e1]
        simp only [w_X11_twin_32, w_X11_twin_34, w_X11_twin_35, w_X11_twin_38, w_X11_twin_39, pm_1i_c, pm_2i_c, pm_1l_c, pm_2l_c, pm_1a_c, pm_ia_c, pm_iia_c, pm_va_c, pm_cp_c, pm_k0_c, pm_k1_c, pm_k2_c, pm_k3_c, pm_s1_c, pm_s2_c, pm_s3_c, pm_s4_c, pm_ri_c, pm_ra_c, pm_rn_c, pm_rk_i, pm_rk_z, pm_rk_a, pm_vk_i, pm_vk_z, pm_vk_a, pm_cti, pm_ctr, pm_ldi_z, pm_ldi_s, pm_lda_z, pm_lda_s, pm_cat_n, pm_cat_i, pm_cat_r, pm_cat_l, pm_obj, pm_arr, pm_opt, pm_ird, pm_aln, List.getElem?_cons_zero, List.getElem?_cons_succ, List.set_cons_zero, List.set_cons_succ, List.length_cons, List.length_nil, List.length_set, true_and, and_true, Nat.add_zero, Nat.zero_add, Nat.le_refl, Nat.reduceAdd, Nat.reduceLT, Nat.reduceLeDiff, Nat.zero_le, not_false_eq_true, not_true_eq_false, false_implies, implies_true, true_implies, Nat.zero_lt_succ, Nat.lt_add_one, c]
        rw [ee] at fin
        rw [c] at fin
        exact fin _
      · have ee : twN A key o = shrF A key (nI o) 4 := if_neg c
        simp only [w_X11_twin_26, w_X11_twin_29, w_X11_twin_32, w_X11_twin_34, w_X11_twin_35, w_X11_twin_38, w_X11_twin_39, w_X11_twin_42, w_X11_twin_43, w_X11_twin_46, w_X11_twin_49, w_X11_twin_50, w_X11_twin_52, pm_1i_c, pm_2i_c, pm_1l_c, pm_2l_c, pm_1a_c, pm_ia_c, pm_iia_c, pm_va_c, pm_cp_c, pm_k0_c, pm_k1_c, pm_k2_c, pm_k3_c, pm_s1_c, pm_s2_c, pm_s3_c, pm_s4_c, pm_ri_c, pm_ra_c, pm_rn_c, pm_rk_i, pm_rk_z, pm_rk_a, pm_vk_i, pm_vk_z, pm_vk_a, pm_cti, pm_ctr, pm_ldi_z, pm_ldi_s, pm_lda_z, pm_lda_s, pm_cat_n, pm_cat_i, pm_cat_r, pm_cat_l, pm_obj, pm_arr, pm_opt, pm_ird, pm_aln, List.getElem?_cons_zero, List.getElem?_cons_succ, List.set_cons_zero, List.set_cons_succ, List.length_cons, List.length_nil, List.length_set, true_and, and_true, Nat.add_zero, Nat.zero_add, Nat.le_refl, Nat.reduceAdd, Nat.reduceLT, Nat.reduceLeDiff, Nat.zero_le, not_false_eq_true, not_true_eq_false, false_implies, implies_true, true_implies, Nat.zero_lt_succ, Nat.lt_add_one, e1, c, co, xo0, xa0, xb0, xc0, xf0, x10, x20, x30, x40, x50]
        refine PM_use (c_Sketch_sharedRows hl D0.sk V.1 key (nI o) d) ?_
        rintro v h2 l2 ⟨rfl, rfl⟩
        rw [ee] at fin
        exact fin _
  simp only [w_X11_twin_0, w_X11_twin_1, pm_1i_c, pm_2i_c, pm_1l_c, pm_2l_c, pm_1a_c, pm_ia_c, pm_iia_c, pm_va_c, pm_cp_c, pm_k0_c, pm_k1_c, pm_k2_c, pm_k3_c, pm_s1_c, pm_s2_c, pm_s3_c, pm_s4_c, pm_ri_c, pm_ra_c, pm_rn_c, pm_rk_i, pm_rk_z, pm_rk_a, pm_vk_i, pm_vk_z, pm_vk_a, pm_cti, pm_ctr, pm_ldi_z, pm_ldi_s, pm_lda_z, pm_lda_s, pm_cat_n, pm_cat_i, pm_cat_r, pm_cat_l, pm_obj, pm_arr, pm_opt, pm_ird, pm_aln, List.getElem?_cons_zero, List.getElem?_cons_succ, List.set_cons_zero, List.set_cons_succ, List.length_cons, List.length_nil, List.length_set, true_and, and_true, Nat.add_zero, Nat.zero_add, Nat.le_refl, Nat.reduceAdd, Nat.reduceLT, Nat.reduceLeDiff, Nat.zero_le, not_false_eq_true, not_true_eq_false, false_implies, implies_true, true_implies, Nat.zero_lt_succ, Nat.lt_add_one]
  refine PM_use (c_F_isKey key (d + 2)) ?_
  rintro v h1 l1 ⟨rfl, rfl⟩
  unfold reQ
  rcases Bool.eq_false_or_eq_true (kyB key) with c | c
  · simp only [c, if_true]
    show W_X11_twin _ _ _ _ _ _ _ _ _
    simp only [w_X11_twin_0, w_X11_twin_1, w_X11_twin_4, w_X11_twin_7, w_X11_twin_17, w_X11_twin_18, w_X11_twin_19, w_X11_twin_20, w_X11_twin_21, w_X11_twin_22, w_X11_twin_26, w_X11_twin_29, w_X11_twin_32, w_X11_twin_34, w_X11_twin_35, w_X11_twin_38, w_X11_twin_39, w_X11_twin_42, w_X11_twin_43, w_X11_twin_46, w_X11_twin_49, w_X11_twin_50, w_X11_twin_52, w_X11_twin_55, w_X11_twin_57, w_X11_twin_59, w_X11_twin_60, w_X11_twin_63, w_X11_twin_65, w_X11_twin_66, w_X11_twin_68, w_X11_twin_69, w_X11_twin_72, w_X11_twin_75, w_X11_twin_76, pm_1i_c, pm_2i_c, pm_1l_c, pm_2l_c, pm_1a_c, pm_ia_c, pm_iia_c, pm_va_c, pm_cp_c, pm_k0_c, pm_k1_c, pm_k2_c, pm_k3_c, pm_s1_c, pm_s2_c, pm_s3_c, pm_s4_c, pm_ri_c, pm_ra_c, pm_rn_c, pm_rk_i, pm_rk_z, pm_rk_a, pm_vk_i, pm_vk_z, pm_vk_a, pm_cti, pm_ctr, pm_ldi_z, pm_ldi_s, pm_lda_z, pm_lda_s, pm_cat_n, pm_cat_i, pm_cat_r, pm_cat_l, pm_obj, pm_arr, pm_opt, pm_ird, pm_aln, List.getElem?_cons_zero, List.getElem?_cons_succ, List.set_cons_zero, List.set_cons_succ, List.length_cons, List.length_nil, List.length_set, true_and, and_true, Nat.add_zero, Nat.zero_add, Nat.le_refl, Nat.reduceAdd, Nat.reduceLT, Nat.reduceLeDiff, Nat.zero_le, not_false_eq_true, not_true_eq_false, false_implies, implies_true, true_implies, Nat.zero_lt_succ, Nat.lt_add_one, pm_tl_n, pm_tl_s, sc_uL, show ¬ (1 : Int32) = 0 by decide]
    exact loop 1000 0 rfl (by omega) _
  · simp only [c, Bool.false_eq_true, if_false]
    show W_X11_twin _ _ _ _ _ _ _ _ _
    simp only [w_X11_twin_0, w_X11_twin_1, w_X11_twin_4, w_X11_twin_7, w_X11_twin_17, w_X11_twin_18, w_X11_twin_19, w_X11_twin_20, w_X11_twin_21, w_X11_twin_22, w_X11_twin_26, w_X11_twin_29, w_X11_twin_32, w_X11_twin_34, w_X11_twin_35, w_X11_twin_38, w_X11_twin_39, w_X11_twin_42, w_X11_twin_43, w_X11_twin_46, w_X11_twin_49, w_X11_twin_50, w_X11_twin_52, w_X11_twin_55, w_X11_twin_57, w_X11_twin_59, w_X11_twin_60, w_X11_twin_63, w_X11_twin_65, w_X11_twin_66, w_X11_twin_68, w_X11_twin_69, w_X11_twin_72, w_X11_twin_75, w_X11_twin_76, pm_1i_c, pm_2i_c, pm_1l_c, pm_2l_c, pm_1a_c, pm_ia_c, pm_iia_c, pm_va_c, pm_cp_c, pm_k0_c, pm_k1_c, pm_k2_c, pm_k3_c, pm_s1_c, pm_s2_c, pm_s3_c, pm_s4_c, pm_ri_c, pm_ra_c, pm_rn_c, pm_rk_i, pm_rk_z, pm_rk_a, pm_vk_i, pm_vk_z, pm_vk_a, pm_cti, pm_ctr, pm_ldi_z, pm_ldi_s, pm_lda_z, pm_lda_s, pm_cat_n, pm_cat_i, pm_cat_r, pm_cat_l, pm_obj, pm_arr, pm_opt, pm_ird, pm_aln, List.getElem?_cons_zero, List.getElem?_cons_succ, List.set_cons_zero, List.set_cons_succ, List.length_cons, List.length_nil, List.length_set, true_and, and_true, Nat.add_zero, Nat.zero_add, Nat.le_refl, Nat.reduceAdd, Nat.reduceLT, Nat.reduceLeDiff, Nat.zero_le, not_false_eq_true, not_true_eq_false, false_implies, implies_true, true_implies, Nat.zero_lt_succ, Nat.lt_add_one, pm_tl_n, pm_tl_s, sc_uL]
    exact ⟨C, frC.rf⟩
def paB (w : Int32) : Bool := decide (w = 0) || (decide (w = 1) || (decide (w = 2) || (decide (w = 3) || decide (w = 4))))
def paF (A : AD) (w : Int32) : Int32 := if w = 0 then nI (unS (li A 5) (li A 5).length) else if w = 1 then (cmS (li A 5) (li A 5).length).1 else if w = 2 then nI ((li A 5).count (cmS (li A 5) (li A 5).length).1) else if w = 3 then nI (lgS (li A 5) (li A 5).length).1 else wgS (li A 5) (li A 5).length
theorem c_F_past (C : cr_ h a bs ws A K ik ft) (w : Int32) (d : Nat) : W_X11_past (d + 3) (h.length + 0) 0 (reQ a bs ws A K ik ft h (paB w) 1 (paF A w)) 0 [some (.ref a), some (.int w)] [] h 0 := by
  have co := C.o
  have D0 := C.d
  obtain ⟨T, Dp, U, L⟩ := C.lb
  have lo := L.1
  have xo0 := D0.o
  have xa0 := D0.sh
  have xb0 := D0.ko
  have xc0 := D0.lo
  have xf0 := D0.co
  have x10 := D0.wo
  have x20 := D0.to
  have x30 := D0.so
  have x40 := D0.go
  have x50 := D0.po
  simp only [w_X11_past_0, w_X11_past_1, w_X11_past_36, w_X11_past_37, w_X11_past_40, w_X11_past_41, w_X11_past_44, w_X11_past_47, w_X11_past_50, w_X11_past_51, w_X11_past_52, w_X11_past_55, w_X11_past_56, w_X11_past_59, w_X11_past_62, w_X11_past_65, w_X11_past_66, w_X11_past_67, w_X11_past_70, w_X11_past_71, w_X11_past_74, w_X11_past_77, w_X11_past_78, w_X11_past_81, w_X11_past_82, w_X11_past_85, w_X11_past_88, w_X11_past_91, w_X11_past_94, w_X11_past_95, w_X11_past_96, w_X11_past_99, w_X11_past_100, w_X11_past_103, w_X11_past_106, w_X11_past_109, w_X11_past_110, w_X11_past_111, w_X11_past_114, w_X11_past_115, w_X11_past_118, w_X11_past_121, w_X11_past_124, w_X11_past_125, pm_1i_c, pm_2i_c, pm_1l_c, pm_2l_c, pm_1a_c, pm_ia_c, pm_iia_c, pm_va_c, pm_cp_c, pm_k0_c, pm_k1_c, pm_k2_c, pm_k3_c, pm_s1_c, pm_s2_c, pm_s3_c, pm_s4_c, pm_ri_c, pm_ra_c, pm_rn_c, pm_rk_i, pm_rk_z, pm_rk_a, pm_vk_i, pm_vk_z, pm_vk_a, pm_cti, pm_ctr, pm_ldi_z, pm_ldi_s, pm_lda_z, pm_lda_s, pm_cat_n, pm_cat_i, pm_cat_r, pm_cat_l, pm_obj, pm_arr, pm_opt, pm_ird, pm_aln, List.getElem?_cons_zero, List.getElem?_cons_succ, List.set_cons_zero, List.set_cons_succ, List.length_cons, List.length_nil, List.length_set, true_and, and_true, Nat.add_zero, Nat.zero_add, Nat.le_refl, Nat.reduceAdd, Nat.reduceLT, Nat.reduceLeDiff, Nat.zero_le, not_false_eq_true, not_true_eq_false, false_implies, implies_true, true_implies, Nat.zero_lt_succ, Nat.lt_add_one, co, xo0, xa0, xb0, xc0, xf0, x10, x20, x30, x40, x50, lo, pm_sw_c, pm_sw_n, Int32.reduceAdd]
  unfold reQ paB paF
  refine ⟨fun c => ?_, fun c => ⟨fun c2 => ?_, fun c2 => ⟨fun c3 => ?_, fun c3 => ⟨fun c4 => ?_, fun c4 => ⟨fun c5 => ?_, fun c5 => ?_⟩⟩⟩⟩⟩
  · subst c
    refine PM_use (c_Lb_unlikeKeys D0.p d) ?_
    rintro v h2 l2 ⟨rfl, rfl⟩
    show W_X11_past _ _ _ _ _ _ _ _ _
    simp only [w_X11_past_0, w_X11_past_1, w_X11_past_36, w_X11_past_37, w_X11_past_40, w_X11_past_41, w_X11_past_44, w_X11_past_47, w_X11_past_50, w_X11_past_51, w_X11_past_52, w_X11_past_55, w_X11_past_56, w_X11_past_59, w_X11_past_62, w_X11_past_65, w_X11_past_66, w_X11_past_67, w_X11_past_70, w_X11_past_71, w_X11_past_74, w_X11_past_77, w_X11_past_78, w_X11_past_81, w_X11_past_82, w_X11_past_85, w_X11_past_88, w_X11_past_91, w_X11_past_94, w_X11_past_95, w_X11_past_96, w_X11_past_99, w_X11_past_100, w_X11_past_103, w_X11_past_106, w_X11_past_109, w_X11_past_110, w_X11_past_111, w_X11_past_114, w_X11_past_115, w_X11_past_118, w_X11_past_121, w_X11_past_124, w_X11_past_125, pm_1i_c, pm_2i_c, pm_1l_c, pm_2l_c, pm_1a_c, pm_ia_c, pm_iia_c, pm_va_c, pm_cp_c, pm_k0_c, pm_k1_c, pm_k2_c, pm_k3_c, pm_s1_c, pm_s2_c, pm_s3_c, pm_s4_c, pm_ri_c, pm_ra_c, pm_rn_c, pm_rk_i, pm_rk_z, pm_rk_a, pm_vk_i, pm_vk_z, pm_vk_a, pm_cti, pm_ctr, pm_ldi_z, pm_ldi_s, pm_lda_z, pm_lda_s, pm_cat_n, pm_cat_i, pm_cat_r, pm_cat_l, pm_obj, pm_arr, pm_opt, pm_ird, pm_aln, List.getElem?_cons_zero, List.getElem?_cons_succ, List.set_cons_zero, List.set_cons_succ, List.length_cons, List.length_nil, List.length_set, true_and, and_true, Nat.add_zero, Nat.zero_add, Nat.le_refl, Nat.reduceAdd, Nat.reduceLT, Nat.reduceLeDiff, Nat.zero_le, not_false_eq_true, not_true_eq_false, false_implies, implies_true, true_implies, Nat.zero_lt_succ, Nat.lt_add_one, pm_tl_n, pm_tl_s, sc_uL]
    exact ⟨rfl, C, frC.rf⟩
  · subst c2
    refine PM_use (c_Lb_commonest D0.p ⟨_, lo⟩ d) ?_
    rintro v h2 l2 ⟨rfl, rfl⟩
    show W_X11_past _ _ _ _ _ _ _ _ _
    simp only [w_X11_past_0, w_X11_past_1, w_X11_past_36, w_X11_past_37, w_X11_past_40, w_X11_past_41, w_X11_past_44, w_X11_past_47, w_X11_past_50, w_X11_past_51, w_X11_past_52, w_X11_past_55, w_X11_past_56, w_X11_past_59, w_X11_past_62, w_X11_past_65, w_X11_past_66, w_X11_past_67, w_X11_past_70, w_X11_past_71, w_X11_past_74, w_X11_past_77, w_X11_past_78, w_X11_past_81, w_X11_past_82, w_X11_past_85, w_X11_past_88, w_X11_past_91, w_X11_past_94, w_X11_past_95, w_X11_past_96, w_X11_past_99, w_X11_past_100, w_X11_past_103, w_X11_past_106, w_X11_past_109, w_X11_past_110, w_X11_past_111, w_X11_past_114, w_X11_past_115, w_X11_past_118, w_X11_past_121, w_X11_past_124, w_X11_past_125, pm_1i_c, pm_2i_c, pm_1l_c, pm_2l_c, pm_1a_c, pm_ia_c, pm_iia_c, pm_va_c, pm_cp_c, pm_k0_c, pm_k1_c, pm_k2_c, pm_k3_c, pm_s1_c, pm_s2_c, pm_s3_c, pm_s4_c, pm_ri_c, pm_ra_c, pm_rn_c, pm_rk_i, pm_rk_z, pm_rk_a, pm_vk_i, pm_vk_z, pm_vk_a, pm_cti, pm_ctr, pm_ldi_z, pm_ldi_s, pm_lda_z, pm_lda_s, pm_cat_n, pm_cat_i, pm_cat_r, pm_cat_l, pm_obj, pm_arr, pm_opt, pm_ird, pm_aln, List.getElem?_cons_zero, List.getElem?_cons_succ, List.set_cons_zero, List.set_cons_succ, List.length_cons, List.length_nil, List.length_set, true_and, and_true, Nat.add_zero, Nat.zero_add, Nat.le_refl, Nat.reduceAdd, Nat.reduceLT, Nat.reduceLeDiff, Nat.zero_le, not_false_eq_true, not_true_eq_false, false_implies, implies_true, true_implies, Nat.zero_lt_succ, Nat.lt_add_one, pm_tl_n, pm_tl_s, sc_uL]
    exact ⟨rfl, C, frC.rf⟩
  · subst c3
    refine PM_use (c_Lb_commonest D0.p ⟨_, lo⟩ d) ?_
    rintro v h2 l2 ⟨rfl, rfl⟩
    show W_X11_past _ _ _ _ _ _ _ _ _
    simp only [w_X11_past_0, w_X11_past_1, w_X11_past_36, w_X11_past_37, w_X11_past_40, w_X11_past_41, w_X11_past_44, w_X11_past_47, w_X11_past_50, w_X11_past_51, w_X11_past_52, w_X11_past_55, w_X11_past_56, w_X11_past_59, w_X11_past_62, w_X11_past_65, w_X11_past_66, w_X11_past_67, w_X11_past_70, w_X11_past_71, w_X11_past_74, w_X11_past_77, w_X11_past_78, w_X11_past_81, w_X11_past_82, w_X11_past_85, w_X11_past_88, w_X11_past_91, w_X11_past_94, w_X11_past_95, w_X11_past_96, w_X11_past_99, w_X11_past_100, w_X11_past_103, w_X11_past_106, w_X11_past_109, w_X11_past_110, w_X11_past_111, w_X11_past_114, w_X11_past_115, w_X11_past_118, w_X11_past_121, w_X11_past_124, w_X11_past_125, pm_1i_c, pm_2i_c, pm_1l_c, pm_2l_c, pm_1a_c, pm_ia_c, pm_iia_c, pm_va_c, pm_cp_c, pm_k0_c, pm_k1_c, pm_k2_c, pm_k3_c, pm_s1_c, pm_s2_c, pm_s3_c, pm_s4_c, pm_ri_c, pm_ra_c, pm_rn_c, pm_rk_i, pm_rk_z, pm_rk_a, pm_vk_i, pm_vk_z, pm_vk_a, pm_cti, pm_ctr, pm_ldi_z, pm_ldi_s, pm_lda_z, pm_lda_s, pm_cat_n, pm_cat_i, pm_cat_r, pm_cat_l, pm_obj, pm_arr, pm_opt, pm_ird, pm_aln, List.getElem?_cons_zero, List.getElem?_cons_succ, List.set_cons_zero, List.set_cons_succ, List.length_cons, List.length_nil, List.length_set, true_and, and_true, Nat.add_zero, Nat.zero_add, Nat.le_refl, Nat.reduceAdd, Nat.reduceLT, Nat.reduceLeDiff, Nat.zero_le, not_false_eq_true, not_true_eq_false, false_implies, implies_true, true_implies, Nat.zero_lt_succ, Nat.lt_add_one, pm_tl_n, pm_tl_s, sc_uL, lo]
    refine PM_use (c_Lb_timesOf D0.p (cmS (li A 5) (li A 5).length).1 (d + 1)) ?_
    rintro v h2 l2 ⟨rfl, rfl⟩
    show W_X11_past _ _ _ _ _ _ _ _ _
    simp only [w_X11_past_0, w_X11_past_1, w_X11_past_36, w_X11_past_37, w_X11_past_40, w_X11_past_41, w_X11_past_44, w_X11_past_47, w_X11_past_50, w_X11_past_51, w_X11_past_52, w_X11_past_55, w_X11_past_56, w_X11_past_59, w_X11_past_62, w_X11_past_65, w_X11_past_66, w_X11_past_67, w_X11_past_70, w_X11_past_71, w_X11_past_74, w_X11_past_77, w_X11_past_78, w_X11_past_81, w_X11_past_82, w_X11_past_85, w_X11_past_88, w_X11_past_91, w_X11_past_94, w_X11_past_95, w_X11_past_96, w_X11_past_99, w_X11_past_100, w_X11_past_103, w_X11_past_106, w_X11_past_109, w_X11_past_110, w_X11_past_111, w_X11_past_114, w_X11_past_115, w_X11_past_118, w_X11_past_121, w_X11_past_124, w_X11_past_125, pm_1i_c, pm_2i_c, pm_1l_c, pm_2l_c, pm_1a_c, pm_ia_c, pm_iia_c, pm_va_c, pm_cp_c, pm_k0_c, pm_k1_c, pm_k2_c, pm_k3_c, pm_s1_c, pm_s2_c, pm_s3_c, pm_s4_c, pm_ri_c, pm_ra_c, pm_rn_c, pm_rk_i, pm_rk_z, pm_rk_a, pm_vk_i, pm_vk_z, pm_vk_a, pm_cti, pm_ctr, pm_ldi_z, pm_ldi_s, pm_lda_z, pm_lda_s, pm_cat_n, pm_cat_i, pm_cat_r, pm_cat_l, pm_obj, pm_arr, pm_opt, pm_ird, pm_aln, List.getElem?_cons_zero, List.getElem?_cons_succ, List.set_cons_zero, List.set_cons_succ, List.length_cons, List.length_nil, List.length_set, true_and, and_true, Nat.add_zero, Nat.zero_add, Nat.le_refl, Nat.reduceAdd, Nat.reduceLT, Nat.reduceLeDiff, Nat.zero_le, not_false_eq_true, not_true_eq_false, false_implies, implies_true, true_implies, Nat.zero_lt_succ, Nat.lt_add_one, pm_tl_n, pm_tl_s, sc_uL]
    exact ⟨rfl, C, frC.rf⟩
  · subst c4
    refine PM_use (c_Lb_longestUnlike D0.p d) ?_
    rintro v h2 l2 ⟨rfl, rfl⟩
    show W_X11_past _ _ _ _ _ _ _ _ _
    simp only [w_X11_past_0, w_X11_past_1, w_X11_past_36, w_X11_past_37, w_X11_past_40, w_X11_past_41, w_X11_past_44, w_X11_past_47, w_X11_past_50, w_X11_past_51, w_X11_past_52, w_X11_past_55, w_X11_past_56, w_X11_past_59, w_X11_past_62, w_X11_past_65, w_X11_past_66, w_X11_past_67, w_X11_past_70, w_X11_past_71, w_X11_past_74, w_X11_past_77, w_X11_past_78, w_X11_past_81, w_X11_past_82, w_X11_past_85, w_X11_past_88, w_X11_past_91, w_X11_past_94, w_X11_past_95, w_X11_past_96, w_X11_past_99, w_X11_past_100, w_X11_past_103, w_X11_past_106, w_X11_past_109, w_X11_past_110, w_X11_past_111, w_X11_past_114, w_X11_past_115, w_X11_past_118, w_X11_past_121, w_X11_past_124, w_X11_past_125, pm_1i_c, pm_2i_c, pm_1l_c, pm_2l_c, pm_1a_c, pm_ia_c, pm_iia_c, pm_va_c, pm_cp_c, pm_k0_c, pm_k1_c, pm_k2_c, pm_k3_c, pm_s1_c, pm_s2_c, pm_s3_c, pm_s4_c, pm_ri_c, pm_ra_c, pm_rn_c, pm_rk_i, pm_rk_z, pm_rk_a, pm_vk_i, pm_vk_z, pm_vk_a, pm_cti, pm_ctr, pm_ldi_z, pm_ldi_s, pm_lda_z, pm_lda_s, pm_cat_n, pm_cat_i, pm_cat_r, pm_cat_l, pm_obj, pm_arr, pm_opt, pm_ird, pm_aln, List.getElem?_cons_zero, List.getElem?_cons_succ, List.set_cons_zero, List.set_cons_succ, List.length_cons, List.length_nil, List.length_set, true_and, and_true, Nat.add_zero, Nat.zero_add, Nat.le_refl, Nat.reduceAdd, Nat.reduceLT, Nat.reduceLeDiff, Nat.zero_le, not_false_eq_true, not_true_eq_false, false_implies, implies_true, true_implies, Nat.zero_lt_succ, Nat.lt_add_one, pm_tl_n, pm_tl_s, sc_uL]
    exact ⟨rfl, C, frC.rf⟩
  · subst c5
    refine PM_use (c_Lb_widestGap D0.p d) ?_
    rintro v h2 l2 ⟨rfl, rfl⟩
    show W_X11_past _ _ _ _ _ _ _ _ _
    simp only [w_X11_past_0, w_X11_past_1, w_X11_past_36, w_X11_past_37, w_X11_past_40, w_X11_past_41, w_X11_past_44, w_X11_past_47, w_X11_past_50, w_X11_past_51, w_X11_past_52, w_X11_past_55, w_X11_past_56, w_X11_past_59, w_X11_past_62, w_X11_past_65, w_X11_past_66, w_X11_past_67, w_X11_past_70, w_X11_past_71, w_X11_past_74, w_X11_past_77, w_X11_past_78, w_X11_past_81, w_X11_past_82, w_X11_past_85, w_X11_past_88, w_X11_past_91, w_X11_past_94, w_X11_past_95, w_X11_past_96, w_X11_past_99, w_X11_past_100, w_X11_past_103, w_X11_past_106, w_X11_past_109, w_X11_past_110, w_X11_past_111, w_X11_past_114, w_X11_past_115, w_X11_past_118, w_X11_past_121, w_X11_past_124, w_X11_past_125, pm_1i_c, pm_2i_c, pm_1l_c, pm_2l_c, pm_1a_c, pm_ia_c, pm_iia_c, pm_va_c, pm_cp_c, pm_k0_c, pm_k1_c, pm_k2_c, pm_k3_c, pm_s1_c, pm_s2_c, pm_s3_c, pm_s4_c, pm_ri_c, pm_ra_c, pm_rn_c, pm_rk_i, pm_rk_z, pm_rk_a, pm_vk_i, pm_vk_z, pm_vk_a, pm_cti, pm_ctr, pm_ldi_z, pm_ldi_s, pm_lda_z, pm_lda_s, pm_cat_n, pm_cat_i, pm_cat_r, pm_cat_l, pm_obj, pm_arr, pm_opt, pm_ird, pm_aln, List.getElem?_cons_zero, List.getElem?_cons_succ, List.set_cons_zero, List.set_cons_succ, List.length_cons, List.length_nil, List.length_set, true_and, and_true, Nat.add_zero, Nat.zero_add, Nat.le_refl, Nat.reduceAdd, Nat.reduceLT, Nat.reduceLeDiff, Nat.zero_le, not_false_eq_true, not_true_eq_false, false_implies, implies_true, true_implies, Nat.zero_lt_succ, Nat.lt_add_one, pm_tl_n, pm_tl_s, sc_uL]
    exact ⟨rfl, C, frC.rf⟩
  · simp only [c, c2, c3, c4, c5, decide_false, Bool.or_false, Bool.false_eq_true, if_false]
    exact ⟨trivial, C, frC.rf⟩
theorem c_F_asked (C : cr_ h a bs ws A K ik ft) (key : Int32) (d : Nat) : W_X11_asked (d + 2) (h.length + 0) 0 (reQ a bs ws A K ik ft h (kyB key) 0 (nI ((li A 5).count key))) 0 [some (.ref a), some (.int key)] [] h 0 := by
  have co := C.o
  have D0 := C.d
  obtain ⟨T, Dp, U, L⟩ := C.lb
  have lo := L.1
  have xo0 := D0.o
  have xa0 := D0.sh
  have xb0 := D0.ko
  have xc0 := D0.lo
  have xf0 := D0.co
  have x10 := D0.wo
  have x20 := D0.to
  have x30 := D0.so
  have x40 := D0.go
  have x50 := D0.po
  simp only [w_X11_asked_0, w_X11_asked_1, pm_1i_c, pm_2i_c, pm_1l_c, pm_2l_c, pm_1a_c, pm_ia_c, pm_iia_c, pm_va_c, pm_cp_c, pm_k0_c, pm_k1_c, pm_k2_c, pm_k3_c, pm_s1_c, pm_s2_c, pm_s3_c, pm_s4_c, pm_ri_c, pm_ra_c, pm_rn_c, pm_rk_i, pm_rk_z, pm_rk_a, pm_vk_i, pm_vk_z, pm_vk_a, pm_cti, pm_ctr, pm_ldi_z, pm_ldi_s, pm_lda_z, pm_lda_s, pm_cat_n, pm_cat_i, pm_cat_r, pm_cat_l, pm_obj, pm_arr, pm_opt, pm_ird, pm_aln, List.getElem?_cons_zero, List.getElem?_cons_succ, List.set_cons_zero, List.set_cons_succ, List.length_cons, List.length_nil, List.length_set, true_and, and_true, Nat.add_zero, Nat.zero_add, Nat.le_refl, Nat.reduceAdd, Nat.reduceLT, Nat.reduceLeDiff, Nat.zero_le, not_false_eq_true, not_true_eq_false, false_implies, implies_true, true_implies, Nat.zero_lt_succ, Nat.lt_add_one]
  refine PM_use (c_F_isKey key (d + 1)) ?_
  rintro v h1 l1 ⟨rfl, rfl⟩
  unfold reQ
  rcases Bool.eq_false_or_eq_true (kyB key) with c | c
  · simp only [c, if_true]
    show W_X11_asked _ _ _ _ _ _ _ _ _
    simp only [w_X11_asked_0, w_X11_asked_1, w_X11_asked_4, w_X11_asked_7, w_X11_asked_17, w_X11_asked_18, w_X11_asked_21, w_X11_asked_22, w_X11_asked_25, w_X11_asked_28, w_X11_asked_29, w_X11_asked_32, pm_1i_c, pm_2i_c, pm_1l_c, pm_2l_c, pm_1a_c, pm_ia_c, pm_iia_c, pm_va_c, pm_cp_c, pm_k0_c, pm_k1_c, pm_k2_c, pm_k3_c, pm_s1_c, pm_s2_c, pm_s3_c, pm_s4_c, pm_ri_c, pm_ra_c, pm_rn_c, pm_rk_i, pm_rk_z, pm_rk_a, pm_vk_i, pm_vk_z, pm_vk_a, pm_cti, pm_ctr, pm_ldi_z, pm_ldi_s, pm_lda_z, pm_lda_s, pm_cat_n, pm_cat_i, pm_cat_r, pm_cat_l, pm_obj, pm_arr, pm_opt, pm_ird, pm_aln, List.getElem?_cons_zero, List.getElem?_cons_succ, List.set_cons_zero, List.set_cons_succ, List.length_cons, List.length_nil, List.length_set, true_and, and_true, Nat.add_zero, Nat.zero_add, Nat.le_refl, Nat.reduceAdd, Nat.reduceLT, Nat.reduceLeDiff, Nat.zero_le, not_false_eq_true, not_true_eq_false, false_implies, implies_true, true_implies, Nat.zero_lt_succ, Nat.lt_add_one, pm_tl_n, pm_tl_s, sc_uL, show ¬ (1 : Int32) = 0 by decide, co, xo0, xa0, xb0, xc0, xf0, x10, x20, x30, x40, x50, lo]
    refine PM_use (c_Lb_timesOf D0.p key d) ?_
    rintro v h2 l2 ⟨rfl, rfl⟩
    show W_X11_asked _ _ _ _ _ _ _ _ _
    simp only [w_X11_asked_0, w_X11_asked_1, w_X11_asked_4, w_X11_asked_7, w_X11_asked_17, w_X11_asked_18, w_X11_asked_21, w_X11_asked_22, w_X11_asked_25, w_X11_asked_28, w_X11_asked_29, w_X11_asked_32, pm_1i_c, pm_2i_c, pm_1l_c, pm_2l_c, pm_1a_c, pm_ia_c, pm_iia_c, pm_va_c, pm_cp_c, pm_k0_c, pm_k1_c, pm_k2_c, pm_k3_c, pm_s1_c, pm_s2_c, pm_s3_c, pm_s4_c, pm_ri_c, pm_ra_c, pm_rn_c, pm_rk_i, pm_rk_z, pm_rk_a, pm_vk_i, pm_vk_z, pm_vk_a, pm_cti, pm_ctr, pm_ldi_z, pm_ldi_s, pm_lda_z, pm_lda_s, pm_cat_n, pm_cat_i, pm_cat_r, pm_cat_l, pm_obj, pm_arr, pm_opt, pm_ird, pm_aln, List.getElem?_cons_zero, List.getElem?_cons_succ, List.set_cons_zero, List.set_cons_succ, List.length_cons, List.length_nil, List.length_set, true_and, and_true, Nat.add_zero, Nat.zero_add, Nat.le_refl, Nat.reduceAdd, Nat.reduceLT, Nat.reduceLeDiff, Nat.zero_le, not_false_eq_true, not_true_eq_false, false_implies, implies_true, true_implies, Nat.zero_lt_succ, Nat.lt_add_one, pm_tl_n, pm_tl_s, sc_uL]
    exact ⟨C, frC.rf⟩
  · simp only [c, Bool.false_eq_true, if_false]
    show W_X11_asked _ _ _ _ _ _ _ _ _
    simp only [w_X11_asked_0, w_X11_asked_1, w_X11_asked_4, w_X11_asked_7, w_X11_asked_17, w_X11_asked_18, w_X11_asked_21, w_X11_asked_22, w_X11_asked_25, w_X11_asked_28, w_X11_asked_29, w_X11_asked_32, pm_1i_c, pm_2i_c, pm_1l_c, pm_2l_c, pm_1a_c, pm_ia_c, pm_iia_c, pm_va_c, pm_cp_c, pm_k0_c, pm_k1_c, pm_k2_c, pm_k3_c, pm_s1_c, pm_s2_c, pm_s3_c, pm_s4_c, pm_ri_c, pm_ra_c, pm_rn_c, pm_rk_i, pm_rk_z, pm_rk_a, pm_vk_i, pm_vk_z, pm_vk_a, pm_cti, pm_ctr, pm_ldi_z, pm_ldi_s, pm_lda_z, pm_lda_s, pm_cat_n, pm_cat_i, pm_cat_r, pm_cat_l, pm_obj, pm_arr, pm_opt, pm_ird, pm_aln, List.getElem?_cons_zero, List.getElem?_cons_succ, List.set_cons_zero, List.set_cons_succ, List.length_cons, List.length_nil, List.length_set, true_and, and_true, Nat.add_zero, Nat.zero_add, Nat.le_refl, Nat.reduceAdd, Nat.reduceLT, Nat.reduceLeDiff, Nat.zero_le, not_false_eq_true, not_true_eq_false, false_implies, implies_true, true_implies, Nat.zero_lt_succ, Nat.lt_add_one, pm_tl_n, pm_tl_s, sc_uL]
    exact ⟨C, frC.rf⟩
theorem c_F_back (C : cr_ h a bs ws A K ik ft) (V : skV K) (d : Nat) : W_X11_back (d + 5) (h.length + 0) 0 (fun v h' => if ik = 0 then v = some (.retAddr 2) ∧ cr_ h' a bs ws A K ik ft ∧ frC h h' a else v = some (.int (sc K 2)) ∧ cr_ h' a bs ws K K ik ft ∧ frC h h' a) 0 [some (.ref a)] [] h 0 := by
  have co := C.o
  have D0 := C.d
  have D0k := C.k
  have xo0 := D0.o
  have xa0 := D0.sh
  have xb0 := D0.ko
  have xc0 := D0.lo
  have xf0 := D0.co
  have x10 := D0.wo
  have x20 := D0.to
  have x30 := D0.so
  have x40 := D0.go
  have x50 := D0.po
  have xo0k := D0k.o
  have xa0k := D0k.sh
  have xb0k := D0k.ko
  have xc0k := D0k.lo
  have xf0k := D0k.co
  have x10k := D0k.wo
  have x20k := D0k.to
  have x30k := D0k.so
  have x40k := D0k.go
  have x50k := D0k.po
  by_cases c : ik = 0
  · simp only [if_pos c]
    simp only [w_X11_back_0, w_X11_back_1, w_X11_back_4, w_X11_back_7, w_X11_back_18, w_X11_back_19, w_X11_back_22, w_X11_back_23, w_X11_back_26, w_X11_back_29, w_X11_back_30, w_X11_back_33, w_X11_back_36, pm_1i_c, pm_2i_c, pm_1l_c, pm_2l_c, pm_1a_c, pm_ia_c, pm_iia_c, pm_va_c, pm_cp_c, pm_k0_c, pm_k1_c, pm_k2_c, pm_k3_c, pm_s1_c, pm_s2_c, pm_s3_c, pm_s4_c, pm_ri_c, pm_ra_c, pm_rn_c, pm_rk_i, pm_rk_z, pm_rk_a, pm_vk_i, pm_vk_z, pm_vk_a, pm_cti, pm_ctr, pm_ldi_z, pm_ldi_s, pm_lda_z, pm_lda_s, pm_cat_n, pm_cat_i, pm_cat_r, pm_cat_l, pm_obj, pm_arr, pm_opt, pm_ird, pm_aln, List.getElem?_cons_zero, List.getElem?_cons_succ, List.set_cons_zero, List.set_cons_succ, List.length_cons, List.length_nil, List.length_set, true_and, and_true, Nat.add_zero, Nat.zero_add, Nat.le_refl, Nat.reduceAdd, Nat.reduceLT, Nat.reduceLeDiff, Nat.zero_le, not_false_eq_true, not_true_eq_false, false_implies, implies_true, true_implies, Nat.zero_lt_succ, Nat.lt_add_one, co, c]
    rw [c] at C
    exact ⟨C, frC.rf⟩
  · simp only [if_neg c]
    simp only [w_X11_back_0, w_X11_back_1, w_X11_back_4, w_X11_back_7, w_X11_back_18, w_X11_back_19, w_X11_back_22, w_X11_back_23, w_X11_back_26, w_X11_back_29, w_X11_back_30, w_X11_back_33, w_X11_back_36, pm_1i_c, pm_2i_c, pm_1l_c, pm_2l_c, pm_1a_c, pm_ia_c, pm_iia_c, pm_va_c, pm_cp_c, pm_k0_c, pm_k1_c, pm_k2_c, pm_k3_c, pm_s1_c, pm_s2_c, pm_s3_c, pm_s4_c, pm_ri_c, pm_ra_c, pm_rn_c, pm_rk_i, pm_rk_z, pm_rk_a, pm_vk_i, pm_vk_z, pm_vk_a, pm_cti, pm_ctr, pm_ldi_z, pm_ldi_s, pm_lda_z, pm_lda_s, pm_cat_n, pm_cat_i, pm_cat_r, pm_cat_l, pm_obj, pm_arr, pm_opt, pm_ird, pm_aln, List.getElem?_cons_zero, List.getElem?_cons_succ, List.set_cons_zero, List.set_cons_succ, List.length_cons, List.length_nil, List.length_set, true_and, and_true, Nat.add_zero, Nat.zero_add, Nat.le_refl, Nat.reduceAdd, Nat.reduceLT, Nat.reduceLeDiff, Nat.zero_le, not_false_eq_true, not_true_eq_false, false_implies, implies_true, true_implies, Nat.zero_lt_succ, Nat.lt_add_one, co, c, xo0, xa0, xb0, xc0, xf0, x10, x20, x30, x40, x50, xo0k, xa0k, xb0k, xc0k, xf0k, x10k, x20k, x30k, x40k, x50k]
    refine PM_use (c_Desk_copyFrom D0 D0k (by omega) V d) ?_
    rintro v h1 l1 ⟨rfl, D1, f1⟩
    obtain ⟨C1, g1⟩ := C.ud D1 f1
    have co1 := C1.o
    have xo1 := D1.o
    have xa1 := D1.sh
    have xb1 := D1.ko
    have xc1 := D1.lo
    have xf1 := D1.co
    have x11 := D1.wo
    have x21 := D1.to
    have x31 := D1.so
    have x41 := D1.go
    have x51 := D1.po
    show W_X11_back _ _ _ _ _ _ _ _ _
    simp only [w_X11_back_0, w_X11_back_1, w_X11_back_4, w_X11_back_7, w_X11_back_18, w_X11_back_19, w_X11_back_22, w_X11_back_23, w_X11_back_26, w_X11_back_29, w_X11_back_30, w_X11_back_33, w_X11_back_36, pm_1i_c, pm_2i_c, pm_1l_c, pm_2l_c, pm_1a_c, pm_ia_c, pm_iia_c, pm_va_c, pm_cp_c, pm_k0_c, pm_k1_c, pm_k2_c, pm_k3_c, pm_s1_c, pm_s2_c, pm_s3_c, pm_s4_c, pm_ri_c, pm_ra_c, pm_rn_c, pm_rk_i, pm_rk_z, pm_rk_a, pm_vk_i, pm_vk_z, pm_vk_a, pm_cti, pm_ctr, pm_ldi_z, pm_ldi_s, pm_lda_z, pm_lda_s, pm_cat_n, pm_cat_i, pm_cat_r, pm_cat_l, pm_obj, pm_arr, pm_opt, pm_ird, pm_aln, List.getElem?_cons_zero, List.getElem?_cons_succ, List.set_cons_zero, List.set_cons_succ, List.length_cons, List.length_nil, List.length_set, true_and, and_true, Nat.add_zero, Nat.zero_add, Nat.le_refl, Nat.reduceAdd, Nat.reduceLT, Nat.reduceLeDiff, Nat.zero_le, not_false_eq_true, not_true_eq_false, false_implies, implies_true, true_implies, Nat.zero_lt_succ, Nat.lt_add_one, pm_tl_n, pm_tl_s, sc_uL, co1, xo1, xa1, xb1, xc1, xf1, x11, x21, x31, x41, x51, l1]
    exact ⟨C1, g1⟩
end FE
