/-! Desk: leaving the window, the coldest, fitting. -/
section DQ
variable {h : pmH} {B : Nat} {A : AD}
set_option maxHeartbeats 2000000 in
theorem c_Desk_leaveWindow (hl : h.length ≤ 1000000) (D0 : dk_ h B A) (V : skV A) (c : Int32) (d : Nat) : PM (d + 5) 15 [.ref B, .int c] h (fun v h' => v = none ∧ dk_ h' B (lvF A c) ∧ frd h h' B) := by
  refine en_X2_leaveWindow rfl rfl ?_
  -- the end: what went out
  have tail : ∀ (h4 : pmH) (A2 : AD) (x2 x3 : Option Value) (k : Int32), dk_ h4 B A2 → h4.length = h.length → frd h h4 B → gnF A2 k = lvF A c → k = sc A2 21 → W_X2_leaveWindow (d + 4) (h.length + 0) 0 (fun v h' => v = none ∧ dk_ h' B (lvF A c) ∧ frd h h' B) 187 [some (.ref B), some (.int c), x2, x3] [] h4 0 := by
    intro h4 A2 x2 x3 k D2 l4 f4 eq ek
    subst ek
    have xo2 := D2.o
    have xa2 := D2.sh
    have xb2 := D2.ko
    have xc2 := D2.lo
    have xf2 := D2.co
    have x12 := D2.wo
    have x22 := D2.to
    have x32 := D2.so
    have x42 := D2.go
    have x52 := D2.po
    simp only [w_X2_leaveWindow_187, w_X2_leaveWindow_188, w_X2_leaveWindow_189, w_X2_leaveWindow_192, w_X2_leaveWindow_195, w_X2_leaveWindow_198, pm_1i_c, pm_2i_c, pm_1l_c, pm_2l_c, pm_1a_c, pm_ia_c, pm_iia_c, pm_va_c, pm_cp_c, pm_k0_c, pm_k1_c, pm_k2_c, pm_k3_c, pm_s1_c, pm_s2_c, pm_s3_c, pm_s4_c, pm_ri_c, pm_ra_c, pm_rn_c, pm_rk_i, pm_rk_z, pm_rk_a, pm_vk_i, pm_vk_z, pm_vk_a, pm_cti, pm_ctr, pm_ldi_z, pm_ldi_s, pm_lda_z, pm_lda_s, pm_cat_n, pm_cat_i, pm_cat_r, pm_cat_l, pm_obj, pm_arr, pm_opt, pm_ird, pm_aln, List.getElem?_cons_zero, List.getElem?_cons_succ, List.set_cons_zero, List.set_cons_succ, List.length_cons, List.length_nil, List.length_set, true_and, and_true, Nat.add_zero, Nat.zero_add, Nat.le_refl, Nat.reduceAdd, Nat.reduceLT, Nat.reduceLeDiff, Nat.zero_le, not_false_eq_true, not_true_eq_false, false_implies, implies_true, true_implies, Nat.zero_lt_succ, Nat.lt_add_one, xo2, xa2, xb2, xc2, xf2, x12, x22, x32, x42, x52, l4]
    refine PM_use (c_Desk_goOut D2 (sc A2 21) (d + 2)) ?_
    rintro v h5 l5 ⟨rfl, K1, K2⟩
    show W_X2_leaveWindow _ _ _ _ _ _ _ _ _
    simp only [w_X2_leaveWindow_187, w_X2_leaveWindow_188, w_X2_leaveWindow_189, w_X2_leaveWindow_192, w_X2_leaveWindow_195, w_X2_leaveWindow_198, pm_1i_c, pm_2i_c, pm_1l_c, pm_2l_c, pm_1a_c, pm_ia_c, pm_iia_c, pm_va_c, pm_cp_c, pm_k0_c, pm_k1_c, pm_k2_c, pm_k3_c, pm_s1_c, pm_s2_c, pm_s3_c, pm_s4_c, pm_ri_c, pm_ra_c, pm_rn_c, pm_rk_i, pm_rk_z, pm_rk_a, pm_vk_i, pm_vk_z, pm_vk_a, pm_cti, pm_ctr, pm_ldi_z, pm_ldi_s, pm_lda_z, pm_lda_s, pm_cat_n, pm_cat_i, pm_cat_r, pm_cat_l, pm_obj, pm_arr, pm_opt, pm_ird, pm_aln, List.getElem?_cons_zero, List.getElem?_cons_succ, List.set_cons_zero, List.set_cons_succ, List.length_cons, List.length_nil, List.length_set, true_and, and_true, Nat.add_zero, Nat.zero_add, Nat.le_refl, Nat.reduceAdd, Nat.reduceLT, Nat.reduceLeDiff, Nat.zero_le, not_false_eq_true, not_true_eq_false, false_implies, implies_true, true_implies, Nat.zero_lt_succ, Nat.lt_add_one, pm_tl_n, pm_tl_s, sc_uL, l5, l4]
    exact ⟨eq ▸ K1, f4.tr K2⟩
  have xo0 := D0.o
  have xa0 := D0.sh
  have xb0 := D0.ko
  have xc0 := D0.lo
  have xf0 := D0.co
  have x10 := D0.wo
  have x20 := D0.to
  have x30 := D0.so
  have x40 := D0.go
  have x50 := D0.po
  simp only [w_X2_leaveWindow_0, w_X2_leaveWindow_1, w_X2_leaveWindow_4, w_X2_leaveWindow_5, pm_1i_c, pm_2i_c, pm_1l_c, pm_2l_c, pm_1a_c, pm_ia_c, pm_iia_c, pm_va_c, pm_cp_c, pm_k0_c, pm_k1_c, pm_k2_c, pm_k3_c, pm_s1_c, pm_s2_c, pm_s3_c, pm_s4_c, pm_ri_c, pm_ra_c, pm_rn_c, pm_rk_i, pm_rk_z, pm_rk_a, pm_vk_i, pm_vk_z, pm_vk_a, pm_cti, pm_ctr, pm_ldi_z, pm_ldi_s, pm_lda_z, pm_lda_s, pm_cat_n, pm_cat_i, pm_cat_r, pm_cat_l, pm_obj, pm_arr, pm_opt, pm_ird, pm_aln, List.getElem?_cons_zero, List.getElem?_cons_succ, List.set_cons_zero, List.set_cons_succ, List.length_cons, List.length_nil, List.length_set, true_and, and_true, Nat.add_zero, Nat.zero_add, Nat.le_refl, Nat.reduceAdd, Nat.reduceLT, Nat.reduceLeDiff, Nat.zero_le, not_false_eq_true, not_true_eq_false, false_implies, implies_true, true_implies, Nat.zero_lt_succ, Nat.lt_add_one, xo0, xa0, xb0, xc0, xf0, x10, x20, x30, x40, x50]
  obtain ⟨h1, E1, l1, f1, D1⟩ := D0.pc (uS A 19 c) c (sc A 20) (sc A 21) (sc A 22)
  rw [E1]
  obtain ⟨A1, hA1⟩ : ∃ A1, A1 = uS A 19 c := ⟨_, rfl⟩
  have V1 : skV A1 := by rw [hA1]; exact V
  have hl1 : h1.length ≤ 1000000 := by rw [l1]; exact hl
  have hF : lvF A c = lvG A1 c := by rw [hA1]; rfl
  rw [hF] at tail ⊢
  rw [← hA1] at D1
  clear hA1 hF E1
  have xo1 := D1.o
  have xa1 := D1.sh
  have xb1 := D1.ko
  have xc1 := D1.lo
  have xf1 := D1.co
  have x11 := D1.wo
  have x21 := D1.to
  have x31 := D1.so
  have x41 := D1.go
  have x51 := D1.po
  have len2 := D1.t.le
  have len3 := D1.s.le
  simp only [w_X2_leaveWindow_8, w_X2_leaveWindow_9, w_X2_leaveWindow_12, w_X2_leaveWindow_15, w_X2_leaveWindow_16, w_X2_leaveWindow_17, w_X2_leaveWindow_20, w_X2_leaveWindow_23, w_X2_leaveWindow_24, w_X2_leaveWindow_27, w_X2_leaveWindow_30, w_X2_leaveWindow_31, pm_1i_c, pm_2i_c, pm_1l_c, pm_2l_c, pm_1a_c, pm_ia_c, pm_iia_c, pm_va_c, pm_cp_c, pm_k0_c, pm_k1_c, pm_k2_c, pm_k3_c, pm_s1_c, pm_s2_c, pm_s3_c, pm_s4_c, pm_ri_c, pm_ra_c, pm_rn_c, pm_rk_i, pm_rk_z, pm_rk_a, pm_vk_i, pm_vk_z, pm_vk_a, pm_cti, pm_ctr, pm_ldi_z, pm_ldi_s, pm_lda_z, pm_lda_s, pm_cat_n, pm_cat_i, pm_cat_r, pm_cat_l, pm_obj, pm_arr, pm_opt, pm_ird, pm_aln, List.getElem?_cons_zero, List.getElem?_cons_succ, List.set_cons_zero, List.set_cons_succ, List.length_cons, List.length_nil, List.length_set, true_and, and_true, Nat.add_zero, Nat.zero_add, Nat.le_refl, Nat.reduceAdd, Nat.reduceLT, Nat.reduceLeDiff, Nat.zero_le, not_false_eq_true, not_true_eq_false, false_implies, implies_true, true_implies, Nat.zero_lt_succ, Nat.lt_add_one, xo1, xa1, xb1, xc1, xf1, x11, x21, x31, x41, x51, l1]
  refine PM_use (c_Shares_mainFor D1.sh (d + 2)) ?_
  rintro v h2 l2 ⟨rfl, rfl⟩
  show W_X2_leaveWindow _ _ _ _ _ _ _ _ _
  simp only [w_X2_leaveWindow_15, w_X2_leaveWindow_16, w_X2_leaveWindow_17, w_X2_leaveWindow_20, w_X2_leaveWindow_23, w_X2_leaveWindow_24, w_X2_leaveWindow_27, w_X2_leaveWindow_30, w_X2_leaveWindow_31, pm_1i_c, pm_2i_c, pm_1l_c, pm_2l_c, pm_1a_c, pm_ia_c, pm_iia_c, pm_va_c, pm_cp_c, pm_k0_c, pm_k1_c, pm_k2_c, pm_k3_c, pm_s1_c, pm_s2_c, pm_s3_c, pm_s4_c, pm_ri_c, pm_ra_c, pm_rn_c, pm_rk_i, pm_rk_z, pm_rk_a, pm_vk_i, pm_vk_z, pm_vk_a, pm_cti, pm_ctr, pm_ldi_z, pm_ldi_s, pm_lda_z, pm_lda_s, pm_cat_n, pm_cat_i, pm_cat_r, pm_cat_l, pm_obj, pm_arr, pm_opt, pm_ird, pm_aln, List.getElem?_cons_zero, List.getElem?_cons_succ, List.set_cons_zero, List.set_cons_succ, List.length_cons, List.length_nil, List.length_set, true_and, and_true, Nat.add_zero, Nat.zero_add, Nat.le_refl, Nat.reduceAdd, Nat.reduceLT, Nat.reduceLeDiff, Nat.zero_le, not_false_eq_true, not_true_eq_false, false_implies, implies_true, true_implies, Nat.zero_lt_succ, Nat.lt_add_one, pm_tl_n, pm_tl_s, sc_uL, xo1, xa1, xb1, xc1, xf1, x11, x21, x31, x41, x51, l1]
  refine PM_use (c_Row_size D1.t (d + 3)) ?_
  rintro v h2 l2 ⟨rfl, rfl⟩
  show W_X2_leaveWindow _ _ _ _ _ _ _ _ _
  simp only [w_X2_leaveWindow_20, w_X2_leaveWindow_23, w_X2_leaveWindow_24, w_X2_leaveWindow_27, w_X2_leaveWindow_30, w_X2_leaveWindow_31, pm_1i_c, pm_2i_c, pm_1l_c, pm_2l_c, pm_1a_c, pm_ia_c, pm_iia_c, pm_va_c, pm_cp_c, pm_k0_c, pm_k1_c, pm_k2_c, pm_k3_c, pm_s1_c, pm_s2_c, pm_s3_c, pm_s4_c, pm_ri_c, pm_ra_c, pm_rn_c, pm_rk_i, pm_rk_z, pm_rk_a, pm_vk_i, pm_vk_z, pm_vk_a, pm_cti, pm_ctr, pm_ldi_z, pm_ldi_s, pm_lda_z, pm_lda_s, pm_cat_n, pm_cat_i, pm_cat_r, pm_cat_l, pm_obj, pm_arr, pm_opt, pm_ird, pm_aln, List.getElem?_cons_zero, List.getElem?_cons_succ, List.set_cons_zero, List.set_cons_succ, List.length_cons, List.length_nil, List.length_set, true_and, and_true, Nat.add_zero, Nat.zero_add, Nat.le_refl, Nat.reduceAdd, Nat.reduceLT, Nat.reduceLeDiff, Nat.zero_le, not_false_eq_true, not_true_eq_false, false_implies, implies_true, true_implies, Nat.zero_lt_succ, Nat.lt_add_one, pm_tl_n, pm_tl_s, sc_uL, xo1, xa1, xb1, xc1, xf1, x11, x21, x31, x41, x51, l1]
  refine PM_use (c_Row_size D1.s (d + 3)) ?_
  rintro v h2 l2 ⟨rfl, rfl⟩
  show W_X2_leaveWindow _ _ _ _ _ _ _ _ _
  simp only [w_X2_leaveWindow_27, w_X2_leaveWindow_30, w_X2_leaveWindow_31, w_X2_leaveWindow_32, w_X2_leaveWindow_35, w_X2_leaveWindow_36, w_X2_leaveWindow_39, w_X2_leaveWindow_40, w_X2_leaveWindow_41, w_X2_leaveWindow_44, w_X2_leaveWindow_45, w_X2_leaveWindow_46, w_X2_leaveWindow_47, w_X2_leaveWindow_64, w_X2_leaveWindow_65, w_X2_leaveWindow_68, pm_1i_c, pm_2i_c, pm_1l_c, pm_2l_c, pm_1a_c, pm_ia_c, pm_iia_c, pm_va_c, pm_cp_c, pm_k0_c, pm_k1_c, pm_k2_c, pm_k3_c, pm_s1_c, pm_s2_c, pm_s3_c, pm_s4_c, pm_ri_c, pm_ra_c, pm_rn_c, pm_rk_i, pm_rk_z, pm_rk_a, pm_vk_i, pm_vk_z, pm_vk_a, pm_cti, pm_ctr, pm_ldi_z, pm_ldi_s, pm_lda_z, pm_lda_s, pm_cat_n, pm_cat_i, pm_cat_r, pm_cat_l, pm_obj, pm_arr, pm_opt, pm_ird, pm_aln, List.getElem?_cons_zero, List.getElem?_cons_succ, List.set_cons_zero, List.set_cons_succ, List.length_cons, List.length_nil, List.length_set, true_and, and_true, Nat.add_zero, Nat.zero_add, Nat.le_refl, Nat.reduceAdd, Nat.reduceLT, Nat.reduceLeDiff, Nat.zero_le, not_false_eq_true, not_true_eq_false, false_implies, implies_true, true_implies, Nat.zero_lt_succ, Nat.lt_add_one, pm_tl_n, pm_tl_s, sc_uL, xo1, xa1, xb1, xc1, xf1, x11, x21, x31, x41, x51, l1]
  unfold lvG at tail ⊢
  refine ⟨fun c1 => ?_, fun c1 => ?_⟩
  · rw [if_neg c1] at tail ⊢
    refine ⟨fun c2 => ?_, fun c2 => ?_⟩
    · rw [if_neg c2] at tail ⊢
      refine PM_use (c_Row_size D1.t (d + 3)) ?_
      rintro v h2 l2 ⟨rfl, rfl⟩
      -- from the choice of the row on
      have go : ∀ (q : Nat), (q = 2 ∨ q = 3) → q = lvQ A1 → W_X2_leaveWindow (d + 4) (h.length + 0) 0 (fun v h' => v = none ∧ dk_ h' B (lvH (uS A1 20 ((li A1 (lvQ A1)).getLastD (-1))) c) ∧ frd h h' B) 85 [some (.ref B), some (.int c), some (.int (mfI (sc A1 8) (sc A1 9))), none] [.ref (B + (10 + 2 * q))] h2 0 := by
        intro q hq eq
        have row := D1.row (p := q) (by omega) (by omega)
        have cap : capR q = 65 := by unfold capR; rw [if_pos (by omega)]
        rw [cap] at row
        have ro := row.o
        simp only [w_X2_leaveWindow_85, w_X2_leaveWindow_86, w_X2_leaveWindow_87, w_X2_leaveWindow_90, w_X2_leaveWindow_91, w_X2_leaveWindow_94, w_X2_leaveWindow_97, w_X2_leaveWindow_98, w_X2_leaveWindow_99, w_X2_leaveWindow_100, w_X2_leaveWindow_103, w_X2_leaveWindow_106, w_X2_leaveWindow_109, pm_1i_c, pm_2i_c, pm_1l_c, pm_2l_c, pm_1a_c, pm_ia_c, pm_iia_c, pm_va_c, pm_cp_c, pm_k0_c, pm_k1_c, pm_k2_c, pm_k3_c, pm_s1_c, pm_s2_c, pm_s3_c, pm_s4_c, pm_ri_c, pm_ra_c, pm_rn_c, pm_rk_i, pm_rk_z, pm_rk_a, pm_vk_i, pm_vk_z, pm_vk_a, pm_cti, pm_ctr, pm_ldi_z, pm_ldi_s, pm_lda_z, pm_lda_s, pm_cat_n, pm_cat_i, pm_cat_r, pm_cat_l, pm_obj, pm_arr, pm_opt, pm_ird, pm_aln, List.getElem?_cons_zero, List.getElem?_cons_succ, List.set_cons_zero, List.set_cons_succ, List.length_cons, List.length_nil, List.length_set, true_and, and_true, Nat.add_zero, Nat.zero_add, Nat.le_refl, Nat.reduceAdd, Nat.reduceLT, Nat.reduceLeDiff, Nat.zero_le, not_false_eq_true, not_true_eq_false, false_implies, implies_true, true_implies, Nat.zero_lt_succ, Nat.lt_add_one, xo1, xa1, xb1, xc1, xf1, x11, x21, x31, x41, x51, l1, ro]
        refine PM_use (c_Row_last row (d + 2)) ?_
        rintro v h3 l3 ⟨rfl, rfl⟩
        show W_X2_leaveWindow _ _ _ _ _ _ _ _ _
        simp only [w_X2_leaveWindow_94, pm_1i_c, pm_2i_c, pm_1l_c, pm_2l_c, pm_1a_c, pm_ia_c, pm_iia_c, pm_va_c, pm_cp_c, pm_k0_c, pm_k1_c, pm_k2_c, pm_k3_c, pm_s1_c, pm_s2_c, pm_s3_c, pm_s4_c, pm_ri_c, pm_ra_c, pm_rn_c, pm_rk_i, pm_rk_z, pm_rk_a, pm_vk_i, pm_vk_z, pm_vk_a, pm_cti, pm_ctr, pm_ldi_z, pm_ldi_s, pm_lda_z, pm_lda_s, pm_cat_n, pm_cat_i, pm_cat_r, pm_cat_l, pm_obj, pm_arr, pm_opt, pm_ird, pm_aln, List.getElem?_cons_zero, List.getElem?_cons_succ, List.set_cons_zero, List.set_cons_succ, List.length_cons, List.length_nil, List.length_set, true_and, and_true, Nat.add_zero, Nat.zero_add, Nat.le_refl, Nat.reduceAdd, Nat.reduceLT, Nat.reduceLeDiff, Nat.zero_le, not_false_eq_true, not_true_eq_false, false_implies, implies_true, true_implies, Nat.zero_lt_succ, Nat.lt_add_one, pm_tl_n, pm_tl_s, sc_uL, xo1, xa1, xb1, xc1, xf1, x11, x21, x31, x41, x51, l1]
        rw [← eq] at tail ⊢
        obtain ⟨h4, E4, l4, f4, D4⟩ := D1.pc (uS A1 20 ((li A1 q).getLastD (-1))) (sc A1 19) ((li A1 q).getLastD (-1)) (sc A1 21) (sc A1 22)
        rw [E4]
        obtain ⟨A2, hA2⟩ : ∃ A2, A2 = uS A1 20 ((li A1 q).getLastD (-1)) := ⟨_, rfl⟩
        have V2 : skV A2 := by rw [hA2]; exact V1
        have lq : li A2 q = li A1 q := by rw [hA2]; rfl
        have qA : lvQ A2 = q := by rw [hA2, eq]; rfl
        have hl4 : h4.length ≤ 1000000 := by rw [l4]; exact hl1
        rw [← hA2] at D4 tail ⊢
        clear hA2
        have xo4 := D4.o
        have xa4 := D4.sh
        have xb4 := D4.ko
        have xc4 := D4.lo
        have xf4 := D4.co
        have x14 := D4.wo
        have x24 := D4.to
        have x34 := D4.so
        have x44 := D4.go
        have x54 := D4.po
        have row4 := D4.row (p := q) (by omega) (by omega)
        rw [cap] at row4
        have ro4 := row4.o
        simp only [w_X2_leaveWindow_97, w_X2_leaveWindow_98, w_X2_leaveWindow_99, w_X2_leaveWindow_100, w_X2_leaveWindow_103, w_X2_leaveWindow_106, w_X2_leaveWindow_109, pm_1i_c, pm_2i_c, pm_1l_c, pm_2l_c, pm_1a_c, pm_ia_c, pm_iia_c, pm_va_c, pm_cp_c, pm_k0_c, pm_k1_c, pm_k2_c, pm_k3_c, pm_s1_c, pm_s2_c, pm_s3_c, pm_s4_c, pm_ri_c, pm_ra_c, pm_rn_c, pm_rk_i, pm_rk_z, pm_rk_a, pm_vk_i, pm_vk_z, pm_vk_a, pm_cti, pm_ctr, pm_ldi_z, pm_ldi_s, pm_lda_z, pm_lda_s, pm_cat_n, pm_cat_i, pm_cat_r, pm_cat_l, pm_obj, pm_arr, pm_opt, pm_ird, pm_aln, List.getElem?_cons_zero, List.getElem?_cons_succ, List.set_cons_zero, List.set_cons_succ, List.length_cons, List.length_nil, List.length_set, true_and, and_true, Nat.add_zero, Nat.zero_add, Nat.le_refl, Nat.reduceAdd, Nat.reduceLT, Nat.reduceLeDiff, Nat.zero_le, not_false_eq_true, not_true_eq_false, false_implies, implies_true, true_implies, Nat.zero_lt_succ, Nat.lt_add_one, xo4, xa4, xb4, xc4, xf4, x14, x24, x34, x44, x54, l4, l1, ro4]
        refine PM_use (c_Desk_beats hl4 D4 V2 c (sc A2 20) d) ?_
        rintro v h5 l5 ⟨rfl, D5, f5⟩
        have xo5 := D5.o
        have xa5 := D5.sh
        have xb5 := D5.ko
        have xc5 := D5.lo
        have xf5 := D5.co
        have x15 := D5.wo
        have x25 := D5.to
        have x35 := D5.so
        have x45 := D5.go
        have x55 := D5.po
        have row5 := D5.row (p := q) (by omega) (by omega)
        rw [cap] at row5
        have ro5 := row5.o
        unfold lvH at tail ⊢
        rcases Bool.eq_false_or_eq_true (beF A2 c (sc A2 20)) with hb | hb
        · simp only [hb, if_true] at tail ⊢
          show W_X2_leaveWindow _ _ _ _ _ _ _ _ _
          simp only [w_X2_leaveWindow_109, w_X2_leaveWindow_112, w_X2_leaveWindow_113, w_X2_leaveWindow_116, w_X2_leaveWindow_117, w_X2_leaveWindow_118, w_X2_leaveWindow_121, w_X2_leaveWindow_122, w_X2_leaveWindow_123, pm_1i_c, pm_2i_c, pm_1l_c, pm_2l_c, pm_1a_c, pm_ia_c, pm_iia_c, pm_va_c, pm_cp_c, pm_k0_c, pm_k1_c, pm_k2_c, pm_k3_c, pm_s1_c, pm_s2_c, pm_s3_c, pm_s4_c, pm_ri_c, pm_ra_c, pm_rn_c, pm_rk_i, pm_rk_z, pm_rk_a, pm_vk_i, pm_vk_z, pm_vk_a, pm_cti, pm_ctr, pm_ldi_z, pm_ldi_s, pm_lda_z, pm_lda_s, pm_cat_n, pm_cat_i, pm_cat_r, pm_cat_l, pm_obj, pm_arr, pm_opt, pm_ird, pm_aln, List.getElem?_cons_zero, List.getElem?_cons_succ, List.set_cons_zero, List.set_cons_succ, List.length_cons, List.length_nil, List.length_set, true_and, and_true, Nat.add_zero, Nat.zero_add, Nat.le_refl, Nat.reduceAdd, Nat.reduceLT, Nat.reduceLeDiff, Nat.zero_le, not_false_eq_true, not_true_eq_false, false_implies, implies_true, true_implies, Nat.zero_lt_succ, Nat.lt_add_one, pm_tl_n, pm_tl_s, sc_uL, xo5, xa5, xb5, xc5, xf5, x15, x25, x35, x45, x55, l5, l4, l1, ro5, if_true, show ¬ (1 : Int32) = 0 by decide]
          refine PM_use (c_Row_removeLast row5 (d + 2)) ?_
          rintro v h6 l6 ⟨rfl, K1, K2⟩
          obtain ⟨D6, f6⟩ : dk_ h6 B (drpR A2 q) ∧ frd h5 h6 B := by
            refine ⟨D5.ur (p := q) (by omega) (by omega) ?_ K2, frd_2 q K2 (by omega)⟩
            rw [cap]
            exact K1
          have xo6 := D6.o
          have xa6 := D6.sh
          have xb6 := D6.ko
          have xc6 := D6.lo
          have xf6 := D6.co
          have x16 := D6.wo
          have x26 := D6.to
          have x36 := D6.so
          have x46 := D6.go
          have x56 := D6.po
          show W_X2_leaveWindow _ _ _ _ _ _ _ _ _
          simp only [w_X2_leaveWindow_116, w_X2_leaveWindow_117, w_X2_leaveWindow_118, w_X2_leaveWindow_121, w_X2_leaveWindow_122, w_X2_leaveWindow_123, pm_1i_c, pm_2i_c, pm_1l_c, pm_2l_c, pm_1a_c, pm_ia_c, pm_iia_c, pm_va_c, pm_cp_c, pm_k0_c, pm_k1_c, pm_k2_c, pm_k3_c, pm_s1_c, pm_s2_c, pm_s3_c, pm_s4_c, pm_ri_c, pm_ra_c, pm_rn_c, pm_rk_i, pm_rk_z, pm_rk_a, pm_vk_i, pm_vk_z, pm_vk_a, pm_cti, pm_ctr, pm_ldi_z, pm_ldi_s, pm_lda_z, pm_lda_s, pm_cat_n, pm_cat_i, pm_cat_r, pm_cat_l, pm_obj, pm_arr, pm_opt, pm_ird, pm_aln, List.getElem?_cons_zero, List.getElem?_cons_succ, List.set_cons_zero, List.set_cons_succ, List.length_cons, List.length_nil, List.length_set, true_and, and_true, Nat.add_zero, Nat.zero_add, Nat.le_refl, Nat.reduceAdd, Nat.reduceLT, Nat.reduceLeDiff, Nat.zero_le, not_false_eq_true, not_true_eq_false, false_implies, implies_true, true_implies, Nat.zero_lt_succ, Nat.lt_add_one, pm_tl_n, pm_tl_s, sc_uL, xo6, xa6, xb6, xc6, xf6, x16, x26, x36, x46, x56, l6, l5, l4, l1]
          refine PM_use (c_Row_ins0 D6.t (by omega) c (d + 3)) ?_
          rintro v h7 l7 ⟨rfl, K3, K4⟩
          have D7 : dk_ h7 B (insR (drpR A2 q) 2 c) := D6.ut K3 K4
          have f7 := frd_2 2 K4 (by omega)
          obtain ⟨A3, hA3⟩ : ∃ A3, A3 = insR (drpR A2 q) 2 c := ⟨_, rfl⟩
          have s20 : sc A3 20 = sc A2 20 := by rw [hA3]; rfl
          have hW : lvW A2 c = gnF (uS (uS (uS A3 21 (sc A2 20)) 22 1) 6 (sc A3 6 + 1)) (sc A2 20) := by unfold lvW; rw [qA, ← hA3]; rfl
          rw [← hA3] at D7
          clear hA3
          have xo7 := D7.o
          have xa7 := D7.sh
          have xb7 := D7.ko
          have xc7 := D7.lo
          have xf7 := D7.co
          have x17 := D7.wo
          have x27 := D7.to
          have x37 := D7.so
          have x47 := D7.go
          have x57 := D7.po
          show W_X2_leaveWindow _ _ _ _ _ _ _ _ _
          simp only [w_X2_leaveWindow_126, w_X2_leaveWindow_127, w_X2_leaveWindow_130, w_X2_leaveWindow_131, w_X2_leaveWindow_134, w_X2_leaveWindow_137, pm_1i_c, pm_2i_c, pm_1l_c, pm_2l_c, pm_1a_c, pm_ia_c, pm_iia_c, pm_va_c, pm_cp_c, pm_k0_c, pm_k1_c, pm_k2_c, pm_k3_c, pm_s1_c, pm_s2_c, pm_s3_c, pm_s4_c, pm_ri_c, pm_ra_c, pm_rn_c, pm_rk_i, pm_rk_z, pm_rk_a, pm_vk_i, pm_vk_z, pm_vk_a, pm_cti, pm_ctr, pm_ldi_z, pm_ldi_s, pm_lda_z, pm_lda_s, pm_cat_n, pm_cat_i, pm_cat_r, pm_cat_l, pm_obj, pm_arr, pm_opt, pm_ird, pm_aln, List.getElem?_cons_zero, List.getElem?_cons_succ, List.set_cons_zero, List.set_cons_succ, List.length_cons, List.length_nil, List.length_set, true_and, and_true, Nat.add_zero, Nat.zero_add, Nat.le_refl, Nat.reduceAdd, Nat.reduceLT, Nat.reduceLeDiff, Nat.zero_le, not_false_eq_true, not_true_eq_false, false_implies, implies_true, true_implies, Nat.zero_lt_succ, Nat.lt_add_one, pm_tl_n, pm_tl_s, sc_uL, xo7, xa7, xb7, xc7, xf7, x17, x27, x37, x47, x57, l7, l6, l5, l4, l1]
          obtain ⟨h8, E8, l8, f8, D8⟩ := D7.pc (uS A3 21 (sc A3 20)) (sc A3 19) (sc A3 20) (sc A3 20) (sc A3 22)
          rw [E8]
          obtain ⟨A4, hA4⟩ : ∃ A4, A4 = uS A3 21 (sc A3 20) := ⟨_, rfl⟩
          rw [← hA4] at D8
          have xo8 := D8.o
          have xa8 := D8.sh
          have xb8 := D8.ko
          have xc8 := D8.lo
          have xf8 := D8.co
          have x18 := D8.wo
          have x28 := D8.to
          have x38 := D8.so
          have x48 := D8.go
          have x58 := D8.po
          simp only [w_X2_leaveWindow_140, w_X2_leaveWindow_141, w_X2_leaveWindow_144, w_X2_leaveWindow_145, pm_1i_c, pm_2i_c, pm_1l_c, pm_2l_c, pm_1a_c, pm_ia_c, pm_iia_c, pm_va_c, pm_cp_c, pm_k0_c, pm_k1_c, pm_k2_c, pm_k3_c, pm_s1_c, pm_s2_c, pm_s3_c, pm_s4_c, pm_ri_c, pm_ra_c, pm_rn_c, pm_rk_i, pm_rk_z, pm_rk_a, pm_vk_i, pm_vk_z, pm_vk_a, pm_cti, pm_ctr, pm_ldi_z, pm_ldi_s, pm_lda_z, pm_lda_s, pm_cat_n, pm_cat_i, pm_cat_r, pm_cat_l, pm_obj, pm_arr, pm_opt, pm_ird, pm_aln, List.getElem?_cons_zero, List.getElem?_cons_succ, List.set_cons_zero, List.set_cons_succ, List.length_cons, List.length_nil, List.length_set, true_and, and_true, Nat.add_zero, Nat.zero_add, Nat.le_refl, Nat.reduceAdd, Nat.reduceLT, Nat.reduceLeDiff, Nat.zero_le, not_false_eq_true, not_true_eq_false, false_implies, implies_true, true_implies, Nat.zero_lt_succ, Nat.lt_add_one, xo8, xa8, xb8, xc8, xf8, x18, x28, x38, x48, x58, l8, l7, l6, l5, l4, l1]
          obtain ⟨h9, E9, l9, f9, D9⟩ := D8.pc (uS A4 22 1) (sc A4 19) (sc A4 20) (sc A4 21) 1
          rw [E9]
          obtain ⟨A5, hA5⟩ : ∃ A5, A5 = uS A4 22 1 := ⟨_, rfl⟩
          rw [← hA5] at D9
          have xo9 := D9.o
          have xa9 := D9.sh
          have xb9 := D9.ko
          have xc9 := D9.lo
          have xf9 := D9.co
          have x19 := D9.wo
          have x29 := D9.to
          have x39 := D9.so
          have x49 := D9.go
          have x59 := D9.po
          simp only [w_X2_leaveWindow_148, w_X2_leaveWindow_149, w_X2_leaveWindow_150, w_X2_leaveWindow_153, w_X2_leaveWindow_154, w_X2_leaveWindow_155, w_X2_leaveWindow_158, pm_1i_c, pm_2i_c, pm_1l_c, pm_2l_c, pm_1a_c, pm_ia_c, pm_iia_c, pm_va_c, pm_cp_c, pm_k0_c, pm_k1_c, pm_k2_c, pm_k3_c, pm_s1_c, pm_s2_c, pm_s3_c, pm_s4_c, pm_ri_c, pm_ra_c, pm_rn_c, pm_rk_i, pm_rk_z, pm_rk_a, pm_vk_i, pm_vk_z, pm_vk_a, pm_cti, pm_ctr, pm_ldi_z, pm_ldi_s, pm_lda_z, pm_lda_s, pm_cat_n, pm_cat_i, pm_cat_r, pm_cat_l, pm_obj, pm_arr, pm_opt, pm_ird, pm_aln, List.getElem?_cons_zero, List.getElem?_cons_succ, List.set_cons_zero, List.set_cons_succ, List.length_cons, List.length_nil, List.length_set, true_and, and_true, Nat.add_zero, Nat.zero_add, Nat.le_refl, Nat.reduceAdd, Nat.reduceLT, Nat.reduceLeDiff, Nat.zero_le, not_false_eq_true, not_true_eq_false, false_implies, implies_true, true_implies, Nat.zero_lt_succ, Nat.lt_add_one, xo9, xa9, xb9, xc9, xf9, x19, x29, x39, x49, x59, l9, l8, l7, l6, l5, l4, l1]
          obtain ⟨h10, E10, l10, f10, D10⟩ := D9.pd (uS A5 6 (sc A5 6 + 1)) (sc A5 2) (sc A5 3) (sc A5 4) (sc A5 5) (sc A5 6 + 1) (sc A5 7)
          rw [E10]
          have T := tail h10 (uS A5 6 (sc A5 6 + 1)) (some (.int (mfI (sc A1 8) (sc A1 9)))) (some (.ref (B + (10 + 2 * q)))) (sc A2 20) D10 (by rw [l10, l9, l8, l7, l6, l5, l4, l1]; rfl) (((((((f1.tr f4).tr f5).tr f6).tr f7).tr f8).tr f9).tr f10) (by rw [hW, hA5, hA4, s20]; rfl) (by rw [hA5, hA4, ← s20]; rfl)
          exact T
        · simp only [hb, Bool.false_eq_true, if_false] at tail ⊢
          show W_X2_leaveWindow _ _ _ _ _ _ _ _ _
          simp only [w_X2_leaveWindow_109, w_X2_leaveWindow_112, w_X2_leaveWindow_113, w_X2_leaveWindow_116, w_X2_leaveWindow_117, w_X2_leaveWindow_118, w_X2_leaveWindow_121, w_X2_leaveWindow_122, w_X2_leaveWindow_123, w_X2_leaveWindow_126, w_X2_leaveWindow_127, w_X2_leaveWindow_130, w_X2_leaveWindow_131, w_X2_leaveWindow_134, w_X2_leaveWindow_137, w_X2_leaveWindow_140, w_X2_leaveWindow_141, w_X2_leaveWindow_144, w_X2_leaveWindow_145, w_X2_leaveWindow_148, w_X2_leaveWindow_149, w_X2_leaveWindow_150, w_X2_leaveWindow_153, w_X2_leaveWindow_154, w_X2_leaveWindow_155, w_X2_leaveWindow_158, w_X2_leaveWindow_161, w_X2_leaveWindow_162, w_X2_leaveWindow_165, w_X2_leaveWindow_166, pm_1i_c, pm_2i_c, pm_1l_c, pm_2l_c, pm_1a_c, pm_ia_c, pm_iia_c, pm_va_c, pm_cp_c, pm_k0_c, pm_k1_c, pm_k2_c, pm_k3_c, pm_s1_c, pm_s2_c, pm_s3_c, pm_s4_c, pm_ri_c, pm_ra_c, pm_rn_c, pm_rk_i, pm_rk_z, pm_rk_a, pm_vk_i, pm_vk_z, pm_vk_a, pm_cti, pm_ctr, pm_ldi_z, pm_ldi_s, pm_lda_z, pm_lda_s, pm_cat_n, pm_cat_i, pm_cat_r, pm_cat_l, pm_obj, pm_arr, pm_opt, pm_ird, pm_aln, List.getElem?_cons_zero, List.getElem?_cons_succ, List.set_cons_zero, List.set_cons_succ, List.length_cons, List.length_nil, List.length_set, true_and, and_true, Nat.add_zero, Nat.zero_add, Nat.le_refl, Nat.reduceAdd, Nat.reduceLT, Nat.reduceLeDiff, Nat.zero_le, not_false_eq_true, not_true_eq_false, false_implies, implies_true, true_implies, Nat.zero_lt_succ, Nat.lt_add_one, pm_tl_n, pm_tl_s, sc_uL, xo5, xa5, xb5, xc5, xf5, x15, x25, x35, x45, x55, l5, l4, l1, ro5, if_false, Bool.false_eq_true]
          obtain ⟨h8, E8, l8, f8, D8⟩ := D5.pc (uS A2 21 c) (sc A2 19) (sc A2 20) c (sc A2 22)
          rw [E8]
          obtain ⟨A4, hA4⟩ : ∃ A4, A4 = uS A2 21 c := ⟨_, rfl⟩
          rw [← hA4] at D8
          have xo8 := D8.o
          have xa8 := D8.sh
          have xb8 := D8.ko
          have xc8 := D8.lo
          have xf8 := D8.co
          have x18 := D8.wo
          have x28 := D8.to
          have x38 := D8.so
          have x48 := D8.go
          have x58 := D8.po
          simp only [w_X2_leaveWindow_169, w_X2_leaveWindow_170, w_X2_leaveWindow_173, w_X2_leaveWindow_174, pm_1i_c, pm_2i_c, pm_1l_c, pm_2l_c, pm_1a_c, pm_ia_c, pm_iia_c, pm_va_c, pm_cp_c, pm_k0_c, pm_k1_c, pm_k2_c, pm_k3_c, pm_s1_c, pm_s2_c, pm_s3_c, pm_s4_c, pm_ri_c, pm_ra_c, pm_rn_c, pm_rk_i, pm_rk_z, pm_rk_a, pm_vk_i, pm_vk_z, pm_vk_a, pm_cti, pm_ctr, pm_ldi_z, pm_ldi_s, pm_lda_z, pm_lda_s, pm_cat_n, pm_cat_i, pm_cat_r, pm_cat_l, pm_obj, pm_arr, pm_opt, pm_ird, pm_aln, List.getElem?_cons_zero, List.getElem?_cons_succ, List.set_cons_zero, List.set_cons_succ, List.length_cons, List.length_nil, List.length_set, true_and, and_true, Nat.add_zero, Nat.zero_add, Nat.le_refl, Nat.reduceAdd, Nat.reduceLT, Nat.reduceLeDiff, Nat.zero_le, not_false_eq_true, not_true_eq_false, false_implies, implies_true, true_implies, Nat.zero_lt_succ, Nat.lt_add_one, xo8, xa8, xb8, xc8, xf8, x18, x28, x38, x48, x58, l8, l5, l4, l1]
          obtain ⟨h9, E9, l9, f9, D9⟩ := D8.pc (uS A4 22 0) (sc A4 19) (sc A4 20) (sc A4 21) 0
          rw [E9]
          obtain ⟨A5, hA5⟩ : ∃ A5, A5 = uS A4 22 0 := ⟨_, rfl⟩
          rw [← hA5] at D9
          have xo9 := D9.o
          have xa9 := D9.sh
          have xb9 := D9.ko
          have xc9 := D9.lo
          have xf9 := D9.co
          have x19 := D9.wo
          have x29 := D9.to
          have x39 := D9.so
          have x49 := D9.go
          have x59 := D9.po
          simp only [w_X2_leaveWindow_177, w_X2_leaveWindow_178, w_X2_leaveWindow_179, w_X2_leaveWindow_182, w_X2_leaveWindow_183, w_X2_leaveWindow_184, pm_1i_c, pm_2i_c, pm_1l_c, pm_2l_c, pm_1a_c, pm_ia_c, pm_iia_c, pm_va_c, pm_cp_c, pm_k0_c, pm_k1_c, pm_k2_c, pm_k3_c, pm_s1_c, pm_s2_c, pm_s3_c, pm_s4_c, pm_ri_c, pm_ra_c, pm_rn_c, pm_rk_i, pm_rk_z, pm_rk_a, pm_vk_i, pm_vk_z, pm_vk_a, pm_cti, pm_ctr, pm_ldi_z, pm_ldi_s, pm_lda_z, pm_lda_s, pm_cat_n, pm_cat_i, pm_cat_r, pm_cat_l, pm_obj, pm_arr, pm_opt, pm_ird, pm_aln, List.getElem?_cons_zero, List.getElem?_cons_succ, List.set_cons_zero, List.set_cons_succ, List.length_cons, List.length_nil, List.length_set, true_and, and_true, Nat.add_zero, Nat.zero_add, Nat.le_refl, Nat.reduceAdd, Nat.reduceLT, Nat.reduceLeDiff, Nat.zero_le, not_false_eq_true, not_true_eq_false, false_implies, implies_true, true_implies, Nat.zero_lt_succ, Nat.lt_add_one, xo9, xa9, xb9, xc9, xf9, x19, x29, x39, x49, x59, l9, l8, l5, l4, l1]
          obtain ⟨h10, E10, l10, f10, D10⟩ := D9.pd (uS A5 7 (sc A5 7 + 1)) (sc A5 2) (sc A5 3) (sc A5 4) (sc A5 5) (sc A5 6) (sc A5 7 + 1)
          rw [E10]
          have T := tail h10 (uS A5 7 (sc A5 7 + 1)) (some (.int (mfI (sc A1 8) (sc A1 9)))) (some (.ref (B + (10 + 2 * q)))) c D10 (by rw [l10, l9, l8, l5, l4, l1]; rfl) ((((f1.tr f4).tr f5).tr f8).tr f9 |>.tr f10) (by rw [hA5, hA4]; rfl) (by rw [hA5, hA4]; rfl)
          exact T
      show W_X2_leaveWindow _ _ _ _ _ _ _ _ _
      simp only [w_X2_leaveWindow_71, w_X2_leaveWindow_74, w_X2_leaveWindow_75, w_X2_leaveWindow_78, w_X2_leaveWindow_81, w_X2_leaveWindow_82, pm_1i_c, pm_2i_c, pm_1l_c, pm_2l_c, pm_1a_c, pm_ia_c, pm_iia_c, pm_va_c, pm_cp_c, pm_k0_c, pm_k1_c, pm_k2_c, pm_k3_c, pm_s1_c, pm_s2_c, pm_s3_c, pm_s4_c, pm_ri_c, pm_ra_c, pm_rn_c, pm_rk_i, pm_rk_z, pm_rk_a, pm_vk_i, pm_vk_z, pm_vk_a, pm_cti, pm_ctr, pm_ldi_z, pm_ldi_s, pm_lda_z, pm_lda_s, pm_cat_n, pm_cat_i, pm_cat_r, pm_cat_l, pm_obj, pm_arr, pm_opt, pm_ird, pm_aln, List.getElem?_cons_zero, List.getElem?_cons_succ, List.set_cons_zero, List.set_cons_succ, List.length_cons, List.length_nil, List.length_set, true_and, and_true, Nat.add_zero, Nat.zero_add, Nat.le_refl, Nat.reduceAdd, Nat.reduceLT, Nat.reduceLeDiff, Nat.zero_le, not_false_eq_true, not_true_eq_false, false_implies, implies_true, true_implies, Nat.zero_lt_succ, Nat.lt_add_one, pm_tl_n, pm_tl_s, sc_uL, xo1, xa1, xb1, xc1, xf1, x11, x21, x31, x41, x51, l1]
      refine ⟨fun c3 => ?_, fun c3 => ?_⟩
      · exact go 3 (Or.inr rfl) (by unfold lvQ; rw [if_neg c3])
      · exact go 2 (Or.inl rfl) (by unfold lvQ; rw [if_pos c3])
    · rw [if_pos c2] at tail ⊢
      obtain ⟨h4, E4, l4, f4, D4⟩ := D1.pc (uS A1 21 c) (sc A1 19) (sc A1 20) c (sc A1 22)
      simp only [w_X2_leaveWindow_50, w_X2_leaveWindow_51, w_X2_leaveWindow_54, w_X2_leaveWindow_55, pm_1i_c, pm_2i_c, pm_1l_c, pm_2l_c, pm_1a_c, pm_ia_c, pm_iia_c, pm_va_c, pm_cp_c, pm_k0_c, pm_k1_c, pm_k2_c, pm_k3_c, pm_s1_c, pm_s2_c, pm_s3_c, pm_s4_c, pm_ri_c, pm_ra_c, pm_rn_c, pm_rk_i, pm_rk_z, pm_rk_a, pm_vk_i, pm_vk_z, pm_vk_a, pm_cti, pm_ctr, pm_ldi_z, pm_ldi_s, pm_lda_z, pm_lda_s, pm_cat_n, pm_cat_i, pm_cat_r, pm_cat_l, pm_obj, pm_arr, pm_opt, pm_ird, pm_aln, List.getElem?_cons_zero, List.getElem?_cons_succ, List.set_cons_zero, List.set_cons_succ, List.length_cons, List.length_nil, List.length_set, true_and, and_true, Nat.add_zero, Nat.zero_add, Nat.le_refl, Nat.reduceAdd, Nat.reduceLT, Nat.reduceLeDiff, Nat.zero_le, not_false_eq_true, not_true_eq_false, false_implies, implies_true, true_implies, Nat.zero_lt_succ, Nat.lt_add_one, xo1, xa1, xb1, xc1, xf1, x11, x21, x31, x41, x51, l1]
      rw [E4]
      have xo4 := D4.o
      have xa4 := D4.sh
      have xb4 := D4.ko
      have xc4 := D4.lo
      have xf4 := D4.co
      have x14 := D4.wo
      have x24 := D4.to
      have x34 := D4.so
      have x44 := D4.go
      have x54 := D4.po
      simp only [w_X2_leaveWindow_58, w_X2_leaveWindow_59, w_X2_leaveWindow_60, w_X2_leaveWindow_63, pm_1i_c, pm_2i_c, pm_1l_c, pm_2l_c, pm_1a_c, pm_ia_c, pm_iia_c, pm_va_c, pm_cp_c, pm_k0_c, pm_k1_c, pm_k2_c, pm_k3_c, pm_s1_c, pm_s2_c, pm_s3_c, pm_s4_c, pm_ri_c, pm_ra_c, pm_rn_c, pm_rk_i, pm_rk_z, pm_rk_a, pm_vk_i, pm_vk_z, pm_vk_a, pm_cti, pm_ctr, pm_ldi_z, pm_ldi_s, pm_lda_z, pm_lda_s, pm_cat_n, pm_cat_i, pm_cat_r, pm_cat_l, pm_obj, pm_arr, pm_opt, pm_ird, pm_aln, List.getElem?_cons_zero, List.getElem?_cons_succ, List.set_cons_zero, List.set_cons_succ, List.length_cons, List.length_nil, List.length_set, true_and, and_true, Nat.add_zero, Nat.zero_add, Nat.le_refl, Nat.reduceAdd, Nat.reduceLT, Nat.reduceLeDiff, Nat.zero_le, not_false_eq_true, not_true_eq_false, false_implies, implies_true, true_implies, Nat.zero_lt_succ, Nat.lt_add_one, xo4, xa4, xb4, xc4, xf4, x14, x24, x34, x44, x54, l4, l1]
      refine PM_use (c_Desk_goOut D4 c (d + 2)) ?_
      rintro v h5 l5 ⟨rfl, K1, K2⟩
      show W_X2_leaveWindow _ _ _ _ _ _ _ _ _
      simp only [w_X2_leaveWindow_58, w_X2_leaveWindow_59, w_X2_leaveWindow_60, w_X2_leaveWindow_63, pm_1i_c, pm_2i_c, pm_1l_c, pm_2l_c, pm_1a_c, pm_ia_c, pm_iia_c, pm_va_c, pm_cp_c, pm_k0_c, pm_k1_c, pm_k2_c, pm_k3_c, pm_s1_c, pm_s2_c, pm_s3_c, pm_s4_c, pm_ri_c, pm_ra_c, pm_rn_c, pm_rk_i, pm_rk_z, pm_rk_a, pm_vk_i, pm_vk_z, pm_vk_a, pm_cti, pm_ctr, pm_ldi_z, pm_ldi_s, pm_lda_z, pm_lda_s, pm_cat_n, pm_cat_i, pm_cat_r, pm_cat_l, pm_obj, pm_arr, pm_opt, pm_ird, pm_aln, List.getElem?_cons_zero, List.getElem?_cons_succ, List.set_cons_zero, List.set_cons_succ, List.length_cons, List.length_nil, List.length_set, true_and, and_true, Nat.add_zero, Nat.zero_add, Nat.le_refl, Nat.reduceAdd, Nat.reduceLT, Nat.reduceLeDiff, Nat.zero_le, not_false_eq_true, not_true_eq_false, false_implies, implies_true, true_implies, Nat.zero_lt_succ, Nat.lt_add_one, pm_tl_n, pm_tl_s, sc_uL, l5, l4, l1]
      exact ⟨K1, (f1.tr f4).tr K2⟩
  · rw [if_pos c1]
    refine PM_use (c_Row_ins0 D1.t (by omega) c (d + 3)) ?_
    rintro v h5 l5 ⟨rfl, K1, K2⟩
    show W_X2_leaveWindow _ _ _ _ _ _ _ _ _
    simp only [w_X2_leaveWindow_44, pm_1i_c, pm_2i_c, pm_1l_c, pm_2l_c, pm_1a_c, pm_ia_c, pm_iia_c, pm_va_c, pm_cp_c, pm_k0_c, pm_k1_c, pm_k2_c, pm_k3_c, pm_s1_c, pm_s2_c, pm_s3_c, pm_s4_c, pm_ri_c, pm_ra_c, pm_rn_c, pm_rk_i, pm_rk_z, pm_rk_a, pm_vk_i, pm_vk_z, pm_vk_a, pm_cti, pm_ctr, pm_ldi_z, pm_ldi_s, pm_lda_z, pm_lda_s, pm_cat_n, pm_cat_i, pm_cat_r, pm_cat_l, pm_obj, pm_arr, pm_opt, pm_ird, pm_aln, List.getElem?_cons_zero, List.getElem?_cons_succ, List.set_cons_zero, List.set_cons_succ, List.length_cons, List.length_nil, List.length_set, true_and, and_true, Nat.add_zero, Nat.zero_add, Nat.le_refl, Nat.reduceAdd, Nat.reduceLT, Nat.reduceLeDiff, Nat.zero_le, not_false_eq_true, not_true_eq_false, false_implies, implies_true, true_implies, Nat.zero_lt_succ, Nat.lt_add_one, pm_tl_n, pm_tl_s, sc_uL, l5, l1]
    exact ⟨D1.ut K1 K2, f1.tr (frd_2 2 K2 (by omega))⟩
end DQ
