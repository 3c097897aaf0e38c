/-! Lookback: the ideal, what is written. -/
section LD
variable {h h' : pmH} {Lb P W : Nat} {T Dp Du X xs l : List Int32}
theorem idS_len (xs : List Int32) (room : Int32) : ∀ k, (idS xs room k).1.length = (idS xs room k).2.1.length ∧ (idS xs room k).1.length ≤ k
  | 0 => ⟨rfl, Nat.le_refl 0⟩
  | k + 1 => by
    obtain ⟨a, b⟩ := idS_len xs room k
    rw [idS_s]
    have m : (idM (idS xs room k).1 (idS xs room k).2.1 (idS xs room k).2.2 (xs.getD k (-1)) (nI (nxA xs k))).1.length = (idM (idS xs room k).1 (idS xs room k).2.1 (idS xs room k).2.2 (xs.getD k (-1)) (nI (nxA xs k))).2.1.length ∧ (idM (idS xs room k).1 (idS xs room k).2.1 (idS xs room k).2.2 (xs.getD k (-1)) (nI (nxA xs k))).1.length ≤ k + 1 := by
      unfold idM
      split
      · refine ⟨?_, Nat.le_succ_of_le b⟩
        rw [List.length_set]
        exact a
      · simp only [List.length_append, List.length_singleton]
        omega
    unfold idC
    split
    · refine ⟨?_, ?_⟩
      · simp only [List.length_eraseIdx]
        rw [m.1]
      · simp only [List.length_eraseIdx]
        split <;> omega
    · exact m
set_option maxHeartbeats 2000000 in
theorem c_Lb_idealHits (L : lb_ h Lb T Dp Du) (R : rw_ h P 100 xs) (nd : P + 1 < Lb ∨ Lb + 6 < P) (room : Int32) (d : Nat) : PM (d + 3) 43 [.ref Lb, .ref P, .int room] h (fun v h' => v = some (.int (nI (idS xs room xs.length).2.2)) ∧ (∃ T' Du', lb_ h' Lb T' Dp Du') ∧ frL h h' Lb) := by
  refine en_X5_idealHits rfl rfl rfl ?_
  have len := R.le
  have loop : ∀ n k, xs.length - k = n → k ≤ xs.length → ∀ (hh : pmH) (x5 x6 x7 x8 : Option Value), lb_ hh Lb (idS xs room k).1 Dp (idS xs room k).2.1 → hh.length = h.length → frL h hh Lb → W_X5_idealHits (d + 2) (h.length + 0) 0 (fun v h' => v = some (.int (nI (idS xs room xs.length).2.2)) ∧ (∃ T' Du', lb_ h' Lb T' Dp Du') ∧ frL h h' Lb) 21 [some (.ref Lb), some (.ref P), some (.int room), some (.int (nI (idS xs room k).2.2)), some (.int (nI k)), x5, x6, x7, x8] [] hh 0 := by
    intro n
    induction n with
    | zero =>
      intro k hn hk hh x5 x6 x7 x8 L1 q1 q2
      have R1 : rw_ hh P 100 xs := R.kept (q2 _ (by omega)) (q2 _ (by omega))
      have ro := R1.o
      have e1 : ¬ nI k < nI xs.length := nI_nlt (by omega) (by omega)
      rw [w_X5_idealHits_21]
      simp only [w_X5_idealHits_23, w_X5_idealHits_24, w_X5_idealHits_27, w_X5_idealHits_30, w_X5_idealHits_31, w_X5_idealHits_33, w_X5_idealHits_36, w_X5_idealHits_38, w_X5_idealHits_39, w_X5_idealHits_41, w_X5_idealHits_44, w_X5_idealHits_46, w_X5_idealHits_47, w_X5_idealHits_50, w_X5_idealHits_52, w_X5_idealHits_55, w_X5_idealHits_57, w_X5_idealHits_59, w_X5_idealHits_60, w_X5_idealHits_63, w_X5_idealHits_66, w_X5_idealHits_67, w_X5_idealHits_70, w_X5_idealHits_72, w_X5_idealHits_74, w_X5_idealHits_77, w_X5_idealHits_80, w_X5_idealHits_81, w_X5_idealHits_84, w_X5_idealHits_86, w_X5_idealHits_89, w_X5_idealHits_90, w_X5_idealHits_93, w_X5_idealHits_95, w_X5_idealHits_98, w_X5_idealHits_99, w_X5_idealHits_102, w_X5_idealHits_105, w_X5_idealHits_106, w_X5_idealHits_109, w_X5_idealHits_110, w_X5_idealHits_113, w_X5_idealHits_115, w_X5_idealHits_116, w_X5_idealHits_119, w_X5_idealHits_121, w_X5_idealHits_124, w_X5_idealHits_125, w_X5_idealHits_126, w_X5_idealHits_129, w_X5_idealHits_131, w_X5_idealHits_134, w_X5_idealHits_135, w_X5_idealHits_138, w_X5_idealHits_141, w_X5_idealHits_142, pm_1i_c, pm_2i_c, pm_1l_c, pm_2l_c, pm_1a_c, pm_ia_c, pm_iia_c, pm_va_c, pm_cp_c, pm_k0_c, pm_k1_c, pm_k2_c, pm_k3_c, pm_s1_c, pm_s2_c, pm_s3_c, pm_s4_c, pm_ri_c, pm_ra_c, pm_rn_c, pm_rk_i, pm_rk_z, pm_rk_a, pm_vk_i, pm_vk_z, pm_vk_a, pm_cti, pm_ctr, pm_ldi_z, pm_ldi_s, pm_lda_z, pm_lda_s, pm_cat_n, pm_cat_i, pm_cat_r, pm_cat_l, pm_obj, pm_arr, pm_opt, pm_ird, pm_aln, List.getElem?_cons_zero, List.getElem?_cons_succ, List.set_cons_zero, List.set_cons_succ, List.length_cons, List.length_nil, List.length_set, true_and, and_true, Nat.add_zero, Nat.zero_add, Nat.le_refl, Nat.reduceAdd, Nat.reduceLT, Nat.reduceLeDiff, Nat.zero_le, not_false_eq_true, not_true_eq_false, false_implies, implies_true, true_implies, Nat.zero_lt_succ, Nat.lt_add_one, ro, q1]
      refine PM_use (c_Row_size R1 (d + 1)) ?_
      rintro v h1 l1 ⟨rfl, rfl⟩
      show W_X5_idealHits _ _ _ _ _ _ _ _ _
      simp only [w_X5_idealHits_27, w_X5_idealHits_30, w_X5_idealHits_31, w_X5_idealHits_33, w_X5_idealHits_36, w_X5_idealHits_38, w_X5_idealHits_39, w_X5_idealHits_41, w_X5_idealHits_44, w_X5_idealHits_46, w_X5_idealHits_47, w_X5_idealHits_50, w_X5_idealHits_52, w_X5_idealHits_55, w_X5_idealHits_57, w_X5_idealHits_59, w_X5_idealHits_60, w_X5_idealHits_63, w_X5_idealHits_66, w_X5_idealHits_67, w_X5_idealHits_70, w_X5_idealHits_72, w_X5_idealHits_74, w_X5_idealHits_77, w_X5_idealHits_80, w_X5_idealHits_81, w_X5_idealHits_84, w_X5_idealHits_86, w_X5_idealHits_89, w_X5_idealHits_90, w_X5_idealHits_93, w_X5_idealHits_95, w_X5_idealHits_98, w_X5_idealHits_99, w_X5_idealHits_102, w_X5_idealHits_105, w_X5_idealHits_106, w_X5_idealHits_109, w_X5_idealHits_110, w_X5_idealHits_113, w_X5_idealHits_115, w_X5_idealHits_116, w_X5_idealHits_119, w_X5_idealHits_121, w_X5_idealHits_124, w_X5_idealHits_125, w_X5_idealHits_126, w_X5_idealHits_129, w_X5_idealHits_131, w_X5_idealHits_134, w_X5_idealHits_135, w_X5_idealHits_138, w_X5_idealHits_141, w_X5_idealHits_142, pm_1i_c, pm_2i_c, pm_1l_c, pm_2l_c, pm_1a_c, pm_ia_c, pm_iia_c, pm_va_c, pm_cp_c, pm_k0_c, pm_k1_c, pm_k2_c, pm_k3_c, pm_s1_c, pm_s2_c, pm_s3_c, pm_s4_c, pm_ri_c, pm_ra_c, pm_rn_c, pm_rk_i, pm_rk_z, pm_rk_a, pm_vk_i, pm_vk_z, pm_vk_a, pm_cti, pm_ctr, pm_ldi_z, pm_ldi_s, pm_lda_z, pm_lda_s, pm_cat_n, pm_cat_i, pm_cat_r, pm_cat_l, pm_obj, pm_arr, pm_opt, pm_ird, pm_aln, List.getElem?_cons_zero, List.getElem?_cons_succ, List.set_cons_zero, List.set_cons_succ, List.length_cons, List.length_nil, List.length_set, true_and, and_true, Nat.add_zero, Nat.zero_add, Nat.le_refl, Nat.reduceAdd, Nat.reduceLT, Nat.reduceLeDiff, Nat.zero_le, not_false_eq_true, not_true_eq_false, false_implies, implies_true, true_implies, Nat.zero_lt_succ, Nat.lt_add_one, pm_tl_n, pm_tl_s, sc_uL, e1, q1]
      rw [show k = xs.length by omega] at L1 ⊢
      exact ⟨rfl, ⟨_, _, L1⟩, q2⟩
    | succ n ih =>
      intro k hn hk hh x5 x6 x7 x8 L1 q1 q2
      have R1 : rw_ hh P 100 xs := R.kept (q2 _ (by omega)) (q2 _ (by omega))
      have ro := R1.o
      have lo := L1.1
      have to := L1.2.1.o
      have uo := L1.2.2.2.o
      have tl := L1.2.1.le
      obtain ⟨il, ik⟩ := idS_len xs room k
      have e1 : nI k < nI xs.length := nI_lt (by omega) (by omega)
      have K := ih (k + 1) (by omega) (by omega)
      rw [idS_s] at K
      -- behind the key's own place
      have go : ∀ (h5 : pmH) (t : List Int32 × List Int32 × Nat) (x5 x6 x7 x8 : Option Value), t = idM (idS xs room k).1 (idS xs room k).2.1 (idS xs room k).2.2 (xs.getD k (-1)) (nI (nxA xs k)) → lb_ h5 Lb t.1 Dp t.2.1 → h5.length = h.length → frL h h5 Lb → W_X5_idealHits (d + 2) (h.length + 0) 0 (fun v h' => v = some (.int (nI (idS xs room xs.length).2.2)) ∧ (∃ T' Du', lb_ h' Lb T' Dp Du') ∧ frL h h' Lb) 98 [some (.ref Lb), some (.ref P), some (.int room), some (.int (nI t.2.2)), some (.int (nI k)), x5, x6, x7, x8] [] h5 0 := by
        intro h5 t x5 x6 x7 x8 et L5 l5 f5
        have lo := L5.1
        have to := L5.2.1.o
        have tl := L5.2.1.le
        have ul := L5.2.2.2.le
        rw [← et] at K
        unfold idC at K
        simp only [w_X5_idealHits_98, w_X5_idealHits_99, w_X5_idealHits_102, pm_1i_c, pm_2i_c, pm_1l_c, pm_2l_c, pm_1a_c, pm_ia_c, pm_iia_c, pm_va_c, pm_cp_c, pm_k0_c, pm_k1_c, pm_k2_c, pm_k3_c, pm_s1_c, pm_s2_c, pm_s3_c, pm_s4_c, pm_ri_c, pm_ra_c, pm_rn_c, pm_rk_i, pm_rk_z, pm_rk_a, pm_vk_i, pm_vk_z, pm_vk_a, pm_cti, pm_ctr, pm_ldi_z, pm_ldi_s, pm_lda_z, pm_lda_s, pm_cat_n, pm_cat_i, pm_cat_r, pm_cat_l, pm_obj, pm_arr, pm_opt, pm_ird, pm_aln, List.getElem?_cons_zero, List.getElem?_cons_succ, List.set_cons_zero, List.set_cons_succ, List.length_cons, List.length_nil, List.length_set, true_and, and_true, Nat.add_zero, Nat.zero_add, Nat.le_refl, Nat.reduceAdd, Nat.reduceLT, Nat.reduceLeDiff, Nat.zero_le, not_false_eq_true, not_true_eq_false, false_implies, implies_true, true_implies, Nat.zero_lt_succ, Nat.lt_add_one, lo, to, l5]
        refine PM_use (c_Row_size L5.2.1 (d + 1)) ?_
        rintro v h1 l1 ⟨rfl, rfl⟩
        show W_X5_idealHits _ _ _ _ _ _ _ _ _
        simp only [w_X5_idealHits_105, w_X5_idealHits_106, w_X5_idealHits_109, w_X5_idealHits_110, w_X5_idealHits_135, w_X5_idealHits_138, pm_1i_c, pm_2i_c, pm_1l_c, pm_2l_c, pm_1a_c, pm_ia_c, pm_iia_c, pm_va_c, pm_cp_c, pm_k0_c, pm_k1_c, pm_k2_c, pm_k3_c, pm_s1_c, pm_s2_c, pm_s3_c, pm_s4_c, pm_ri_c, pm_ra_c, pm_rn_c, pm_rk_i, pm_rk_z, pm_rk_a, pm_vk_i, pm_vk_z, pm_vk_a, pm_cti, pm_ctr, pm_ldi_z, pm_ldi_s, pm_lda_z, pm_lda_s, pm_cat_n, pm_cat_i, pm_cat_r, pm_cat_l, pm_obj, pm_arr, pm_opt, pm_ird, pm_aln, List.getElem?_cons_zero, List.getElem?_cons_succ, List.set_cons_zero, List.set_cons_succ, List.length_cons, List.length_nil, List.length_set, true_and, and_true, Nat.add_zero, Nat.zero_add, Nat.le_refl, Nat.reduceAdd, Nat.reduceLT, Nat.reduceLeDiff, Nat.zero_le, not_false_eq_true, not_true_eq_false, false_implies, implies_true, true_implies, Nat.zero_lt_succ, Nat.lt_add_one, pm_tl_n, pm_tl_s, sc_uL, lo, l5, nI_1]
        refine ⟨fun c => ?_, fun c => ?_⟩
        · rw [if_neg c] at K
          exact K h1 _ _ _ _ L5 l5 f5
        · rw [if_pos c] at K
          have la : latF t.1 t.2.1 < 2 ^ 31 := by
            have := laS_le t.1 t.2.1 (t.2.1.length - 1)
            unfold latF
            omega
          refine PM_use (c_Lb_latestDue L5 d) ?_
          rintro v h1 l1 ⟨rfl, rfl⟩
          show W_X5_idealHits _ _ _ _ _ _ _ _ _
          simp only [w_X5_idealHits_113, w_X5_idealHits_115, w_X5_idealHits_116, w_X5_idealHits_119, w_X5_idealHits_121, pm_1i_c, pm_2i_c, pm_1l_c, pm_2l_c, pm_1a_c, pm_ia_c, pm_iia_c, pm_va_c, pm_cp_c, pm_k0_c, pm_k1_c, pm_k2_c, pm_k3_c, pm_s1_c, pm_s2_c, pm_s3_c, pm_s4_c, pm_ri_c, pm_ra_c, pm_rn_c, pm_rk_i, pm_rk_z, pm_rk_a, pm_vk_i, pm_vk_z, pm_vk_a, pm_cti, pm_ctr, pm_ldi_z, pm_ldi_s, pm_lda_z, pm_lda_s, pm_cat_n, pm_cat_i, pm_cat_r, pm_cat_l, pm_obj, pm_arr, pm_opt, pm_ird, pm_aln, List.getElem?_cons_zero, List.getElem?_cons_succ, List.set_cons_zero, List.set_cons_succ, List.length_cons, List.length_nil, List.length_set, true_and, and_true, Nat.add_zero, Nat.zero_add, Nat.le_refl, Nat.reduceAdd, Nat.reduceLT, Nat.reduceLeDiff, Nat.zero_le, not_false_eq_true, not_true_eq_false, false_implies, implies_true, true_implies, Nat.zero_lt_succ, Nat.lt_add_one, pm_tl_n, pm_tl_s, sc_uL, lo, l5, to]
          refine PM_use (c_Row_removeAt L5.2.1 (nI (latF t.1 t.2.1)) (d + 1)) ?_
          rintro v h6 l6 ⟨rfl, K1, K2⟩
          rw [if_neg (nI_pos la), nI_clamp la] at K1
          obtain ⟨L6, f6⟩ := L5.ut K1 K2
          have lo6 := L6.1
          have uo6 := L6.2.2.2.o
          show W_X5_idealHits _ _ _ _ _ _ _ _ _
          simp only [w_X5_idealHits_124, w_X5_idealHits_125, w_X5_idealHits_126, w_X5_idealHits_129, w_X5_idealHits_131, pm_1i_c, pm_2i_c, pm_1l_c, pm_2l_c, pm_1a_c, pm_ia_c, pm_iia_c, pm_va_c, pm_cp_c, pm_k0_c, pm_k1_c, pm_k2_c, pm_k3_c, pm_s1_c, pm_s2_c, pm_s3_c, pm_s4_c, pm_ri_c, pm_ra_c, pm_rn_c, pm_rk_i, pm_rk_z, pm_rk_a, pm_vk_i, pm_vk_z, pm_vk_a, pm_cti, pm_ctr, pm_ldi_z, pm_ldi_s, pm_lda_z, pm_lda_s, pm_cat_n, pm_cat_i, pm_cat_r, pm_cat_l, pm_obj, pm_arr, pm_opt, pm_ird, pm_aln, List.getElem?_cons_zero, List.getElem?_cons_succ, List.set_cons_zero, List.set_cons_succ, List.length_cons, List.length_nil, List.length_set, true_and, and_true, Nat.add_zero, Nat.zero_add, Nat.le_refl, Nat.reduceAdd, Nat.reduceLT, Nat.reduceLeDiff, Nat.zero_le, not_false_eq_true, not_true_eq_false, false_implies, implies_true, true_implies, Nat.zero_lt_succ, Nat.lt_add_one, pm_tl_n, pm_tl_s, sc_uL, lo6, l6, l5, uo6]
          refine PM_use (c_Row_removeAt L6.2.2.2 (nI (latF t.1 t.2.1)) (d + 1)) ?_
          rintro v h7 l7 ⟨rfl, K3, K4⟩
          rw [if_neg (nI_pos la), nI_clamp la] at K3
          obtain ⟨L7, f7⟩ := L6.uu K3 K4
          show W_X5_idealHits _ _ _ _ _ _ _ _ _
          simp only [w_X5_idealHits_134, w_X5_idealHits_135, w_X5_idealHits_138, pm_1i_c, pm_2i_c, pm_1l_c, pm_2l_c, pm_1a_c, pm_ia_c, pm_iia_c, pm_va_c, pm_cp_c, pm_k0_c, pm_k1_c, pm_k2_c, pm_k3_c, pm_s1_c, pm_s2_c, pm_s3_c, pm_s4_c, pm_ri_c, pm_ra_c, pm_rn_c, pm_rk_i, pm_rk_z, pm_rk_a, pm_vk_i, pm_vk_z, pm_vk_a, pm_cti, pm_ctr, pm_ldi_z, pm_ldi_s, pm_lda_z, pm_lda_s, pm_cat_n, pm_cat_i, pm_cat_r, pm_cat_l, pm_obj, pm_arr, pm_opt, pm_ird, pm_aln, List.getElem?_cons_zero, List.getElem?_cons_succ, List.set_cons_zero, List.set_cons_succ, List.length_cons, List.length_nil, List.length_set, true_and, and_true, Nat.add_zero, Nat.zero_add, Nat.le_refl, Nat.reduceAdd, Nat.reduceLT, Nat.reduceLeDiff, Nat.zero_le, not_false_eq_true, not_true_eq_false, false_implies, implies_true, true_implies, Nat.zero_lt_succ, Nat.lt_add_one, pm_tl_n, pm_tl_s, sc_uL, nI_1]
          exact K h7 _ _ _ _ L7 (by rw [l7, l6, l5]; rfl) ((f5.tr f6).tr f7)
      rw [w_X5_idealHits_21]
      simp only [w_X5_idealHits_23, w_X5_idealHits_24, w_X5_idealHits_27, pm_1i_c, pm_2i_c, pm_1l_c, pm_2l_c, pm_1a_c, pm_ia_c, pm_iia_c, pm_va_c, pm_cp_c, pm_k0_c, pm_k1_c, pm_k2_c, pm_k3_c, pm_s1_c, pm_s2_c, pm_s3_c, pm_s4_c, pm_ri_c, pm_ra_c, pm_rn_c, pm_rk_i, pm_rk_z, pm_rk_a, pm_vk_i, pm_vk_z, pm_vk_a, pm_cti, pm_ctr, pm_ldi_z, pm_ldi_s, pm_lda_z, pm_lda_s, pm_cat_n, pm_cat_i, pm_cat_r, pm_cat_l, pm_obj, pm_arr, pm_opt, pm_ird, pm_aln, List.getElem?_cons_zero, List.getElem?_cons_succ, List.set_cons_zero, List.set_cons_succ, List.length_cons, List.length_nil, List.length_set, true_and, and_true, Nat.add_zero, Nat.zero_add, Nat.le_refl, Nat.reduceAdd, Nat.reduceLT, Nat.reduceLeDiff, Nat.zero_le, not_false_eq_true, not_true_eq_false, false_implies, implies_true, true_implies, Nat.zero_lt_succ, Nat.lt_add_one, ro, q1]
      refine PM_use (c_Row_size R1 (d + 1)) ?_
      rintro v h1 l1 ⟨rfl, rfl⟩
      show W_X5_idealHits _ _ _ _ _ _ _ _ _
      simp only [w_X5_idealHits_27, w_X5_idealHits_30, w_X5_idealHits_31, w_X5_idealHits_33, pm_1i_c, pm_2i_c, pm_1l_c, pm_2l_c, pm_1a_c, pm_ia_c, pm_iia_c, pm_va_c, pm_cp_c, pm_k0_c, pm_k1_c, pm_k2_c, pm_k3_c, pm_s1_c, pm_s2_c, pm_s3_c, pm_s4_c, pm_ri_c, pm_ra_c, pm_rn_c, pm_rk_i, pm_rk_z, pm_rk_a, pm_vk_i, pm_vk_z, pm_vk_a, pm_cti, pm_ctr, pm_ldi_z, pm_ldi_s, pm_lda_z, pm_lda_s, pm_cat_n, pm_cat_i, pm_cat_r, pm_cat_l, pm_obj, pm_arr, pm_opt, pm_ird, pm_aln, List.getElem?_cons_zero, List.getElem?_cons_succ, List.set_cons_zero, List.set_cons_succ, List.length_cons, List.length_nil, List.length_set, true_and, and_true, Nat.add_zero, Nat.zero_add, Nat.le_refl, Nat.reduceAdd, Nat.reduceLT, Nat.reduceLeDiff, Nat.zero_le, not_false_eq_true, not_true_eq_false, false_implies, implies_true, true_implies, Nat.zero_lt_succ, Nat.lt_add_one, pm_tl_n, pm_tl_s, sc_uL, e1, ro, q1]
      refine PM_use (c_Row_get R1 (nI k) (d + 1)) ?_
      rintro v h1 l1 ⟨rfl, rfl⟩
      rw [rw_getN (by omega)]
      show W_X5_idealHits _ _ _ _ _ _ _ _ _
      simp only [w_X5_idealHits_36, w_X5_idealHits_38, w_X5_idealHits_39, w_X5_idealHits_41, pm_1i_c, pm_2i_c, pm_1l_c, pm_2l_c, pm_1a_c, pm_ia_c, pm_iia_c, pm_va_c, pm_cp_c, pm_k0_c, pm_k1_c, pm_k2_c, pm_k3_c, pm_s1_c, pm_s2_c, pm_s3_c, pm_s4_c, pm_ri_c, pm_ra_c, pm_rn_c, pm_rk_i, pm_rk_z, pm_rk_a, pm_vk_i, pm_vk_z, pm_vk_a, pm_cti, pm_ctr, pm_ldi_z, pm_ldi_s, pm_lda_z, pm_lda_s, pm_cat_n, pm_cat_i, pm_cat_r, pm_cat_l, pm_obj, pm_arr, pm_opt, pm_ird, pm_aln, List.getElem?_cons_zero, List.getElem?_cons_succ, List.set_cons_zero, List.set_cons_succ, List.length_cons, List.length_nil, List.length_set, true_and, and_true, Nat.add_zero, Nat.zero_add, Nat.le_refl, Nat.reduceAdd, Nat.reduceLT, Nat.reduceLeDiff, Nat.zero_le, not_false_eq_true, not_true_eq_false, false_implies, implies_true, true_implies, Nat.zero_lt_succ, Nat.lt_add_one, pm_tl_n, pm_tl_s, sc_uL, q1]
      refine PM_use (c_Lb_nextAsk R1 (by omega) d) ?_
      rintro v h1 l1 ⟨rfl, rfl⟩
      show W_X5_idealHits _ _ _ _ _ _ _ _ _
      simp only [w_X5_idealHits_44, w_X5_idealHits_46, w_X5_idealHits_47, w_X5_idealHits_50, w_X5_idealHits_52, pm_1i_c, pm_2i_c, pm_1l_c, pm_2l_c, pm_1a_c, pm_ia_c, pm_iia_c, pm_va_c, pm_cp_c, pm_k0_c, pm_k1_c, pm_k2_c, pm_k3_c, pm_s1_c, pm_s2_c, pm_s3_c, pm_s4_c, pm_ri_c, pm_ra_c, pm_rn_c, pm_rk_i, pm_rk_z, pm_rk_a, pm_vk_i, pm_vk_z, pm_vk_a, pm_cti, pm_ctr, pm_ldi_z, pm_ldi_s, pm_lda_z, pm_lda_s, pm_cat_n, pm_cat_i, pm_cat_r, pm_cat_l, pm_obj, pm_arr, pm_opt, pm_ird, pm_aln, List.getElem?_cons_zero, List.getElem?_cons_succ, List.set_cons_zero, List.set_cons_succ, List.length_cons, List.length_nil, List.length_set, true_and, and_true, Nat.add_zero, Nat.zero_add, Nat.le_refl, Nat.reduceAdd, Nat.reduceLT, Nat.reduceLeDiff, Nat.zero_le, not_false_eq_true, not_true_eq_false, false_implies, implies_true, true_implies, Nat.zero_lt_succ, Nat.lt_add_one, pm_tl_n, pm_tl_s, sc_uL, lo, to, q1]
      refine PM_use (c_Row_find L1.2.1 (xs.getD k (-1)) (d + 1)) ?_
      rintro v h1 l1 ⟨rfl, rfl⟩
      have fm := fnd_m (xs := (idS xs room k).1) (x := xs.getD k (-1)) (by omega)
      by_cases m : xs.getD k (-1) ∈ (idS xs room k).1
      · have e2 : ¬ rw_fnd (idS xs room k).1 (xs.getD k (-1)) = -1 := fun e => fm.mp e m
        have e3 : rw_fnd (idS xs room k).1 (xs.getD k (-1)) = nI ((idS xs room k).1.idxOf (xs.getD k (-1))) := if_pos m
        have e4 := List.idxOf_lt_length_iff.mpr m
        have hM : idM (idS xs room k).1 (idS xs room k).2.1 (idS xs room k).2.2 (xs.getD k (-1)) (nI (nxA xs k)) = ((idS xs room k).1, (idS xs room k).2.1.set ((idS xs room k).1.idxOf (xs.getD k (-1))) (nI (nxA xs k)), (idS xs room k).2.2 + 1) := if_pos m
        rw [e3] at e2
        rw [e3]
        show W_X5_idealHits _ _ _ _ _ _ _ _ _
        simp only [w_X5_idealHits_55, w_X5_idealHits_57, w_X5_idealHits_59, w_X5_idealHits_60, w_X5_idealHits_63, w_X5_idealHits_66, w_X5_idealHits_67, w_X5_idealHits_70, w_X5_idealHits_72, w_X5_idealHits_74, pm_1i_c, pm_2i_c, pm_1l_c, pm_2l_c, pm_1a_c, pm_ia_c, pm_iia_c, pm_va_c, pm_cp_c, pm_k0_c, pm_k1_c, pm_k2_c, pm_k3_c, pm_s1_c, pm_s2_c, pm_s3_c, pm_s4_c, pm_ri_c, pm_ra_c, pm_rn_c, pm_rk_i, pm_rk_z, pm_rk_a, pm_vk_i, pm_vk_z, pm_vk_a, pm_cti, pm_ctr, pm_ldi_z, pm_ldi_s, pm_lda_z, pm_lda_s, pm_cat_n, pm_cat_i, pm_cat_r, pm_cat_l, pm_obj, pm_arr, pm_opt, pm_ird, pm_aln, List.getElem?_cons_zero, List.getElem?_cons_succ, List.set_cons_zero, List.set_cons_succ, List.length_cons, List.length_nil, List.length_set, true_and, and_true, Nat.add_zero, Nat.zero_add, Nat.le_refl, Nat.reduceAdd, Nat.reduceLT, Nat.reduceLeDiff, Nat.zero_le, not_false_eq_true, not_true_eq_false, false_implies, implies_true, true_implies, Nat.zero_lt_succ, Nat.lt_add_one, pm_tl_n, pm_tl_s, sc_uL, lo, uo, q1, e2, nI_1]
        refine PM_use (c_Row_put L1.2.2.2 (by omega : (idS xs room k).1.idxOf (xs.getD k (-1)) < (idS xs room k).2.1.length) (nI (nxA xs k)) (d + 1)) ?_
        rintro v h2 l2 ⟨rfl, K1, K2⟩
        obtain ⟨L2, f2⟩ := L1.uu K1 K2
        show W_X5_idealHits _ _ _ _ _ _ _ _ _
        simp only [w_X5_idealHits_77, pm_1i_c, pm_2i_c, pm_1l_c, pm_2l_c, pm_1a_c, pm_ia_c, pm_iia_c, pm_va_c, pm_cp_c, pm_k0_c, pm_k1_c, pm_k2_c, pm_k3_c, pm_s1_c, pm_s2_c, pm_s3_c, pm_s4_c, pm_ri_c, pm_ra_c, pm_rn_c, pm_rk_i, pm_rk_z, pm_rk_a, pm_vk_i, pm_vk_z, pm_vk_a, pm_cti, pm_ctr, pm_ldi_z, pm_ldi_s, pm_lda_z, pm_lda_s, pm_cat_n, pm_cat_i, pm_cat_r, pm_cat_l, pm_obj, pm_arr, pm_opt, pm_ird, pm_aln, List.getElem?_cons_zero, List.getElem?_cons_succ, List.set_cons_zero, List.set_cons_succ, List.length_cons, List.length_nil, List.length_set, true_and, and_true, Nat.add_zero, Nat.zero_add, Nat.le_refl, Nat.reduceAdd, Nat.reduceLT, Nat.reduceLeDiff, Nat.zero_le, not_false_eq_true, not_true_eq_false, false_implies, implies_true, true_implies, Nat.zero_lt_succ, Nat.lt_add_one, pm_tl_n, pm_tl_s, sc_uL]
        have G := go h2 _ (some (.int (xs.getD k (-1)))) (some (.int (nI (nxA xs k)))) (some (.int (nI ((idS xs room k).1.idxOf (xs.getD k (-1)))))) x8 rfl (by rw [hM]; exact L2) (by rw [l2, q1]; rfl) (q2.tr f2)
        rw [hM] at G
        exact G
      · have e2 : rw_fnd (idS xs room k).1 (xs.getD k (-1)) = -1 := fm.mpr m
        have hM : idM (idS xs room k).1 (idS xs room k).2.1 (idS xs room k).2.2 (xs.getD k (-1)) (nI (nxA xs k)) = ((idS xs room k).1 ++ [xs.getD k (-1)], (idS xs room k).2.1 ++ [nI (nxA xs k)], (idS xs room k).2.2) := if_neg m
        rw [e2]
        show W_X5_idealHits _ _ _ _ _ _ _ _ _
        simp only [w_X5_idealHits_55, w_X5_idealHits_57, w_X5_idealHits_59, w_X5_idealHits_60, w_X5_idealHits_80, w_X5_idealHits_81, w_X5_idealHits_84, w_X5_idealHits_86, pm_1i_c, pm_2i_c, pm_1l_c, pm_2l_c, pm_1a_c, pm_ia_c, pm_iia_c, pm_va_c, pm_cp_c, pm_k0_c, pm_k1_c, pm_k2_c, pm_k3_c, pm_s1_c, pm_s2_c, pm_s3_c, pm_s4_c, pm_ri_c, pm_ra_c, pm_rn_c, pm_rk_i, pm_rk_z, pm_rk_a, pm_vk_i, pm_vk_z, pm_vk_a, pm_cti, pm_ctr, pm_ldi_z, pm_ldi_s, pm_lda_z, pm_lda_s, pm_cat_n, pm_cat_i, pm_cat_r, pm_cat_l, pm_obj, pm_arr, pm_opt, pm_ird, pm_aln, List.getElem?_cons_zero, List.getElem?_cons_succ, List.set_cons_zero, List.set_cons_succ, List.length_cons, List.length_nil, List.length_set, true_and, and_true, Nat.add_zero, Nat.zero_add, Nat.le_refl, Nat.reduceAdd, Nat.reduceLT, Nat.reduceLeDiff, Nat.zero_le, not_false_eq_true, not_true_eq_false, false_implies, implies_true, true_implies, Nat.zero_lt_succ, Nat.lt_add_one, pm_tl_n, pm_tl_s, sc_uL, lo, to, q1]
        refine PM_use (c_Row_append L1.2.1 (xs.getD k (-1)) (d + 1)) ?_
        rintro v h2 l2 ⟨rfl, K1, K2⟩
        rw [if_pos (by omega)] at K1
        obtain ⟨L2, f2⟩ := L1.ut K1 K2
        have lo2 := L2.1
        have uo2 := L2.2.2.2.o
        show W_X5_idealHits _ _ _ _ _ _ _ _ _
        simp only [w_X5_idealHits_89, w_X5_idealHits_90, w_X5_idealHits_93, w_X5_idealHits_95, pm_1i_c, pm_2i_c, pm_1l_c, pm_2l_c, pm_1a_c, pm_ia_c, pm_iia_c, pm_va_c, pm_cp_c, pm_k0_c, pm_k1_c, pm_k2_c, pm_k3_c, pm_s1_c, pm_s2_c, pm_s3_c, pm_s4_c, pm_ri_c, pm_ra_c, pm_rn_c, pm_rk_i, pm_rk_z, pm_rk_a, pm_vk_i, pm_vk_z, pm_vk_a, pm_cti, pm_ctr, pm_ldi_z, pm_ldi_s, pm_lda_z, pm_lda_s, pm_cat_n, pm_cat_i, pm_cat_r, pm_cat_l, pm_obj, pm_arr, pm_opt, pm_ird, pm_aln, List.getElem?_cons_zero, List.getElem?_cons_succ, List.set_cons_zero, List.set_cons_succ, List.length_cons, List.length_nil, List.length_set, true_and, and_true, Nat.add_zero, Nat.zero_add, Nat.le_refl, Nat.reduceAdd, Nat.reduceLT, Nat.reduceLeDiff, Nat.zero_le, not_false_eq_true, not_true_eq_false, false_implies, implies_true, true_implies, Nat.zero_lt_succ, Nat.lt_add_one, pm_tl_n, pm_tl_s, sc_uL, lo2, uo2, l2, q1]
        refine PM_use (c_Row_append L2.2.2.2 (nI (nxA xs k)) (d + 1)) ?_
        rintro v h3 l3 ⟨rfl, K3, K4⟩
        rw [if_pos (by omega)] at K3
        obtain ⟨L3, f3⟩ := L2.uu K3 K4
        show W_X5_idealHits _ _ _ _ _ _ _ _ _
        have G := go h3 _ (some (.int (xs.getD k (-1)))) (some (.int (nI (nxA xs k)))) (some (.int (-1))) x8 rfl (by rw [hM]; exact L3) (by rw [l3, l2, q1]; rfl) ((q2.tr f2).tr f3)
        rw [hM] at G
        exact G
  have lo := L.1
  have to := L.2.1.o
  simp only [w_X5_idealHits_0, w_X5_idealHits_1, w_X5_idealHits_4, w_X5_idealHits_5, pm_1i_c, pm_2i_c, pm_1l_c, pm_2l_c, pm_1a_c, pm_ia_c, pm_iia_c, pm_va_c, pm_cp_c, pm_k0_c, pm_k1_c, pm_k2_c, pm_k3_c, pm_s1_c, pm_s2_c, pm_s3_c, pm_s4_c, pm_ri_c, pm_ra_c, pm_rn_c, pm_rk_i, pm_rk_z, pm_rk_a, pm_vk_i, pm_vk_z, pm_vk_a, pm_cti, pm_ctr, pm_ldi_z, pm_ldi_s, pm_lda_z, pm_lda_s, pm_cat_n, pm_cat_i, pm_cat_r, pm_cat_l, pm_obj, pm_arr, pm_opt, pm_ird, pm_aln, List.getElem?_cons_zero, List.getElem?_cons_succ, List.set_cons_zero, List.set_cons_succ, List.length_cons, List.length_nil, List.length_set, true_and, and_true, Nat.add_zero, Nat.zero_add, Nat.le_refl, Nat.reduceAdd, Nat.reduceLT, Nat.reduceLeDiff, Nat.zero_le, not_false_eq_true, not_true_eq_false, false_implies, implies_true, true_implies, Nat.zero_lt_succ, Nat.lt_add_one, lo, to]
  refine PM_use (c_Row_cut0 L.2.1 (d + 1)) ?_
  rintro v h1 l1 ⟨rfl, K1, K2⟩
  obtain ⟨L1, f1⟩ := L.ut K1 K2
  have lo1 := L1.1
  have do1 := L1.2.2.2.o
  show W_X5_idealHits _ _ _ _ _ _ _ _ _
  simp only [w_X5_idealHits_8, w_X5_idealHits_9, w_X5_idealHits_12, w_X5_idealHits_13, pm_1i_c, pm_2i_c, pm_1l_c, pm_2l_c, pm_1a_c, pm_ia_c, pm_iia_c, pm_va_c, pm_cp_c, pm_k0_c, pm_k1_c, pm_k2_c, pm_k3_c, pm_s1_c, pm_s2_c, pm_s3_c, pm_s4_c, pm_ri_c, pm_ra_c, pm_rn_c, pm_rk_i, pm_rk_z, pm_rk_a, pm_vk_i, pm_vk_z, pm_vk_a, pm_cti, pm_ctr, pm_ldi_z, pm_ldi_s, pm_lda_z, pm_lda_s, pm_cat_n, pm_cat_i, pm_cat_r, pm_cat_l, pm_obj, pm_arr, pm_opt, pm_ird, pm_aln, List.getElem?_cons_zero, List.getElem?_cons_succ, List.set_cons_zero, List.set_cons_succ, List.length_cons, List.length_nil, List.length_set, true_and, and_true, Nat.add_zero, Nat.zero_add, Nat.le_refl, Nat.reduceAdd, Nat.reduceLT, Nat.reduceLeDiff, Nat.zero_le, not_false_eq_true, not_true_eq_false, false_implies, implies_true, true_implies, Nat.zero_lt_succ, Nat.lt_add_one, pm_tl_n, pm_tl_s, sc_uL, lo1, do1, l1]
  refine PM_use (c_Row_cut0 L1.2.2.2 (d + 1)) ?_
  rintro v h2 l2 ⟨rfl, K3, K4⟩
  obtain ⟨L2, f2⟩ := L1.uu K3 K4
  show W_X5_idealHits _ _ _ _ _ _ _ _ _
  simp only [w_X5_idealHits_16, w_X5_idealHits_17, w_X5_idealHits_18, w_X5_idealHits_19, pm_1i_c, pm_2i_c, pm_1l_c, pm_2l_c, pm_1a_c, pm_ia_c, pm_iia_c, pm_va_c, pm_cp_c, pm_k0_c, pm_k1_c, pm_k2_c, pm_k3_c, pm_s1_c, pm_s2_c, pm_s3_c, pm_s4_c, pm_ri_c, pm_ra_c, pm_rn_c, pm_rk_i, pm_rk_z, pm_rk_a, pm_vk_i, pm_vk_z, pm_vk_a, pm_cti, pm_ctr, pm_ldi_z, pm_ldi_s, pm_lda_z, pm_lda_s, pm_cat_n, pm_cat_i, pm_cat_r, pm_cat_l, pm_obj, pm_arr, pm_opt, pm_ird, pm_aln, List.getElem?_cons_zero, List.getElem?_cons_succ, List.set_cons_zero, List.set_cons_succ, List.length_cons, List.length_nil, List.length_set, true_and, and_true, Nat.add_zero, Nat.zero_add, Nat.le_refl, Nat.reduceAdd, Nat.reduceLT, Nat.reduceLeDiff, Nat.zero_le, not_false_eq_true, not_true_eq_false, false_implies, implies_true, true_implies, Nat.zero_lt_succ, Nat.lt_add_one, pm_tl_n, pm_tl_s, sc_uL]
  exact loop xs.length 0 rfl (by omega) h2 _ _ _ _ L2 (by rw [l2, l1]; rfl) (f1.tr f2)
theorem app_take {l : List Int32} {cap : Nat} {x : Int32} : (if (l.take cap).length < cap then l.take cap ++ [x] else l.take cap) = (l ++ [x]).take cap := by
  rw [List.length_take]
  by_cases c : l.length < cap
  · rw [if_pos (by omega), List.take_of_length_le (by omega), List.take_of_length_le (by rw [List.length_append]; simp; omega)]
  · rw [if_neg (by omega), List.take_append_of_le_length (by omega)]
theorem c_Row_appT {r cap : Nat} (H : rw_ h r cap (l.take cap)) (x : Int32) (d : Nat) : PM (d + 1) 60 [.ref r, .int x] h (fun v h' => v = none ∧ rw_ h' r cap ((l ++ [x]).take cap) ∧ fr2 h h' r) := by
  have K := c_Row_append H x d
  rw [app_take] at K
  exact K
theorem c_Lb_writeNumber (H : rw_ h W 600 (l.take 600)) (x : Int32) (d : Nat) : PM (d + 2) 54 [.ref W, .int x] h (fun v h' => v = none ∧ rw_ h' W 600 ((l ++ wnF x).take 600) ∧ fr2 h h' W) := by
  refine en_X5_writeNumber rfl rfl ?_
  have step : ∀ (u u' : Int32), 0 < u → ¬ u = 0 → u / 10 = u' → ∀ (hh : pmH) (m : List Int32), (∀ h2, rw_ h2 W 600 ((m ++ wnD x u).take 600) → h2.length = h.length → fr2 h h2 W → W_X5_writeNumber (d + 1) (h.length + 0) 0 (fun v h' => v = none ∧ rw_ h' W 600 ((l ++ wnF x).take 600) ∧ fr2 h h' W) 4 [some (.ref W), some (.int x), some (.int u')] [] h2 0) → rw_ hh W 600 (m.take 600) → hh.length = h.length → fr2 h hh W → W_X5_writeNumber (d + 1) (h.length + 0) 0 (fun v h' => v = none ∧ rw_ h' W 600 ((l ++ wnF x).take 600) ∧ fr2 h h' W) 4 [some (.ref W), some (.int x), some (.int u)] [] hh 0 := by
    intro u u' hu hu0 hu' hh m cont R q1 q2
    have ro := R.o
    have e10 : ¬ (10 : Int32) = 0 := by decide
    have app : ¬ x < u ∨ u = 1 → PM (d + 1) 60 [.ref W, .int (48 + (x / u - x / u / 10 * 10))] hh (fun v h2 => V_X5_writeNumber (d + 1) (h.length + 0) 0 (fun v h' => v = none ∧ rw_ h' W 600 ((l ++ wnF x).take 600) ∧ fr2 h h' W) 31 [some (.ref W), some (.int x), some (.int u)] (v.toList ++ []) h2 (0 + 0)) := by
      intro c
      refine PM_use (c_Row_appT R (48 + (x / u - x / u / 10 * 10)) d) ?_
      rintro v h2 l2 ⟨rfl, K1, K2⟩
      show W_X5_writeNumber _ _ _ _ _ _ _ _ _
      simp only [w_X5_writeNumber_31, w_X5_writeNumber_32, w_X5_writeNumber_34, w_X5_writeNumber_35, w_X5_writeNumber_36, pm_1i_c, pm_2i_c, pm_1l_c, pm_2l_c, pm_1a_c, pm_ia_c, pm_iia_c, pm_va_c, pm_cp_c, pm_k0_c, pm_k1_c, pm_k2_c, pm_k3_c, pm_s1_c, pm_s2_c, pm_s3_c, pm_s4_c, pm_ri_c, pm_ra_c, pm_rn_c, pm_rk_i, pm_rk_z, pm_rk_a, pm_vk_i, pm_vk_z, pm_vk_a, pm_cti, pm_ctr, pm_ldi_z, pm_ldi_s, pm_lda_z, pm_lda_s, pm_cat_n, pm_cat_i, pm_cat_r, pm_cat_l, pm_obj, pm_arr, pm_opt, pm_ird, pm_aln, List.getElem?_cons_zero, List.getElem?_cons_succ, List.set_cons_zero, List.set_cons_succ, List.length_cons, List.length_nil, List.length_set, true_and, and_true, Nat.add_zero, Nat.zero_add, Nat.le_refl, Nat.reduceAdd, Nat.reduceLT, Nat.reduceLeDiff, Nat.zero_le, not_false_eq_true, not_true_eq_false, false_implies, implies_true, true_implies, Nat.zero_lt_succ, Nat.lt_add_one, pm_tl_n, pm_tl_s, sc_uL, hu', e10]
      refine cont h2 ?_ (by rw [l2, q1]; rfl) (q2.tr K2)
      unfold wnD
      rw [if_pos c]
      exact K1
    rw [w_X5_writeNumber_4]
    simp only [w_X5_writeNumber_5, w_X5_writeNumber_8, w_X5_writeNumber_9, w_X5_writeNumber_10, w_X5_writeNumber_13, w_X5_writeNumber_14, w_X5_writeNumber_15, w_X5_writeNumber_18, w_X5_writeNumber_19, w_X5_writeNumber_21, w_X5_writeNumber_22, w_X5_writeNumber_23, w_X5_writeNumber_24, w_X5_writeNumber_26, w_X5_writeNumber_27, w_X5_writeNumber_28, w_X5_writeNumber_31, w_X5_writeNumber_32, w_X5_writeNumber_34, w_X5_writeNumber_35, w_X5_writeNumber_36, pm_1i_c, pm_2i_c, pm_1l_c, pm_2l_c, pm_1a_c, pm_ia_c, pm_iia_c, pm_va_c, pm_cp_c, pm_k0_c, pm_k1_c, pm_k2_c, pm_k3_c, pm_s1_c, pm_s2_c, pm_s3_c, pm_s4_c, pm_ri_c, pm_ra_c, pm_rn_c, pm_rk_i, pm_rk_z, pm_rk_a, pm_vk_i, pm_vk_z, pm_vk_a, pm_cti, pm_ctr, pm_ldi_z, pm_ldi_s, pm_lda_z, pm_lda_s, pm_cat_n, pm_cat_i, pm_cat_r, pm_cat_l, pm_obj, pm_arr, pm_opt, pm_ird, pm_aln, List.getElem?_cons_zero, List.getElem?_cons_succ, List.set_cons_zero, List.set_cons_succ, List.length_cons, List.length_nil, List.length_set, true_and, and_true, Nat.add_zero, Nat.zero_add, Nat.le_refl, Nat.reduceAdd, Nat.reduceLT, Nat.reduceLeDiff, Nat.zero_le, not_false_eq_true, not_true_eq_false, false_implies, implies_true, true_implies, Nat.zero_lt_succ, Nat.lt_add_one, hu, ro, q1, hu0, e10, hu']
    refine ⟨fun c => app (Or.inl c), fun c => ⟨fun c2 => ?_, fun c2 => app (Or.inr c2)⟩⟩
    refine cont hh ?_ q1 q2
    unfold wnD
    rw [if_neg (fun z => z.elim (fun y => y c) c2), List.append_nil]
    exact R
  have fin : ∀ h2, rw_ h2 W 600 (((((((l ++ wnD x 10000) ++ wnD x 1000) ++ wnD x 100) ++ wnD x 10) ++ wnD x 1)).take 600) → h2.length = h.length → fr2 h h2 W → W_X5_writeNumber (d + 1) (h.length + 0) 0 (fun v h' => v = none ∧ rw_ h' W 600 ((l ++ wnF x).take 600) ∧ fr2 h h' W) 4 [some (.ref W), some (.int x), some (.int 0)] [] h2 0 := by
    intro h2 R q1 q2
    rw [w_X5_writeNumber_4]
    simp only [w_X5_writeNumber_5, w_X5_writeNumber_8, w_X5_writeNumber_9, w_X5_writeNumber_10, w_X5_writeNumber_13, w_X5_writeNumber_14, w_X5_writeNumber_15, w_X5_writeNumber_18, w_X5_writeNumber_19, w_X5_writeNumber_21, w_X5_writeNumber_22, w_X5_writeNumber_23, w_X5_writeNumber_24, w_X5_writeNumber_26, w_X5_writeNumber_27, w_X5_writeNumber_28, w_X5_writeNumber_31, w_X5_writeNumber_32, w_X5_writeNumber_34, w_X5_writeNumber_35, w_X5_writeNumber_36, w_X5_writeNumber_39, pm_1i_c, pm_2i_c, pm_1l_c, pm_2l_c, pm_1a_c, pm_ia_c, pm_iia_c, pm_va_c, pm_cp_c, pm_k0_c, pm_k1_c, pm_k2_c, pm_k3_c, pm_s1_c, pm_s2_c, pm_s3_c, pm_s4_c, pm_ri_c, pm_ra_c, pm_rn_c, pm_rk_i, pm_rk_z, pm_rk_a, pm_vk_i, pm_vk_z, pm_vk_a, pm_cti, pm_ctr, pm_ldi_z, pm_ldi_s, pm_lda_z, pm_lda_s, pm_cat_n, pm_cat_i, pm_cat_r, pm_cat_l, pm_obj, pm_arr, pm_opt, pm_ird, pm_aln, List.getElem?_cons_zero, List.getElem?_cons_succ, List.set_cons_zero, List.set_cons_succ, List.length_cons, List.length_nil, List.length_set, true_and, and_true, Nat.add_zero, Nat.zero_add, Nat.le_refl, Nat.reduceAdd, Nat.reduceLT, Nat.reduceLeDiff, Nat.zero_le, not_false_eq_true, not_true_eq_false, false_implies, implies_true, true_implies, Nat.zero_lt_succ, Nat.lt_add_one, show ¬ (0 : Int32) < 0 by decide, q1]
    refine ⟨?_, q2⟩
    unfold wnF
    simp only [List.append_assoc] at R
    exact R
  simp only [w_X5_writeNumber_0, w_X5_writeNumber_3, pm_1i_c, pm_2i_c, pm_1l_c, pm_2l_c, pm_1a_c, pm_ia_c, pm_iia_c, pm_va_c, pm_cp_c, pm_k0_c, pm_k1_c, pm_k2_c, pm_k3_c, pm_s1_c, pm_s2_c, pm_s3_c, pm_s4_c, pm_ri_c, pm_ra_c, pm_rn_c, pm_rk_i, pm_rk_z, pm_rk_a, pm_vk_i, pm_vk_z, pm_vk_a, pm_cti, pm_ctr, pm_ldi_z, pm_ldi_s, pm_lda_z, pm_lda_s, pm_cat_n, pm_cat_i, pm_cat_r, pm_cat_l, pm_obj, pm_arr, pm_opt, pm_ird, pm_aln, List.getElem?_cons_zero, List.getElem?_cons_succ, List.set_cons_zero, List.set_cons_succ, List.length_cons, List.length_nil, List.length_set, true_and, and_true, Nat.add_zero, Nat.zero_add, Nat.le_refl, Nat.reduceAdd, Nat.reduceLT, Nat.reduceLeDiff, Nat.zero_le, not_false_eq_true, not_true_eq_false, false_implies, implies_true, true_implies, Nat.zero_lt_succ, Nat.lt_add_one]
  exact step 10000 1000 (by decide) (by decide) (by decide) h l (fun h2 R q1 q2 => step 1000 100 (by decide) (by decide) (by decide) h2 _ (fun h2 R q1 q2 => step 100 10 (by decide) (by decide) (by decide) h2 _ (fun h2 R q1 q2 => step 10 1 (by decide) (by decide) (by decide) h2 _ (fun h2 R q1 q2 => step 1 0 (by decide) (by decide) (by decide) h2 _ fin R q1 q2) R q1 q2) R q1 q2) R q1 q2) H rfl fr2.rf
theorem rnG_le (xs : List Int32) (i : Nat) (s : Int32) : ∀ (f n : Nat), f = xs.length - (i + n) → i + n ≤ xs.length → i + rnG xs i s f n ≤ xs.length ∧ n ≤ rnG xs i s f n
  | 0, n, _, h => ⟨h, Nat.le_refl _⟩
  | f + 1, n, hf, h => by
    unfold rnG
    split
    · have := rnG_le xs i s f (n + 1) (by omega) (by omega)
      omega
    · exact ⟨h, Nat.le_refl _⟩
theorem rnF_le {xs : List Int32} {i : Nat} (hi : i < xs.length) (s : Int32) : i + rnF xs i s ≤ xs.length ∧ 1 ≤ rnF xs i s := rnG_le xs i s _ 1 rfl (by omega)
theorem rnG_s (xs : List Int32) (i : Nat) (s : Int32) (f n : Nat) : rnG xs i s (f + 1) n = if xs.getD (i + n) (-1) = xs.getD i (-1) + nI n * s then rnG xs i s f (n + 1) else n := rfl
theorem c_Lb_runFrom (R : rw_ h P 100 xs) {i : Nat} (hi : i < xs.length) (s : Int32) (d : Nat) : PM (d + 2) 53 [.ref P, .int (nI i), .int s] h (fun v h' => v = some (.int (nI (rnF xs i s))) ∧ h' = h) := by
  have ro := R.o
  have len := R.le
  refine en_X5_runFrom rfl rfl rfl ?_
  have loop : ∀ f n, f = xs.length - (i + n) → i + n ≤ xs.length → rnG xs i s f n = rnF xs i s → W_X5_runFrom (d + 1) (h.length + 0) 0 (fun v h' => v = some (.int (nI (rnF xs i s))) ∧ h' = h) 2 [some (.ref P), some (.int (nI i)), some (.int s), some (.int (nI n))] [] h 0 := by
    intro f
    induction f with
    | zero =>
      intro n hn hk e
      have e1 : ¬ nI (i + n) < nI xs.length := nI_nlt (by omega) (by omega)
      rw [w_X5_runFrom_2]
      simp only [w_X5_runFrom_3, w_X5_runFrom_4, w_X5_runFrom_5, w_X5_runFrom_6, w_X5_runFrom_9, w_X5_runFrom_12, w_X5_runFrom_13, w_X5_runFrom_14, w_X5_runFrom_15, w_X5_runFrom_16, w_X5_runFrom_19, w_X5_runFrom_20, w_X5_runFrom_21, w_X5_runFrom_24, w_X5_runFrom_25, w_X5_runFrom_26, w_X5_runFrom_27, w_X5_runFrom_28, w_X5_runFrom_31, w_X5_runFrom_34, w_X5_runFrom_37, w_X5_runFrom_38, pm_1i_c, pm_2i_c, pm_1l_c, pm_2l_c, pm_1a_c, pm_ia_c, pm_iia_c, pm_va_c, pm_cp_c, pm_k0_c, pm_k1_c, pm_k2_c, pm_k3_c, pm_s1_c, pm_s2_c, pm_s3_c, pm_s4_c, pm_ri_c, pm_ra_c, pm_rn_c, pm_rk_i, pm_rk_z, pm_rk_a, pm_vk_i, pm_vk_z, pm_vk_a, pm_cti, pm_ctr, pm_ldi_z, pm_ldi_s, pm_lda_z, pm_lda_s, pm_cat_n, pm_cat_i, pm_cat_r, pm_cat_l, pm_obj, pm_arr, pm_opt, pm_ird, pm_aln, List.getElem?_cons_zero, List.getElem?_cons_succ, List.set_cons_zero, List.set_cons_succ, List.length_cons, List.length_nil, List.length_set, true_and, and_true, Nat.add_zero, Nat.zero_add, Nat.le_refl, Nat.reduceAdd, Nat.reduceLT, Nat.reduceLeDiff, Nat.zero_le, not_false_eq_true, not_true_eq_false, false_implies, implies_true, true_implies, Nat.zero_lt_succ, Nat.lt_add_one, ro, nI_add]
      refine PM_use (c_Row_size R d) ?_
      rintro v h1 l1 ⟨rfl, rfl⟩
      show W_X5_runFrom _ _ _ _ _ _ _ _ _
      simp only [w_X5_runFrom_9, w_X5_runFrom_12, w_X5_runFrom_13, w_X5_runFrom_14, w_X5_runFrom_15, w_X5_runFrom_16, w_X5_runFrom_19, w_X5_runFrom_20, w_X5_runFrom_21, w_X5_runFrom_24, w_X5_runFrom_25, w_X5_runFrom_26, w_X5_runFrom_27, w_X5_runFrom_28, w_X5_runFrom_31, w_X5_runFrom_34, w_X5_runFrom_37, w_X5_runFrom_38, pm_1i_c, pm_2i_c, pm_1l_c, pm_2l_c, pm_1a_c, pm_ia_c, pm_iia_c, pm_va_c, pm_cp_c, pm_k0_c, pm_k1_c, pm_k2_c, pm_k3_c, pm_s1_c, pm_s2_c, pm_s3_c, pm_s4_c, pm_ri_c, pm_ra_c, pm_rn_c, pm_rk_i, pm_rk_z, pm_rk_a, pm_vk_i, pm_vk_z, pm_vk_a, pm_cti, pm_ctr, pm_ldi_z, pm_ldi_s, pm_lda_z, pm_lda_s, pm_cat_n, pm_cat_i, pm_cat_r, pm_cat_l, pm_obj, pm_arr, pm_opt, pm_ird, pm_aln, List.getElem?_cons_zero, List.getElem?_cons_succ, List.set_cons_zero, List.set_cons_succ, List.length_cons, List.length_nil, List.length_set, true_and, and_true, Nat.add_zero, Nat.zero_add, Nat.le_refl, Nat.reduceAdd, Nat.reduceLT, Nat.reduceLeDiff, Nat.zero_le, not_false_eq_true, not_true_eq_false, false_implies, implies_true, true_implies, Nat.zero_lt_succ, Nat.lt_add_one, pm_tl_n, pm_tl_s, sc_uL, e1]
      rw [← e]
      rfl
    | succ f ih =>
      intro n hn hk e
      have e1 : nI (i + n) < nI xs.length := nI_lt (by omega) (by omega)
      rw [rnG_s] at e
      rw [w_X5_runFrom_2]
      simp only [w_X5_runFrom_3, w_X5_runFrom_4, w_X5_runFrom_5, w_X5_runFrom_6, w_X5_runFrom_9, w_X5_runFrom_12, w_X5_runFrom_13, w_X5_runFrom_14, w_X5_runFrom_15, w_X5_runFrom_16, w_X5_runFrom_19, w_X5_runFrom_20, w_X5_runFrom_21, w_X5_runFrom_24, w_X5_runFrom_25, w_X5_runFrom_26, w_X5_runFrom_27, w_X5_runFrom_28, w_X5_runFrom_31, w_X5_runFrom_34, w_X5_runFrom_37, w_X5_runFrom_38, pm_1i_c, pm_2i_c, pm_1l_c, pm_2l_c, pm_1a_c, pm_ia_c, pm_iia_c, pm_va_c, pm_cp_c, pm_k0_c, pm_k1_c, pm_k2_c, pm_k3_c, pm_s1_c, pm_s2_c, pm_s3_c, pm_s4_c, pm_ri_c, pm_ra_c, pm_rn_c, pm_rk_i, pm_rk_z, pm_rk_a, pm_vk_i, pm_vk_z, pm_vk_a, pm_cti, pm_ctr, pm_ldi_z, pm_ldi_s, pm_lda_z, pm_lda_s, pm_cat_n, pm_cat_i, pm_cat_r, pm_cat_l, pm_obj, pm_arr, pm_opt, pm_ird, pm_aln, List.getElem?_cons_zero, List.getElem?_cons_succ, List.set_cons_zero, List.set_cons_succ, List.length_cons, List.length_nil, List.length_set, true_and, and_true, Nat.add_zero, Nat.zero_add, Nat.le_refl, Nat.reduceAdd, Nat.reduceLT, Nat.reduceLeDiff, Nat.zero_le, not_false_eq_true, not_true_eq_false, false_implies, implies_true, true_implies, Nat.zero_lt_succ, Nat.lt_add_one, ro, nI_add]
      refine PM_use (c_Row_size R d) ?_
      rintro v h1 l1 ⟨rfl, rfl⟩
      show W_X5_runFrom _ _ _ _ _ _ _ _ _
      simp only [w_X5_runFrom_9, w_X5_runFrom_12, w_X5_runFrom_13, w_X5_runFrom_14, w_X5_runFrom_15, w_X5_runFrom_16, w_X5_runFrom_19, w_X5_runFrom_20, w_X5_runFrom_21, w_X5_runFrom_24, w_X5_runFrom_25, w_X5_runFrom_26, w_X5_runFrom_27, w_X5_runFrom_28, w_X5_runFrom_31, w_X5_runFrom_34, w_X5_runFrom_37, w_X5_runFrom_38, pm_1i_c, pm_2i_c, pm_1l_c, pm_2l_c, pm_1a_c, pm_ia_c, pm_iia_c, pm_va_c, pm_cp_c, pm_k0_c, pm_k1_c, pm_k2_c, pm_k3_c, pm_s1_c, pm_s2_c, pm_s3_c, pm_s4_c, pm_ri_c, pm_ra_c, pm_rn_c, pm_rk_i, pm_rk_z, pm_rk_a, pm_vk_i, pm_vk_z, pm_vk_a, pm_cti, pm_ctr, pm_ldi_z, pm_ldi_s, pm_lda_z, pm_lda_s, pm_cat_n, pm_cat_i, pm_cat_r, pm_cat_l, pm_obj, pm_arr, pm_opt, pm_ird, pm_aln, List.getElem?_cons_zero, List.getElem?_cons_succ, List.set_cons_zero, List.set_cons_succ, List.length_cons, List.length_nil, List.length_set, true_and, and_true, Nat.add_zero, Nat.zero_add, Nat.le_refl, Nat.reduceAdd, Nat.reduceLT, Nat.reduceLeDiff, Nat.zero_le, not_false_eq_true, not_true_eq_false, false_implies, implies_true, true_implies, Nat.zero_lt_succ, Nat.lt_add_one, pm_tl_n, pm_tl_s, sc_uL, e1, ro, nI_add]
      refine PM_use (c_Row_get R (nI (i + n)) d) ?_
      rintro v h1 l1 ⟨rfl, rfl⟩
      rw [rw_getN (by omega)]
      show W_X5_runFrom _ _ _ _ _ _ _ _ _
      simp only [w_X5_runFrom_19, w_X5_runFrom_20, w_X5_runFrom_21, w_X5_runFrom_24, w_X5_runFrom_25, w_X5_runFrom_26, w_X5_runFrom_27, w_X5_runFrom_28, w_X5_runFrom_31, w_X5_runFrom_34, w_X5_runFrom_37, w_X5_runFrom_38, pm_1i_c, pm_2i_c, pm_1l_c, pm_2l_c, pm_1a_c, pm_ia_c, pm_iia_c, pm_va_c, pm_cp_c, pm_k0_c, pm_k1_c, pm_k2_c, pm_k3_c, pm_s1_c, pm_s2_c, pm_s3_c, pm_s4_c, pm_ri_c, pm_ra_c, pm_rn_c, pm_rk_i, pm_rk_z, pm_rk_a, pm_vk_i, pm_vk_z, pm_vk_a, pm_cti, pm_ctr, pm_ldi_z, pm_ldi_s, pm_lda_z, pm_lda_s, pm_cat_n, pm_cat_i, pm_cat_r, pm_cat_l, pm_obj, pm_arr, pm_opt, pm_ird, pm_aln, List.getElem?_cons_zero, List.getElem?_cons_succ, List.set_cons_zero, List.set_cons_succ, List.length_cons, List.length_nil, List.length_set, true_and, and_true, Nat.add_zero, Nat.zero_add, Nat.le_refl, Nat.reduceAdd, Nat.reduceLT, Nat.reduceLeDiff, Nat.zero_le, not_false_eq_true, not_true_eq_false, false_implies, implies_true, true_implies, Nat.zero_lt_succ, Nat.lt_add_one, pm_tl_n, pm_tl_s, sc_uL, ro]
      refine PM_use (c_Row_get R (nI i) d) ?_
      rintro v h1 l1 ⟨rfl, rfl⟩
      rw [rw_getN (by omega)]
      show W_X5_runFrom _ _ _ _ _ _ _ _ _
      simp only [w_X5_runFrom_24, w_X5_runFrom_25, w_X5_runFrom_26, w_X5_runFrom_27, w_X5_runFrom_28, w_X5_runFrom_31, w_X5_runFrom_34, w_X5_runFrom_37, w_X5_runFrom_38, pm_1i_c, pm_2i_c, pm_1l_c, pm_2l_c, pm_1a_c, pm_ia_c, pm_iia_c, pm_va_c, pm_cp_c, pm_k0_c, pm_k1_c, pm_k2_c, pm_k3_c, pm_s1_c, pm_s2_c, pm_s3_c, pm_s4_c, pm_ri_c, pm_ra_c, pm_rn_c, pm_rk_i, pm_rk_z, pm_rk_a, pm_vk_i, pm_vk_z, pm_vk_a, pm_cti, pm_ctr, pm_ldi_z, pm_ldi_s, pm_lda_z, pm_lda_s, pm_cat_n, pm_cat_i, pm_cat_r, pm_cat_l, pm_obj, pm_arr, pm_opt, pm_ird, pm_aln, List.getElem?_cons_zero, List.getElem?_cons_succ, List.set_cons_zero, List.set_cons_succ, List.length_cons, List.length_nil, List.length_set, true_and, and_true, Nat.add_zero, Nat.zero_add, Nat.le_refl, Nat.reduceAdd, Nat.reduceLT, Nat.reduceLeDiff, Nat.zero_le, not_false_eq_true, not_true_eq_false, false_implies, implies_true, true_implies, Nat.zero_lt_succ, Nat.lt_add_one, pm_tl_n, pm_tl_s, sc_uL, nI_1]
      refine ⟨fun c => ?_, fun c => ?_⟩
      · rw [if_neg c] at e
        rw [← e]
      · rw [if_pos c] at e
        exact ih (n + 1) (by omega) (by omega) e
  simp only [w_X5_runFrom_0, w_X5_runFrom_1, pm_1i_c, pm_2i_c, pm_1l_c, pm_2l_c, pm_1a_c, pm_ia_c, pm_iia_c, pm_va_c, pm_cp_c, pm_k0_c, pm_k1_c, pm_k2_c, pm_k3_c, pm_s1_c, pm_s2_c, pm_s3_c, pm_s4_c, pm_ri_c, pm_ra_c, pm_rn_c, pm_rk_i, pm_rk_z, pm_rk_a, pm_vk_i, pm_vk_z, pm_vk_a, pm_cti, pm_ctr, pm_ldi_z, pm_ldi_s, pm_lda_z, pm_lda_s, pm_cat_n, pm_cat_i, pm_cat_r, pm_cat_l, pm_obj, pm_arr, pm_opt, pm_ird, pm_aln, List.getElem?_cons_zero, List.getElem?_cons_succ, List.set_cons_zero, List.set_cons_succ, List.length_cons, List.length_nil, List.length_set, true_and, and_true, Nat.add_zero, Nat.zero_add, Nat.le_refl, Nat.reduceAdd, Nat.reduceLT, Nat.reduceLeDiff, Nat.zero_le, not_false_eq_true, not_true_eq_false, false_implies, implies_true, true_implies, Nat.zero_lt_succ, Nat.lt_add_one]
  exact loop _ 1 rfl (by omega) rfl
set_option maxHeartbeats 2000000 in
theorem c_Lb_writeTo (R : rw_ h P 100 xs) (Z : rw_ h W 600 []) (nd : P + 1 < W ∨ W + 1 < P) {a : Nat} (d : Nat) : PM (d + 3) 52 [.ref a, .ref W, .ref P] h (fun v h' => v = none ∧ rw_ h' W 600 ((wtF xs).take 600) ∧ fr2 h h' W) := by
  have len := R.le
  refine en_X5_writeTo rfl rfl rfl ?_
  have loop : ∀ f n k, 100 - n = f → n ≤ 100 → k ≤ xs.length → ∀ (hh : pmH) (l : List Int32) (x5 x6 : Option Value), rw_ hh W 600 (l.take 600) → wtG xs f k l = wtF xs → hh.length = h.length → fr2 h hh W → W_X5_writeTo (d + 2) (h.length + 0) 0 (fun v h' => v = none ∧ rw_ h' W 600 ((wtF xs).take 600) ∧ fr2 h h' W) 5 [some (.ref a), some (.ref W), some (.ref P), some (.int (nI k)), some (.int (nI n)), x5, x6] [] hh 0 := by
    intro f
    induction f with
    | zero =>
      intro n k hn hn2 hk hh l x5 x6 Z1 e q1 q2
      have e1 : ¬ nI n < 100 := nI_nlt (b := 100) (by omega) (by omega)
      rw [w_X5_writeTo_5]
      simp only [w_X5_writeTo_7, w_X5_writeTo_9, w_X5_writeTo_12, w_X5_writeTo_13, w_X5_writeTo_14, w_X5_writeTo_17, w_X5_writeTo_20, w_X5_writeTo_21, w_X5_writeTo_24, w_X5_writeTo_25, w_X5_writeTo_27, w_X5_writeTo_30, w_X5_writeTo_31, w_X5_writeTo_32, w_X5_writeTo_33, w_X5_writeTo_36, w_X5_writeTo_39, w_X5_writeTo_40, w_X5_writeTo_41, w_X5_writeTo_42, w_X5_writeTo_45, w_X5_writeTo_47, w_X5_writeTo_48, w_X5_writeTo_49, w_X5_writeTo_50, w_X5_writeTo_53, w_X5_writeTo_55, w_X5_writeTo_57, w_X5_writeTo_58, w_X5_writeTo_61, w_X5_writeTo_62, w_X5_writeTo_64, w_X5_writeTo_67, w_X5_writeTo_68, w_X5_writeTo_70, w_X5_writeTo_73, w_X5_writeTo_74, w_X5_writeTo_76, w_X5_writeTo_77, w_X5_writeTo_78, w_X5_writeTo_81, w_X5_writeTo_83, w_X5_writeTo_84, w_X5_writeTo_87, w_X5_writeTo_88, w_X5_writeTo_90, w_X5_writeTo_93, w_X5_writeTo_94, w_X5_writeTo_95, w_X5_writeTo_96, w_X5_writeTo_99, w_X5_writeTo_101, w_X5_writeTo_102, w_X5_writeTo_103, w_X5_writeTo_104, w_X5_writeTo_107, w_X5_writeTo_108, w_X5_writeTo_110, w_X5_writeTo_111, w_X5_writeTo_112, w_X5_writeTo_115, w_X5_writeTo_118, w_X5_writeTo_121, w_X5_writeTo_124, pm_1i_c, pm_2i_c, pm_1l_c, pm_2l_c, pm_1a_c, pm_ia_c, pm_iia_c, pm_va_c, pm_cp_c, pm_k0_c, pm_k1_c, pm_k2_c, pm_k3_c, pm_s1_c, pm_s2_c, pm_s3_c, pm_s4_c, pm_ri_c, pm_ra_c, pm_rn_c, pm_rk_i, pm_rk_z, pm_rk_a, pm_vk_i, pm_vk_z, pm_vk_a, pm_cti, pm_ctr, pm_ldi_z, pm_ldi_s, pm_lda_z, pm_lda_s, pm_cat_n, pm_cat_i, pm_cat_r, pm_cat_l, pm_obj, pm_arr, pm_opt, pm_ird, pm_aln, List.getElem?_cons_zero, List.getElem?_cons_succ, List.set_cons_zero, List.set_cons_succ, List.length_cons, List.length_nil, List.length_set, true_and, and_true, Nat.add_zero, Nat.zero_add, Nat.le_refl, Nat.reduceAdd, Nat.reduceLT, Nat.reduceLeDiff, Nat.zero_le, not_false_eq_true, not_true_eq_false, false_implies, implies_true, true_implies, Nat.zero_lt_succ, Nat.lt_add_one, e1, q1]
      rw [← e]
      exact ⟨Z1, q2⟩
    | succ f ih =>
      intro n k hn hn2 hk hh l x5 x6 Z1 e q1 q2
      have e1 : nI n < 100 := nI_lt (b := 100) (by omega) (by omega)
      have R1 : rw_ hh P 100 xs := R.kept (q2 _ (by omega) (by omega)) (q2 _ (by omega) (by omega))
      have ro := R1.o
      have zo := Z1.o
      rw [wtG_s] at e
      rw [w_X5_writeTo_5]
      simp only [w_X5_writeTo_7, w_X5_writeTo_9, w_X5_writeTo_12, w_X5_writeTo_13, w_X5_writeTo_14, pm_1i_c, pm_2i_c, pm_1l_c, pm_2l_c, pm_1a_c, pm_ia_c, pm_iia_c, pm_va_c, pm_cp_c, pm_k0_c, pm_k1_c, pm_k2_c, pm_k3_c, pm_s1_c, pm_s2_c, pm_s3_c, pm_s4_c, pm_ri_c, pm_ra_c, pm_rn_c, pm_rk_i, pm_rk_z, pm_rk_a, pm_vk_i, pm_vk_z, pm_vk_a, pm_cti, pm_ctr, pm_ldi_z, pm_ldi_s, pm_lda_z, pm_lda_s, pm_cat_n, pm_cat_i, pm_cat_r, pm_cat_l, pm_obj, pm_arr, pm_opt, pm_ird, pm_aln, List.getElem?_cons_zero, List.getElem?_cons_succ, List.set_cons_zero, List.set_cons_succ, List.length_cons, List.length_nil, List.length_set, true_and, and_true, Nat.add_zero, Nat.zero_add, Nat.le_refl, Nat.reduceAdd, Nat.reduceLT, Nat.reduceLeDiff, Nat.zero_le, not_false_eq_true, not_true_eq_false, false_implies, implies_true, true_implies, Nat.zero_lt_succ, Nat.lt_add_one, e1, ro, q1]
      refine PM_use (c_Row_size R1 (d + 1)) ?_
      rintro v h1 l1 ⟨rfl, rfl⟩
      by_cases c : k < xs.length
      · have e2 : nI k < nI xs.length := nI_lt c (by omega)
        rw [if_pos c] at e
        have rs := rnF_le c 0
        have ru := rnF_le c 1
        -- behind the number itself
        have go2 : ∀ (h3 : pmH), rw_ h3 W 600 ((wtA l k (xs.getD k (-1))).take 600) → h3.length = h.length → fr2 h h3 W → W_X5_writeTo (d + 2) (h.length + 0) 0 (fun v h' => v = none ∧ rw_ h' W 600 ((wtF xs).take 600) ∧ fr2 h h' W) 39 [some (.ref a), some (.ref W), some (.ref P), some (.int (nI k)), some (.int (nI n)), x5, x6] [] h3 0 := by
          intro h3 Z3 q3 q4
          have R3 : rw_ h3 P 100 xs := R.kept (q4 _ (by omega) (by omega)) (q4 _ (by omega) (by omega))
          have ro3 := R3.o
          have zo3 := Z3.o
          simp only [w_X5_writeTo_39, w_X5_writeTo_40, w_X5_writeTo_41, w_X5_writeTo_42, pm_1i_c, pm_2i_c, pm_1l_c, pm_2l_c, pm_1a_c, pm_ia_c, pm_iia_c, pm_va_c, pm_cp_c, pm_k0_c, pm_k1_c, pm_k2_c, pm_k3_c, pm_s1_c, pm_s2_c, pm_s3_c, pm_s4_c, pm_ri_c, pm_ra_c, pm_rn_c, pm_rk_i, pm_rk_z, pm_rk_a, pm_vk_i, pm_vk_z, pm_vk_a, pm_cti, pm_ctr, pm_ldi_z, pm_ldi_s, pm_lda_z, pm_lda_s, pm_cat_n, pm_cat_i, pm_cat_r, pm_cat_l, pm_obj, pm_arr, pm_opt, pm_ird, pm_aln, List.getElem?_cons_zero, List.getElem?_cons_succ, List.set_cons_zero, List.set_cons_succ, List.length_cons, List.length_nil, List.length_set, true_and, and_true, Nat.add_zero, Nat.zero_add, Nat.le_refl, Nat.reduceAdd, Nat.reduceLT, Nat.reduceLeDiff, Nat.zero_le, not_false_eq_true, not_true_eq_false, false_implies, implies_true, true_implies, Nat.zero_lt_succ, Nat.lt_add_one, ro3, q3]
          refine PM_use (c_Lb_runFrom R3 c 0 d) ?_
          rintro v h1 l1 ⟨rfl, rfl⟩
          show W_X5_writeTo _ _ _ _ _ _ _ _ _
          simp only [w_X5_writeTo_45, w_X5_writeTo_47, w_X5_writeTo_48, w_X5_writeTo_49, w_X5_writeTo_50, pm_1i_c, pm_2i_c, pm_1l_c, pm_2l_c, pm_1a_c, pm_ia_c, pm_iia_c, pm_va_c, pm_cp_c, pm_k0_c, pm_k1_c, pm_k2_c, pm_k3_c, pm_s1_c, pm_s2_c, pm_s3_c, pm_s4_c, pm_ri_c, pm_ra_c, pm_rn_c, pm_rk_i, pm_rk_z, pm_rk_a, pm_vk_i, pm_vk_z, pm_vk_a, pm_cti, pm_ctr, pm_ldi_z, pm_ldi_s, pm_lda_z, pm_lda_s, pm_cat_n, pm_cat_i, pm_cat_r, pm_cat_l, pm_obj, pm_arr, pm_opt, pm_ird, pm_aln, List.getElem?_cons_zero, List.getElem?_cons_succ, List.set_cons_zero, List.set_cons_succ, List.length_cons, List.length_nil, List.length_set, true_and, and_true, Nat.add_zero, Nat.zero_add, Nat.le_refl, Nat.reduceAdd, Nat.reduceLT, Nat.reduceLeDiff, Nat.zero_le, not_false_eq_true, not_true_eq_false, false_implies, implies_true, true_implies, Nat.zero_lt_succ, Nat.lt_add_one, pm_tl_n, pm_tl_s, sc_uL, ro3, q3]
          refine PM_use (c_Lb_runFrom R3 c 1 d) ?_
          rintro v h1 l1 ⟨rfl, rfl⟩
          have w1 : (1 : Int32) < nI (rnF xs k 0) ↔ 1 < rnF xs k 0 := nI_ltI (a := 1) (b := rnF xs k 0) (by omega) (by omega)
          have w2 : (1 : Int32) < nI (rnF xs k 1) ↔ 1 < rnF xs k 1 := nI_ltI (a := 1) (b := rnF xs k 1) (by omega) (by omega)
          show W_X5_writeTo _ _ _ _ _ _ _ _ _
          simp only [w_X5_writeTo_53, w_X5_writeTo_55, w_X5_writeTo_57, w_X5_writeTo_58, w_X5_writeTo_61, w_X5_writeTo_62, w_X5_writeTo_64, w_X5_writeTo_81, w_X5_writeTo_83, w_X5_writeTo_84, w_X5_writeTo_87, w_X5_writeTo_88, w_X5_writeTo_90, w_X5_writeTo_115, w_X5_writeTo_118, w_X5_writeTo_121, pm_1i_c, pm_2i_c, pm_1l_c, pm_2l_c, pm_1a_c, pm_ia_c, pm_iia_c, pm_va_c, pm_cp_c, pm_k0_c, pm_k1_c, pm_k2_c, pm_k3_c, pm_s1_c, pm_s2_c, pm_s3_c, pm_s4_c, pm_ri_c, pm_ra_c, pm_rn_c, pm_rk_i, pm_rk_z, pm_rk_a, pm_vk_i, pm_vk_z, pm_vk_a, pm_cti, pm_ctr, pm_ldi_z, pm_ldi_s, pm_lda_z, pm_lda_s, pm_cat_n, pm_cat_i, pm_cat_r, pm_cat_l, pm_obj, pm_arr, pm_opt, pm_ird, pm_aln, List.getElem?_cons_zero, List.getElem?_cons_succ, List.set_cons_zero, List.set_cons_succ, List.length_cons, List.length_nil, List.length_set, true_and, and_true, Nat.add_zero, Nat.zero_add, Nat.le_refl, Nat.reduceAdd, Nat.reduceLT, Nat.reduceLeDiff, Nat.zero_le, not_false_eq_true, not_true_eq_false, false_implies, implies_true, true_implies, Nat.zero_lt_succ, Nat.lt_add_one, pm_tl_n, pm_tl_s, sc_uL, w1, w2, zo3, q3, nI_1]
          refine ⟨fun c1 => ?_, fun c1 => ?_⟩
          · rw [if_neg c1] at e
            refine ⟨fun c2 => ?_, fun c2 => ?_⟩
            · rw [if_neg c2] at e
              exact ih (n + 1) (k + 1) (by omega) (by omega) (by omega) h1 _ _ _ Z3 e q3 q4
            · rw [if_pos c2] at e
              refine PM_use (c_Row_appT Z3 45 (d + 1)) ?_
              rintro v h4 l4 ⟨rfl, Z4, f4⟩
              have R4 : rw_ h4 P 100 xs := R3.kept (f4 _ (by omega) (by omega)) (f4 _ (by omega) (by omega))
              have ro4 := R4.o
              have zo4 := Z4.o
              show W_X5_writeTo _ _ _ _ _ _ _ _ _
              simp only [w_X5_writeTo_93, w_X5_writeTo_94, w_X5_writeTo_95, w_X5_writeTo_96, pm_1i_c, pm_2i_c, pm_1l_c, pm_2l_c, pm_1a_c, pm_ia_c, pm_iia_c, pm_va_c, pm_cp_c, pm_k0_c, pm_k1_c, pm_k2_c, pm_k3_c, pm_s1_c, pm_s2_c, pm_s3_c, pm_s4_c, pm_ri_c, pm_ra_c, pm_rn_c, pm_rk_i, pm_rk_z, pm_rk_a, pm_vk_i, pm_vk_z, pm_vk_a, pm_cti, pm_ctr, pm_ldi_z, pm_ldi_s, pm_lda_z, pm_lda_s, pm_cat_n, pm_cat_i, pm_cat_r, pm_cat_l, pm_obj, pm_arr, pm_opt, pm_ird, pm_aln, List.getElem?_cons_zero, List.getElem?_cons_succ, List.set_cons_zero, List.set_cons_succ, List.length_cons, List.length_nil, List.length_set, true_and, and_true, Nat.add_zero, Nat.zero_add, Nat.le_refl, Nat.reduceAdd, Nat.reduceLT, Nat.reduceLeDiff, Nat.zero_le, not_false_eq_true, not_true_eq_false, false_implies, implies_true, true_implies, Nat.zero_lt_succ, Nat.lt_add_one, pm_tl_n, pm_tl_s, sc_uL, ro4, zo4, l4, q3]
              refine PM_use (c_Row_get R4 (nI k) (d + 1)) ?_
              rintro v h5 l5 ⟨rfl, rfl⟩
              rw [rw_getN (by omega)]
              show W_X5_writeTo _ _ _ _ _ _ _ _ _
              simp only [w_X5_writeTo_99, w_X5_writeTo_101, w_X5_writeTo_102, w_X5_writeTo_103, w_X5_writeTo_104, pm_1i_c, pm_2i_c, pm_1l_c, pm_2l_c, pm_1a_c, pm_ia_c, pm_iia_c, pm_va_c, pm_cp_c, pm_k0_c, pm_k1_c, pm_k2_c, pm_k3_c, pm_s1_c, pm_s2_c, pm_s3_c, pm_s4_c, pm_ri_c, pm_ra_c, pm_rn_c, pm_rk_i, pm_rk_z, pm_rk_a, pm_vk_i, pm_vk_z, pm_vk_a, pm_cti, pm_ctr, pm_ldi_z, pm_ldi_s, pm_lda_z, pm_lda_s, pm_cat_n, pm_cat_i, pm_cat_r, pm_cat_l, pm_obj, pm_arr, pm_opt, pm_ird, pm_aln, List.getElem?_cons_zero, List.getElem?_cons_succ, List.set_cons_zero, List.set_cons_succ, List.length_cons, List.length_nil, List.length_set, true_and, and_true, Nat.add_zero, Nat.zero_add, Nat.le_refl, Nat.reduceAdd, Nat.reduceLT, Nat.reduceLeDiff, Nat.zero_le, not_false_eq_true, not_true_eq_false, false_implies, implies_true, true_implies, Nat.zero_lt_succ, Nat.lt_add_one, pm_tl_n, pm_tl_s, sc_uL, ro4, zo4, l4, q3]
              refine PM_use (c_Lb_writeNumber Z4 (xs.getD k (-1) + nI (rnF xs k 1) - 1) d) ?_
              rintro v h5 l5 ⟨rfl, Z5, f5⟩
              show W_X5_writeTo _ _ _ _ _ _ _ _ _
              simp only [w_X5_writeTo_107, w_X5_writeTo_108, w_X5_writeTo_110, w_X5_writeTo_111, w_X5_writeTo_112, w_X5_writeTo_115, w_X5_writeTo_118, w_X5_writeTo_121, pm_1i_c, pm_2i_c, pm_1l_c, pm_2l_c, pm_1a_c, pm_ia_c, pm_iia_c, pm_va_c, pm_cp_c, pm_k0_c, pm_k1_c, pm_k2_c, pm_k3_c, pm_s1_c, pm_s2_c, pm_s3_c, pm_s4_c, pm_ri_c, pm_ra_c, pm_rn_c, pm_rk_i, pm_rk_z, pm_rk_a, pm_vk_i, pm_vk_z, pm_vk_a, pm_cti, pm_ctr, pm_ldi_z, pm_ldi_s, pm_lda_z, pm_lda_s, pm_cat_n, pm_cat_i, pm_cat_r, pm_cat_l, pm_obj, pm_arr, pm_opt, pm_ird, pm_aln, List.getElem?_cons_zero, List.getElem?_cons_succ, List.set_cons_zero, List.set_cons_succ, List.length_cons, List.length_nil, List.length_set, true_and, and_true, Nat.add_zero, Nat.zero_add, Nat.le_refl, Nat.reduceAdd, Nat.reduceLT, Nat.reduceLeDiff, Nat.zero_le, not_false_eq_true, not_true_eq_false, false_implies, implies_true, true_implies, Nat.zero_lt_succ, Nat.lt_add_one, pm_tl_n, pm_tl_s, sc_uL, nI_add, nI_1]
              exact ih (n + 1) (k + rnF xs k 1) (by omega) (by omega) (by omega) h5 _ _ _ Z5 e (by rw [l5, l4, q3]; rfl) ((q4.tr f4).tr f5)
          · rw [if_pos c1] at e
            refine PM_use (c_Row_appT Z3 42 (d + 1)) ?_
            rintro v h4 l4 ⟨rfl, Z4, f4⟩
            have zo4 := Z4.o
            show W_X5_writeTo _ _ _ _ _ _ _ _ _
            simp only [w_X5_writeTo_67, w_X5_writeTo_68, w_X5_writeTo_70, pm_1i_c, pm_2i_c, pm_1l_c, pm_2l_c, pm_1a_c, pm_ia_c, pm_iia_c, pm_va_c, pm_cp_c, pm_k0_c, pm_k1_c, pm_k2_c, pm_k3_c, pm_s1_c, pm_s2_c, pm_s3_c, pm_s4_c, pm_ri_c, pm_ra_c, pm_rn_c, pm_rk_i, pm_rk_z, pm_rk_a, pm_vk_i, pm_vk_z, pm_vk_a, pm_cti, pm_ctr, pm_ldi_z, pm_ldi_s, pm_lda_z, pm_lda_s, pm_cat_n, pm_cat_i, pm_cat_r, pm_cat_l, pm_obj, pm_arr, pm_opt, pm_ird, pm_aln, List.getElem?_cons_zero, List.getElem?_cons_succ, List.set_cons_zero, List.set_cons_succ, List.length_cons, List.length_nil, List.length_set, true_and, and_true, Nat.add_zero, Nat.zero_add, Nat.le_refl, Nat.reduceAdd, Nat.reduceLT, Nat.reduceLeDiff, Nat.zero_le, not_false_eq_true, not_true_eq_false, false_implies, implies_true, true_implies, Nat.zero_lt_succ, Nat.lt_add_one, pm_tl_n, pm_tl_s, sc_uL, zo4, l4, q3]
            refine PM_use (c_Lb_writeNumber Z4 (nI (rnF xs k 0)) d) ?_
            rintro v h5 l5 ⟨rfl, Z5, f5⟩
            show W_X5_writeTo _ _ _ _ _ _ _ _ _
            simp only [w_X5_writeTo_73, w_X5_writeTo_74, w_X5_writeTo_76, w_X5_writeTo_77, w_X5_writeTo_78, w_X5_writeTo_118, w_X5_writeTo_121, pm_1i_c, pm_2i_c, pm_1l_c, pm_2l_c, pm_1a_c, pm_ia_c, pm_iia_c, pm_va_c, pm_cp_c, pm_k0_c, pm_k1_c, pm_k2_c, pm_k3_c, pm_s1_c, pm_s2_c, pm_s3_c, pm_s4_c, pm_ri_c, pm_ra_c, pm_rn_c, pm_rk_i, pm_rk_z, pm_rk_a, pm_vk_i, pm_vk_z, pm_vk_a, pm_cti, pm_ctr, pm_ldi_z, pm_ldi_s, pm_lda_z, pm_lda_s, pm_cat_n, pm_cat_i, pm_cat_r, pm_cat_l, pm_obj, pm_arr, pm_opt, pm_ird, pm_aln, List.getElem?_cons_zero, List.getElem?_cons_succ, List.set_cons_zero, List.set_cons_succ, List.length_cons, List.length_nil, List.length_set, true_and, and_true, Nat.add_zero, Nat.zero_add, Nat.le_refl, Nat.reduceAdd, Nat.reduceLT, Nat.reduceLeDiff, Nat.zero_le, not_false_eq_true, not_true_eq_false, false_implies, implies_true, true_implies, Nat.zero_lt_succ, Nat.lt_add_one, pm_tl_n, pm_tl_s, sc_uL, nI_add, nI_1]
            exact ih (n + 1) (k + rnF xs k 0) (by omega) (by omega) (by omega) h5 _ _ _ Z5 e (by rw [l5, l4, q3]; rfl) ((q4.tr f4).tr f5)
        -- from the number on
        have go1 : ∀ (h3 : pmH), rw_ h3 W 600 ((if 0 < k then l ++ [32] else l).take 600) → h3.length = h.length → fr2 h h3 W → W_X5_writeTo (d + 2) (h.length + 0) 0 (fun v h' => v = none ∧ rw_ h' W 600 ((wtF xs).take 600) ∧ fr2 h h' W) 30 [some (.ref a), some (.ref W), some (.ref P), some (.int (nI k)), some (.int (nI n)), x5, x6] [] h3 0 := by
          intro h3 Z3 q3 q4
          have R3 : rw_ h3 P 100 xs := R.kept (q4 _ (by omega) (by omega)) (q4 _ (by omega) (by omega))
          have ro3 := R3.o
          have zo3 := Z3.o
          simp only [w_X5_writeTo_30, w_X5_writeTo_31, w_X5_writeTo_32, w_X5_writeTo_33, pm_1i_c, pm_2i_c, pm_1l_c, pm_2l_c, pm_1a_c, pm_ia_c, pm_iia_c, pm_va_c, pm_cp_c, pm_k0_c, pm_k1_c, pm_k2_c, pm_k3_c, pm_s1_c, pm_s2_c, pm_s3_c, pm_s4_c, pm_ri_c, pm_ra_c, pm_rn_c, pm_rk_i, pm_rk_z, pm_rk_a, pm_vk_i, pm_vk_z, pm_vk_a, pm_cti, pm_ctr, pm_ldi_z, pm_ldi_s, pm_lda_z, pm_lda_s, pm_cat_n, pm_cat_i, pm_cat_r, pm_cat_l, pm_obj, pm_arr, pm_opt, pm_ird, pm_aln, List.getElem?_cons_zero, List.getElem?_cons_succ, List.set_cons_zero, List.set_cons_succ, List.length_cons, List.length_nil, List.length_set, true_and, and_true, Nat.add_zero, Nat.zero_add, Nat.le_refl, Nat.reduceAdd, Nat.reduceLT, Nat.reduceLeDiff, Nat.zero_le, not_false_eq_true, not_true_eq_false, false_implies, implies_true, true_implies, Nat.zero_lt_succ, Nat.lt_add_one, ro3, q3]
          refine PM_use (c_Row_get R3 (nI k) (d + 1)) ?_
          rintro v h1 l1 ⟨rfl, rfl⟩
          rw [rw_getN (by omega)]
          show W_X5_writeTo _ _ _ _ _ _ _ _ _
          simp only [w_X5_writeTo_36, pm_1i_c, pm_2i_c, pm_1l_c, pm_2l_c, pm_1a_c, pm_ia_c, pm_iia_c, pm_va_c, pm_cp_c, pm_k0_c, pm_k1_c, pm_k2_c, pm_k3_c, pm_s1_c, pm_s2_c, pm_s3_c, pm_s4_c, pm_ri_c, pm_ra_c, pm_rn_c, pm_rk_i, pm_rk_z, pm_rk_a, pm_vk_i, pm_vk_z, pm_vk_a, pm_cti, pm_ctr, pm_ldi_z, pm_ldi_s, pm_lda_z, pm_lda_s, pm_cat_n, pm_cat_i, pm_cat_r, pm_cat_l, pm_obj, pm_arr, pm_opt, pm_ird, pm_aln, List.getElem?_cons_zero, List.getElem?_cons_succ, List.set_cons_zero, List.set_cons_succ, List.length_cons, List.length_nil, List.length_set, true_and, and_true, Nat.add_zero, Nat.zero_add, Nat.le_refl, Nat.reduceAdd, Nat.reduceLT, Nat.reduceLeDiff, Nat.zero_le, not_false_eq_true, not_true_eq_false, false_implies, implies_true, true_implies, Nat.zero_lt_succ, Nat.lt_add_one, pm_tl_n, pm_tl_s, sc_uL, ro3, q3]
          refine PM_use (c_Lb_writeNumber Z3 (xs.getD k (-1)) d) ?_
          rintro v h4 l4 ⟨rfl, Z4, f4⟩
          show W_X5_writeTo _ _ _ _ _ _ _ _ _
          exact go2 h4 Z4 (by rw [l4, q3]; rfl) (q4.tr f4)
        by_cases c0 : 0 < k
        · have e3 : 0 < nI k := nI_lt (a := 0) (b := k) c0 (by omega)
          show W_X5_writeTo _ _ _ _ _ _ _ _ _
          simp only [w_X5_writeTo_17, w_X5_writeTo_20, w_X5_writeTo_21, w_X5_writeTo_24, w_X5_writeTo_25, w_X5_writeTo_27, pm_1i_c, pm_2i_c, pm_1l_c, pm_2l_c, pm_1a_c, pm_ia_c, pm_iia_c, pm_va_c, pm_cp_c, pm_k0_c, pm_k1_c, pm_k2_c, pm_k3_c, pm_s1_c, pm_s2_c, pm_s3_c, pm_s4_c, pm_ri_c, pm_ra_c, pm_rn_c, pm_rk_i, pm_rk_z, pm_rk_a, pm_vk_i, pm_vk_z, pm_vk_a, pm_cti, pm_ctr, pm_ldi_z, pm_ldi_s, pm_lda_z, pm_lda_s, pm_cat_n, pm_cat_i, pm_cat_r, pm_cat_l, pm_obj, pm_arr, pm_opt, pm_ird, pm_aln, List.getElem?_cons_zero, List.getElem?_cons_succ, List.set_cons_zero, List.set_cons_succ, List.length_cons, List.length_nil, List.length_set, true_and, and_true, Nat.add_zero, Nat.zero_add, Nat.le_refl, Nat.reduceAdd, Nat.reduceLT, Nat.reduceLeDiff, Nat.zero_le, not_false_eq_true, not_true_eq_false, false_implies, implies_true, true_implies, Nat.zero_lt_succ, Nat.lt_add_one, pm_tl_n, pm_tl_s, sc_uL, e2, e3, zo, q1]
          refine PM_use (c_Row_appT Z1 32 (d + 1)) ?_
          rintro v h2 l2 ⟨rfl, Z2, f2⟩
          show W_X5_writeTo _ _ _ _ _ _ _ _ _
          exact go1 h2 (by rw [if_pos c0]; exact Z2) (by rw [l2, q1]; rfl) (q2.tr f2)
        · have e3 : ¬ 0 < nI k := nI_nlt (a := 0) (b := k) (by omega) (by omega)
          show W_X5_writeTo _ _ _ _ _ _ _ _ _
          simp only [w_X5_writeTo_17, w_X5_writeTo_20, w_X5_writeTo_21, w_X5_writeTo_24, w_X5_writeTo_25, w_X5_writeTo_27, pm_1i_c, pm_2i_c, pm_1l_c, pm_2l_c, pm_1a_c, pm_ia_c, pm_iia_c, pm_va_c, pm_cp_c, pm_k0_c, pm_k1_c, pm_k2_c, pm_k3_c, pm_s1_c, pm_s2_c, pm_s3_c, pm_s4_c, pm_ri_c, pm_ra_c, pm_rn_c, pm_rk_i, pm_rk_z, pm_rk_a, pm_vk_i, pm_vk_z, pm_vk_a, pm_cti, pm_ctr, pm_ldi_z, pm_ldi_s, pm_lda_z, pm_lda_s, pm_cat_n, pm_cat_i, pm_cat_r, pm_cat_l, pm_obj, pm_arr, pm_opt, pm_ird, pm_aln, List.getElem?_cons_zero, List.getElem?_cons_succ, List.set_cons_zero, List.set_cons_succ, List.length_cons, List.length_nil, List.length_set, true_and, and_true, Nat.add_zero, Nat.zero_add, Nat.le_refl, Nat.reduceAdd, Nat.reduceLT, Nat.reduceLeDiff, Nat.zero_le, not_false_eq_true, not_true_eq_false, false_implies, implies_true, true_implies, Nat.zero_lt_succ, Nat.lt_add_one, pm_tl_n, pm_tl_s, sc_uL, e2, e3, zo, q1]
          exact go1 h1 (by rw [if_neg c0]; exact Z1) q1 q2
      · have e2 : ¬ nI k < nI xs.length := nI_nlt (by omega) (by omega)
        rw [if_neg c] at e
        show W_X5_writeTo _ _ _ _ _ _ _ _ _
        simp only [w_X5_writeTo_17, w_X5_writeTo_124, pm_1i_c, pm_2i_c, pm_1l_c, pm_2l_c, pm_1a_c, pm_ia_c, pm_iia_c, pm_va_c, pm_cp_c, pm_k0_c, pm_k1_c, pm_k2_c, pm_k3_c, pm_s1_c, pm_s2_c, pm_s3_c, pm_s4_c, pm_ri_c, pm_ra_c, pm_rn_c, pm_rk_i, pm_rk_z, pm_rk_a, pm_vk_i, pm_vk_z, pm_vk_a, pm_cti, pm_ctr, pm_ldi_z, pm_ldi_s, pm_lda_z, pm_lda_s, pm_cat_n, pm_cat_i, pm_cat_r, pm_cat_l, pm_obj, pm_arr, pm_opt, pm_ird, pm_aln, List.getElem?_cons_zero, List.getElem?_cons_succ, List.set_cons_zero, List.set_cons_succ, List.length_cons, List.length_nil, List.length_set, true_and, and_true, Nat.add_zero, Nat.zero_add, Nat.le_refl, Nat.reduceAdd, Nat.reduceLT, Nat.reduceLeDiff, Nat.zero_le, not_false_eq_true, not_true_eq_false, false_implies, implies_true, true_implies, Nat.zero_lt_succ, Nat.lt_add_one, pm_tl_n, pm_tl_s, sc_uL, e2, q1]
        rw [← e]
        exact ⟨Z1, q2⟩
  simp only [w_X5_writeTo_0, w_X5_writeTo_1, w_X5_writeTo_2, w_X5_writeTo_3, pm_1i_c, pm_2i_c, pm_1l_c, pm_2l_c, pm_1a_c, pm_ia_c, pm_iia_c, pm_va_c, pm_cp_c, pm_k0_c, pm_k1_c, pm_k2_c, pm_k3_c, pm_s1_c, pm_s2_c, pm_s3_c, pm_s4_c, pm_ri_c, pm_ra_c, pm_rn_c, pm_rk_i, pm_rk_z, pm_rk_a, pm_vk_i, pm_vk_z, pm_vk_a, pm_cti, pm_ctr, pm_ldi_z, pm_ldi_s, pm_lda_z, pm_lda_s, pm_cat_n, pm_cat_i, pm_cat_r, pm_cat_l, pm_obj, pm_arr, pm_opt, pm_ird, pm_aln, List.getElem?_cons_zero, List.getElem?_cons_succ, List.set_cons_zero, List.set_cons_succ, List.length_cons, List.length_nil, List.length_set, true_and, and_true, Nat.add_zero, Nat.zero_add, Nat.le_refl, Nat.reduceAdd, Nat.reduceLT, Nat.reduceLeDiff, Nat.zero_le, not_false_eq_true, not_true_eq_false, false_implies, implies_true, true_implies, Nat.zero_lt_succ, Nat.lt_add_one]
  exact loop 100 0 0 rfl (by omega) (by omega) h [] _ _ Z rfl rfl fr2.rf
end LD
