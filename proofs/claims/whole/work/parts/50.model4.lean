/-! AdmissionDeskModel: what went out, the latest asks, the contest's row. -/
section ME
variable {h h' : pmH} {m : Nat} {o : Nat → Int32} {A A' : AD}
set_option maxHeartbeats 1000000 in
theorem c_M_goesOut (H : md_ h m o A) (key : Int32) (d : Nat) : PM (d + 1) 197 [.ref m, .int key] h (fun v h' => v = none ∧ md_ h' m o (gnF A key) ∧ fr1 h h' (m + 1)) := by
  obtain ⟨H0, f, H1, R⟩ := H
  have H0' := H0
  unfold mO at H0
  obtain ⟨a1, a2, a3⟩ := R.o
  have mo : ∀ hh, fr1 h hh (m + 1) → hh[m]? = h[m]? := fun hh q => q m (by omega)
  have s4 : f 1674 = sc A 4 := R.s (i := 4) (by omega)
  obtain ⟨n, hn⟩ : ∃ n, n = min 15 (li A 4).length := ⟨_, rfl⟩
  have en : (if nI (li A 4).length < 15 then nI (li A 4).length else 15) = nI n := by
    by_cases c : (li A 4).length < 15
    · have cc : nI (li A 4).length < (15 : Int32) := nI_lt (b := 15) c (by omega)
      rw [if_pos cc, hn, Nat.min_eq_right (by omega)]
    · have cc : ¬ nI (li A 4).length < (15 : Int32) := nI_nlt (b := 15) (by omega) (by omega)
      rw [if_neg cc, hn, Nat.min_eq_left (by omega)]
      rfl
  refine en_X12_goesOut rfl rfl ?_
  simp only [w_X12_goesOut_0, w_X12_goesOut_2, w_X12_goesOut_3, w_X12_goesOut_6, w_X12_goesOut_9, w_X12_goesOut_10, w_X12_goesOut_13, w_X12_goesOut_14, w_X12_goesOut_15, pm_1i_c, pm_2i_c, pm_1l_c, pm_2l_c, pm_1a_c, pm_ia_c, pm_iia_c, pm_va_c, pm_cp_c, pm_k0_c, pm_k1_c, pm_k2_c, pm_k3_c, pm_s1_c, pm_s2_c, pm_s3_c, pm_s4_c, pm_ri_c, pm_ra_c, pm_rn_c, pm_rk_i, pm_rk_z, pm_rk_a, pm_vk_i, pm_vk_z, pm_vk_a, pm_cti, pm_ctr, pm_ldi_z, pm_ldi_s, pm_lda_z, pm_lda_s, pm_cat_n, pm_cat_i, pm_cat_r, pm_cat_l, pm_obj, pm_arr, pm_opt, pm_ird, pm_aln, List.getElem?_cons_zero, List.getElem?_cons_succ, List.set_cons_zero, List.set_cons_succ, List.length_cons, List.length_nil, List.length_set, true_and, and_true, Nat.add_zero, Nat.zero_add, Nat.le_refl, Nat.reduceAdd, Nat.reduceLT, Nat.reduceLeDiff, Nat.zero_le, not_false_eq_true, not_true_eq_false, false_implies, implies_true, true_implies, Nat.zero_lt_succ, Nat.lt_add_one, H0, H1, ix_1552, vi_1552, a2, en]
  have loop : ∀ k, k ≤ n → ∀ (hh2 : pmH) (g : Nat → Int32), hh2[m + 1]? = some (.inl (0, 2195, .inl g)) → (∀ j, g j = if 1553 + k < j ∧ j ≤ 1553 + n then f (j - 1) else f j) → hh2.length = h.length → fr1 h hh2 (m + 1) → W_X12_goesOut d (h.length + 0) 0 (fun v h' => v = none ∧ md_ h' m o (gnF A key) ∧ fr1 h h' (m + 1)) 16 [some (.ref m), some (.int key), some (.int (nI n)), some (.int (nI k))] [] hh2 0 := by
    intro k
    induction k with
    | zero =>
      intro hk hh2 g q1 q2 q5 q6
      have e1 : ¬ (0 : Int32) < nI 0 := by decide
      have hm := mo hh2 q6
      have g4 : g 1674 = sc A 4 := by rw [q2, if_neg (by omega)]; exact s4
      rw [w_X12_goesOut_16]
      simp only [w_X12_goesOut_17, w_X12_goesOut_46, w_X12_goesOut_47, w_X12_goesOut_50, w_X12_goesOut_53, w_X12_goesOut_54, w_X12_goesOut_55, w_X12_goesOut_56, w_X12_goesOut_59, w_X12_goesOut_62, w_X12_goesOut_63, w_X12_goesOut_64, w_X12_goesOut_65, w_X12_goesOut_66, w_X12_goesOut_67, w_X12_goesOut_70, w_X12_goesOut_73, w_X12_goesOut_74, w_X12_goesOut_75, w_X12_goesOut_76, w_X12_goesOut_77, w_X12_goesOut_78, pm_1i_c, pm_2i_c, pm_1l_c, pm_2l_c, pm_1a_c, pm_ia_c, pm_iia_c, pm_va_c, pm_cp_c, pm_k0_c, pm_k1_c, pm_k2_c, pm_k3_c, pm_s1_c, pm_s2_c, pm_s3_c, pm_s4_c, pm_ri_c, pm_ra_c, pm_rn_c, pm_rk_i, pm_rk_z, pm_rk_a, pm_vk_i, pm_vk_z, pm_vk_a, pm_cti, pm_ctr, pm_ldi_z, pm_ldi_s, pm_lda_z, pm_lda_s, pm_cat_n, pm_cat_i, pm_cat_r, pm_cat_l, pm_obj, pm_arr, pm_opt, pm_ird, pm_aln, List.getElem?_cons_zero, List.getElem?_cons_succ, List.set_cons_zero, List.set_cons_succ, List.length_cons, List.length_nil, List.length_set, true_and, and_true, Nat.add_zero, Nat.zero_add, Nat.le_refl, Nat.reduceAdd, Nat.reduceLT, Nat.reduceLeDiff, Nat.zero_le, not_false_eq_true, not_true_eq_false, false_implies, implies_true, true_implies, Nat.zero_lt_succ, Nat.lt_add_one, e1, hm, H0, q1, nI_1, ix_1553, vi_1553, ix_1552, vi_1552, ix_1674, vi_1674, hset_r1, hset_s, Option.map_some, List.set_set, q5, upd_n (show 1674 ≠ 1552 by omega), upd_n (show 1674 ≠ 1553 by omega), g4]
      have e2 : gnF A key = uS (uL A 4 (ins0 (li A 4) key 16)) 4 (sc A 4 + 1) := rfl
      have len : (ins0 (li A 4) key 16).length = n + 1 := by
        unfold ins0
        rw [List.length_take, List.length_cons]
        omega
      have RL : rep (upd (upd g 1553 key) 1552 (nI (n + 1))) (uL A 4 (ins0 (li A 4) key 16)) := by
        refine R.gO (fun k hk => ?_) (by omega) (by rw [upd_e, len]) (fun k hk => ?_)
        · rw [upd_n (by omega), upd_n (by omega), q2, if_neg (by omega)]
        · rw [len] at hk
          rw [upd_n (by omega)]
          unfold ins0
          rw [List.getD_eq_getElem?_getD, List.getElem?_take, if_pos (by omega), ← List.getD_eq_getElem?_getD]
          cases k with
          | zero => exact upd_e
          | succ k =>
            rw [upd_n (by omega), q2, if_pos (by omega), getD_cons_s, ← a3 k (by omega)]
            congr 1
      rw [e2]
      obtain ⟨M, F⟩ := md_.set (A' := uS (uL A 4 (ins0 (li A 4) key 16)) 4 (sc A 4 + 1)) (f' := upd (upd (upd g 1553 key) 1552 (nI (n + 1))) 1674 (sc A 4 + 1)) (H0'.kept q6) q1 (RL.gS (i := 4) (by omega) (sc A 4 + 1))
      exact ⟨M, q6.tr F⟩
    | succ k ih =>
      intro hk hh2 g q1 q2 q5 q6
      have e1 : 0 < nI (k + 1) := nI_lt (a := 0) (by omega) (by omega)
      have hm := mo hh2 q6
      have e2 : nI (k + 1) + -1 = nI k := by rw [nIinc, nI_pred]
      have v1 : vp_in (nI (1553 + (k + 1))) 2195 := vp_in_nI (by omega) (by omega)
      have c1 : (nI (1553 + (k + 1))).toNatClampNeg = 1553 + (k + 1) := nI_clamp (by omega)
      have v2 : vp_in (nI (1552 + (k + 1))) 2195 := vp_in_nI (by omega) (by omega)
      have c2 : (nI (1552 + (k + 1))).toNatClampNeg = 1552 + (k + 1) := nI_clamp (by omega)
      rw [w_X12_goesOut_16]
      simp only [w_X12_goesOut_17, w_X12_goesOut_20, w_X12_goesOut_21, w_X12_goesOut_24, w_X12_goesOut_27, w_X12_goesOut_28, w_X12_goesOut_29, w_X12_goesOut_30, w_X12_goesOut_33, w_X12_goesOut_36, w_X12_goesOut_37, w_X12_goesOut_38, w_X12_goesOut_39, w_X12_goesOut_40, w_X12_goesOut_43, pm_1i_c, pm_2i_c, pm_1l_c, pm_2l_c, pm_1a_c, pm_ia_c, pm_iia_c, pm_va_c, pm_cp_c, pm_k0_c, pm_k1_c, pm_k2_c, pm_k3_c, pm_s1_c, pm_s2_c, pm_s3_c, pm_s4_c, pm_ri_c, pm_ra_c, pm_rn_c, pm_rk_i, pm_rk_z, pm_rk_a, pm_vk_i, pm_vk_z, pm_vk_a, pm_cti, pm_ctr, pm_ldi_z, pm_ldi_s, pm_lda_z, pm_lda_s, pm_cat_n, pm_cat_i, pm_cat_r, pm_cat_l, pm_obj, pm_arr, pm_opt, pm_ird, pm_aln, List.getElem?_cons_zero, List.getElem?_cons_succ, List.set_cons_zero, List.set_cons_succ, List.length_cons, List.length_nil, List.length_set, true_and, and_true, Nat.add_zero, Nat.zero_add, Nat.le_refl, Nat.reduceAdd, Nat.reduceLT, Nat.reduceLeDiff, Nat.zero_le, not_false_eq_true, not_true_eq_false, false_implies, implies_true, true_implies, Nat.zero_lt_succ, Nat.lt_add_one, e1, hm, H0, q1, nI1553, nI1552, v1, c1, v2, c2, e2]
      refine ih (by omega) _ _ (by rw [hset_s, q1]; rfl) (fun j => ?_) (by rw [List.length_set]; exact q5) (q6.tr (fun i hi => hset_n (Ne.symm hi)))
      by_cases c : j = 1553 + (k + 1)
      · rw [c, upd_e, q2, if_neg (by omega), if_pos (by omega)]
        congr 1
        omega
      · rw [upd_n c, q2]
        by_cases c3 : 1553 + (k + 1) < j ∧ j ≤ 1553 + n
        · rw [if_pos c3, if_pos (by omega)]
        · rw [if_neg c3, if_neg (by omega)]
  exact loop n (Nat.le_refl _) h f H1 (fun j => by rw [if_neg (by omega)]) rfl fr1.rf
set_option maxHeartbeats 1000000 in
theorem c_M_regrets (H : md_ h m o A) (key : Int32) (d : Nat) : PM (d + 1) 198 [.ref m, .int key] h (fun v h' => v = none ∧ md_ h' m o (cmG A key) ∧ fr1 h h' (m + 1)) := by
  have HH := H
  obtain ⟨H0, f, H1, R⟩ := H
  have H0' := H0
  unfold mO at H0
  obtain ⟨a1, a2, a3⟩ := R.o
  have mo : ∀ hh, fr1 h hh (m + 1) → hh[m]? = h[m]? := fun hh q => q m (by omega)
  have s5 : f 1675 = sc A 5 := R.s (i := 5) (by omega)
  refine en_X12_regrets rfl rfl ?_
  -- the moving up, where the key lies at k
  have inner : ∀ (k : Nat) (x3 : Option Value), k < (li A 4).length → key ∈ li A 4 → (li A 4).erase key = (li A 4).eraseIdx k → ∀ n i, (li A 4).length - 1 - i = n → k ≤ i → i ≤ (li A 4).length - 1 → ∀ (hh2 : pmH) (g : Nat → Int32), hh2[m + 1]? = some (.inl (0, 2195, .inl g)) → (∀ j, g j = if j = 1552 then nI ((li A 4).length - 1) else if 1553 + k ≤ j ∧ j < 1553 + i then f (j + 1) else f j) → hh2.length = h.length → fr1 h hh2 (m + 1) → W_X12_regrets d (h.length + 0) 0 (fun v h' => v = none ∧ md_ h' m o (cmG A key) ∧ fr1 h h' (m + 1)) 45 [some (.ref m), some (.int key), some (.int (nI k)), some (.int (nI i))] [] hh2 0 := by
    intro k x3 hk hmem hers n
    induction n with
    | zero =>
      intro i hn hki hi hh2 g q1 q2 q5 q6
      have : i = (li A 4).length - 1 := by omega
      subst this
      have gat : g 1552 = nI ((li A 4).length - 1) := by rw [q2, if_pos rfl]
      have e1 : ¬ nI ((li A 4).length - 1) < nI ((li A 4).length - 1) := nI_nlt (by omega) (by omega)
      have hm := mo hh2 q6
      have g5 : g 1675 = sc A 5 := by rw [q2, if_neg (by omega), if_neg (by omega)]; exact s5
      have len : ((li A 4).eraseIdx k).length = (li A 4).length - 1 := List.length_eraseIdx_of_lt hk
      have e2 : cmG A key = uS (uL A 4 ((li A 4).erase key)) 5 (sc A 5 + 1) := if_pos hmem
      have RL : rep g (uL A 4 ((li A 4).erase key)) := by
        rw [hers]
        refine R.gO (fun j hj => ?_) (by omega) (by rw [gat, len]) (fun j hj => ?_)
        · rw [q2, if_neg (by omega), if_neg (by omega)]
        · rw [q2, if_neg (by omega)]
          rw [len] at hj
          rw [List.getD_eq_getElem?_getD, List.getElem?_eraseIdx]
          by_cases c : j < k
          · rw [if_neg (by omega), if_pos c, a3 j (by omega), List.getD_eq_getElem?_getD]
          · rw [if_pos (by omega), if_neg c, ← List.getD_eq_getElem?_getD, ← a3 (j + 1) (by omega)]
            congr 1
      rw [w_X12_regrets_45]
      simp only [w_X12_regrets_46, w_X12_regrets_47, w_X12_regrets_50, w_X12_regrets_53, w_X12_regrets_54, w_X12_regrets_83, w_X12_regrets_84, w_X12_regrets_87, w_X12_regrets_90, w_X12_regrets_91, w_X12_regrets_92, w_X12_regrets_93, w_X12_regrets_94, w_X12_regrets_95, pm_1i_c, pm_2i_c, pm_1l_c, pm_2l_c, pm_1a_c, pm_ia_c, pm_iia_c, pm_va_c, pm_cp_c, pm_k0_c, pm_k1_c, pm_k2_c, pm_k3_c, pm_s1_c, pm_s2_c, pm_s3_c, pm_s4_c, pm_ri_c, pm_ra_c, pm_rn_c, pm_rk_i, pm_rk_z, pm_rk_a, pm_vk_i, pm_vk_z, pm_vk_a, pm_cti, pm_ctr, pm_ldi_z, pm_ldi_s, pm_lda_z, pm_lda_s, pm_cat_n, pm_cat_i, pm_cat_r, pm_cat_l, pm_obj, pm_arr, pm_opt, pm_ird, pm_aln, List.getElem?_cons_zero, List.getElem?_cons_succ, List.set_cons_zero, List.set_cons_succ, List.length_cons, List.length_nil, List.length_set, true_and, and_true, Nat.add_zero, Nat.zero_add, Nat.le_refl, Nat.reduceAdd, Nat.reduceLT, Nat.reduceLeDiff, Nat.zero_le, not_false_eq_true, not_true_eq_false, false_implies, implies_true, true_implies, Nat.zero_lt_succ, Nat.lt_add_one, e1, hm, H0, q1, ix_1552, vi_1552, ix_1675, vi_1675, gat, g5, q5]
      rw [e2]
      obtain ⟨M, F⟩ := md_.set (A' := uS (uL A 4 ((li A 4).erase key)) 5 (sc A 5 + 1)) (f' := upd g 1675 (sc A 5 + 1)) (H0'.kept q6) q1 (RL.gS (i := 5) (by omega) (sc A 5 + 1))
      exact ⟨M, q6.tr F⟩
    | succ n ih =>
      intro i hn hki hi hh2 g q1 q2 q5 q6
      have gat : g 1552 = nI ((li A 4).length - 1) := by rw [q2, if_pos rfl]
      have e1 : nI i < nI ((li A 4).length - 1) := nI_lt (by omega) (by omega)
      have hm := mo hh2 q6
      have v1 : vp_in (nI (1553 + i)) 2195 := vp_in_nI (by omega) (by omega)
      have c1 : (nI (1553 + i)).toNatClampNeg = 1553 + i := nI_clamp (by omega)
      have v2 : vp_in (nI (1554 + i)) 2195 := vp_in_nI (by omega) (by omega)
      have c2 : (nI (1554 + i)).toNatClampNeg = 1554 + i := nI_clamp (by omega)
      rw [w_X12_regrets_45]
      simp only [w_X12_regrets_46, w_X12_regrets_47, w_X12_regrets_50, w_X12_regrets_53, w_X12_regrets_54, w_X12_regrets_57, w_X12_regrets_58, w_X12_regrets_61, w_X12_regrets_64, w_X12_regrets_65, w_X12_regrets_66, w_X12_regrets_67, w_X12_regrets_70, w_X12_regrets_73, w_X12_regrets_74, w_X12_regrets_75, w_X12_regrets_76, w_X12_regrets_77, w_X12_regrets_80, pm_1i_c, pm_2i_c, pm_1l_c, pm_2l_c, pm_1a_c, pm_ia_c, pm_iia_c, pm_va_c, pm_cp_c, pm_k0_c, pm_k1_c, pm_k2_c, pm_k3_c, pm_s1_c, pm_s2_c, pm_s3_c, pm_s4_c, pm_ri_c, pm_ra_c, pm_rn_c, pm_rk_i, pm_rk_z, pm_rk_a, pm_vk_i, pm_vk_z, pm_vk_a, pm_cti, pm_ctr, pm_ldi_z, pm_ldi_s, pm_lda_z, pm_lda_s, pm_cat_n, pm_cat_i, pm_cat_r, pm_cat_l, pm_obj, pm_arr, pm_opt, pm_ird, pm_aln, List.getElem?_cons_zero, List.getElem?_cons_succ, List.set_cons_zero, List.set_cons_succ, List.length_cons, List.length_nil, List.length_set, true_and, and_true, Nat.add_zero, Nat.zero_add, Nat.le_refl, Nat.reduceAdd, Nat.reduceLT, Nat.reduceLeDiff, Nat.zero_le, not_false_eq_true, not_true_eq_false, false_implies, implies_true, true_implies, Nat.zero_lt_succ, Nat.lt_add_one, e1, hm, H0, q1, ix_1552, vi_1552, gat, nI1553, nI1554, v1, c1, v2, c2, nI_1]
      refine ih (i + 1) (by omega) (by omega) (by omega) _ _ (by rw [hset_s, q1]; rfl) (fun j => ?_) (by rw [List.length_set]; exact q5) (q6.tr (fun i hi => hset_n (Ne.symm hi)))
      by_cases c : j = 1553 + i
      · rw [c, upd_e, q2, if_neg (by omega), if_neg (by omega), if_neg (by omega), if_pos (by omega)]
        congr 1
        omega
      · rw [upd_n c, q2]
        by_cases c0 : j = 1552
        · rw [if_pos c0, if_pos c0]
        · rw [if_neg c0, if_neg c0]
          by_cases c3 : 1553 + k ≤ j ∧ j < 1553 + i
          · rw [if_pos c3, if_pos (by omega)]
          · rw [if_neg c3, if_neg (by omega)]
  have loop : ∀ n k, (li A 4).length - k = n → k ≤ (li A 4).length → key ∉ (li A 4).take k → W_X12_regrets d (h.length + 0) 0 (fun v h' => v = none ∧ md_ h' m o (cmG A key) ∧ fr1 h h' (m + 1)) 2 [some (.ref m), some (.int key), some (.int (nI k)), none] [] h 0 := by
    intro n
    induction n with
    | zero =>
      intro k hn hk hx
      have e1 : ¬ nI k < nI (li A 4).length := nI_nlt (by omega) (by omega)
      rw [w_X12_regrets_2]
      simp only [w_X12_regrets_3, w_X12_regrets_4, w_X12_regrets_7, w_X12_regrets_10, w_X12_regrets_11, w_X12_regrets_102, pm_1i_c, pm_2i_c, pm_1l_c, pm_2l_c, pm_1a_c, pm_ia_c, pm_iia_c, pm_va_c, pm_cp_c, pm_k0_c, pm_k1_c, pm_k2_c, pm_k3_c, pm_s1_c, pm_s2_c, pm_s3_c, pm_s4_c, pm_ri_c, pm_ra_c, pm_rn_c, pm_rk_i, pm_rk_z, pm_rk_a, pm_vk_i, pm_vk_z, pm_vk_a, pm_cti, pm_ctr, pm_ldi_z, pm_ldi_s, pm_lda_z, pm_lda_s, pm_cat_n, pm_cat_i, pm_cat_r, pm_cat_l, pm_obj, pm_arr, pm_opt, pm_ird, pm_aln, List.getElem?_cons_zero, List.getElem?_cons_succ, List.set_cons_zero, List.set_cons_succ, List.length_cons, List.length_nil, List.length_set, true_and, and_true, Nat.add_zero, Nat.zero_add, Nat.le_refl, Nat.reduceAdd, Nat.reduceLT, Nat.reduceLeDiff, Nat.zero_le, not_false_eq_true, not_true_eq_false, false_implies, implies_true, true_implies, Nat.zero_lt_succ, Nat.lt_add_one, H0, H1, ix_1552, vi_1552, a2, e1]
      rw [List.take_of_length_le (by omega)] at hx
      have e2 : cmG A key = A := if_neg hx
      rw [e2]
      exact ⟨HH, fr1.rf⟩
    | succ n ih =>
      intro k hn hk hx
      have hk2 : k < (li A 4).length := by omega
      have e1 : nI k < nI (li A 4).length := nI_lt (by omega) (by omega)
      have v1 : vp_in (nI (1553 + k)) 2195 := vp_in_nI (by omega) (by omega)
      have c1 : (nI (1553 + k)).toNatClampNeg = 1553 + k := nI_clamp (by omega)
      have ak := a3 k hk2
      have al : nI (li A 4).length - 1 = nI ((li A 4).length - 1) := by rw [nI_one, pk_sub (by omega)]
      rw [w_X12_regrets_2]
      simp only [w_X12_regrets_3, w_X12_regrets_4, w_X12_regrets_7, w_X12_regrets_10, w_X12_regrets_11, w_X12_regrets_14, w_X12_regrets_15, w_X12_regrets_18, w_X12_regrets_21, w_X12_regrets_22, w_X12_regrets_23, w_X12_regrets_24, w_X12_regrets_25, w_X12_regrets_28, w_X12_regrets_31, w_X12_regrets_32, w_X12_regrets_35, w_X12_regrets_38, w_X12_regrets_39, w_X12_regrets_40, w_X12_regrets_41, w_X12_regrets_42, w_X12_regrets_43, w_X12_regrets_44, w_X12_regrets_96, w_X12_regrets_99, pm_1i_c, pm_2i_c, pm_1l_c, pm_2l_c, pm_1a_c, pm_ia_c, pm_iia_c, pm_va_c, pm_cp_c, pm_k0_c, pm_k1_c, pm_k2_c, pm_k3_c, pm_s1_c, pm_s2_c, pm_s3_c, pm_s4_c, pm_ri_c, pm_ra_c, pm_rn_c, pm_rk_i, pm_rk_z, pm_rk_a, pm_vk_i, pm_vk_z, pm_vk_a, pm_cti, pm_ctr, pm_ldi_z, pm_ldi_s, pm_lda_z, pm_lda_s, pm_cat_n, pm_cat_i, pm_cat_r, pm_cat_l, pm_obj, pm_arr, pm_opt, pm_ird, pm_aln, List.getElem?_cons_zero, List.getElem?_cons_succ, List.set_cons_zero, List.set_cons_succ, List.length_cons, List.length_nil, List.length_set, true_and, and_true, Nat.add_zero, Nat.zero_add, Nat.le_refl, Nat.reduceAdd, Nat.reduceLT, Nat.reduceLeDiff, Nat.zero_le, not_false_eq_true, not_true_eq_false, false_implies, implies_true, true_implies, Nat.zero_lt_succ, Nat.lt_add_one, H0, H1, ix_1552, vi_1552, a2, e1, nI1553, v1, c1, ak, al, nI_1]
      refine ⟨fun c => ?_, fun c => ?_⟩
      · have hxs : (li A 4)[k]'hk2 = key := by
          rw [List.getD_eq_getElem?_getD, List.getElem?_eq_getElem hk2] at c
          exact c
        have hmem : key ∈ li A 4 := hxs ▸ List.getElem_mem hk2
        have hix : (li A 4).idxOf key = k := by
          have : li A 4 = (li A 4).take k ++ key :: (li A 4).drop (k + 1) := by
            rw [← hxs, List.getElem_cons_drop, List.take_append_drop]
          rw [this, List.idxOf_append, if_neg hx, List.idxOf_cons_self, List.length_take]
          omega
        refine inner k none hk2 hmem (List.erase_eq_eraseIdx_of_idxOf hix) _ k rfl (Nat.le_refl _) (by omega) _ _ (by rw [hset_s, H1]; rfl) (fun j => ?_) (by rw [List.length_set]) (fun i hi => hset_n (Ne.symm hi))
        by_cases c0 : j = 1552
        · rw [if_pos c0, c0, upd_e]
        · rw [if_neg c0, upd_n c0, if_neg (by omega)]
      · refine ih (k + 1) (by omega) (by omega) ?_
        rw [rw_take_succ hk2, List.mem_append]
        rintro (q | q)
        · exact hx q
        · refine c ?_
          have := List.mem_singleton.mp q
          rw [List.getD_eq_getElem?_getD, List.getElem?_eq_getElem hk2] at this ⊢
          exact this.symm
  simp only [w_X12_regrets_0, w_X12_regrets_1, pm_1i_c, pm_2i_c, pm_1l_c, pm_2l_c, pm_1a_c, pm_ia_c, pm_iia_c, pm_va_c, pm_cp_c, pm_k0_c, pm_k1_c, pm_k2_c, pm_k3_c, pm_s1_c, pm_s2_c, pm_s3_c, pm_s4_c, pm_ri_c, pm_ra_c, pm_rn_c, pm_rk_i, pm_rk_z, pm_rk_a, pm_vk_i, pm_vk_z, pm_vk_a, pm_cti, pm_ctr, pm_ldi_z, pm_ldi_s, pm_lda_z, pm_lda_s, pm_cat_n, pm_cat_i, pm_cat_r, pm_cat_l, pm_obj, pm_arr, pm_opt, pm_ird, pm_aln, List.getElem?_cons_zero, List.getElem?_cons_succ, List.set_cons_zero, List.set_cons_succ, List.length_cons, List.length_nil, List.length_set, true_and, and_true, Nat.add_zero, Nat.zero_add, Nat.le_refl, Nat.reduceAdd, Nat.reduceLT, Nat.reduceLeDiff, Nat.zero_le, not_false_eq_true, not_true_eq_false, false_implies, implies_true, true_implies, Nat.zero_lt_succ, Nat.lt_add_one]
  exact loop _ 0 rfl (Nat.zero_le _) (by simp)
set_option maxHeartbeats 1000000 in
theorem c_M_remembers (H : md_ h m o A) (key : Int32) (d : Nat) : PM (d + 1) 199 [.ref m, .int key] h (fun v h' => v = none ∧ md_ h' m o (remF A key) ∧ fr1 h h' (m + 1)) := by
  obtain ⟨H0, f, H1, R⟩ := H
  have H0' := H0
  unfold mO at H0
  obtain ⟨a1, a2, a3⟩ := R.h
  have mo : ∀ hh, fr1 h hh (m + 1) → hh[m]? = h[m]? := fun hh q => q m (by omega)
  refine en_X12_remembers rfl rfl ?_
  -- behind: xs is what is left of the history
  have tail : ∀ (hh : pmH) (g : Nat → Int32) (xs : List Int32) (x2 : Option Value), hh[m + 1]? = some (.inl (0, 2195, .inl g)) → xs.length < 100 → xs = (if (li A 5).length < 100 then li A 5 else (li A 5).eraseIdx 0) → (∀ j, j < 1569 ∨ 1670 ≤ j → g j = f j) → g 1569 = nI xs.length → (∀ k, k < xs.length → g (1570 + k) = xs.getD k (-1)) → hh.length = h.length → fr1 h hh (m + 1) → W_X12_remembers d (h.length + 0) 0 (fun v h' => v = none ∧ md_ h' m o (remF A key) ∧ fr1 h h' (m + 1)) 61 [some (.ref m), some (.int key), x2] [] hh 0 := by
    intro hh g xs x2 q1 hx ex q2 q3 q4 q5 q6
    have hm := mo hh q6
    have v1 : vp_in (nI (1570 + xs.length)) 2195 := vp_in_nI (by omega) (by omega)
    have c1 : (nI (1570 + xs.length)).toNatClampNeg = 1570 + xs.length := nI_clamp (by omega)
    simp only [w_X12_remembers_61, w_X12_remembers_62, w_X12_remembers_65, w_X12_remembers_68, w_X12_remembers_69, w_X12_remembers_72, w_X12_remembers_75, w_X12_remembers_76, w_X12_remembers_77, w_X12_remembers_78, w_X12_remembers_79, w_X12_remembers_80, w_X12_remembers_83, w_X12_remembers_86, w_X12_remembers_87, w_X12_remembers_88, w_X12_remembers_89, w_X12_remembers_90, w_X12_remembers_91, pm_1i_c, pm_2i_c, pm_1l_c, pm_2l_c, pm_1a_c, pm_ia_c, pm_iia_c, pm_va_c, pm_cp_c, pm_k0_c, pm_k1_c, pm_k2_c, pm_k3_c, pm_s1_c, pm_s2_c, pm_s3_c, pm_s4_c, pm_ri_c, pm_ra_c, pm_rn_c, pm_rk_i, pm_rk_z, pm_rk_a, pm_vk_i, pm_vk_z, pm_vk_a, pm_cti, pm_ctr, pm_ldi_z, pm_ldi_s, pm_lda_z, pm_lda_s, pm_cat_n, pm_cat_i, pm_cat_r, pm_cat_l, pm_obj, pm_arr, pm_opt, pm_ird, pm_aln, List.getElem?_cons_zero, List.getElem?_cons_succ, List.set_cons_zero, List.set_cons_succ, List.length_cons, List.length_nil, List.length_set, true_and, and_true, Nat.add_zero, Nat.zero_add, Nat.le_refl, Nat.reduceAdd, Nat.reduceLT, Nat.reduceLeDiff, Nat.zero_le, not_false_eq_true, not_true_eq_false, false_implies, implies_true, true_implies, Nat.zero_lt_succ, Nat.lt_add_one, hm, H0, q1, ix_1569, vi_1569, q3, nI1570, v1, c1, nI_1, hset_r1, hset_s, Option.map_some, List.set_set, q5, upd_n (show 1569 ≠ 1570 + xs.length by omega)]
    have e : remF A key = uL A 5 (xs ++ [key]) := by
      unfold remF hisF
      rw [ex]
    rw [e]
    obtain ⟨M, F⟩ := md_.set (A' := uL A 5 (xs ++ [key])) (f' := upd (upd g (1570 + xs.length) key) 1569 (nI (xs.length + 1))) (H0'.kept q6) q1 (by
      refine R.gH (fun k hk => ?_) (by rw [List.length_append, List.length_singleton]; omega) (by rw [upd_e, List.length_append, List.length_singleton]) (fun k hk => ?_)
      · rw [upd_n (by omega), upd_n (by omega)]
        exact q2 k hk
      · rw [List.length_append, List.length_singleton] at hk
        rw [upd_n (by omega), List.getD_eq_getElem?_getD, List.getElem?_append]
        by_cases c : k = xs.length
        · rw [c, upd_e, if_neg (by omega), Nat.sub_self]
          rfl
        · rw [upd_n (by omega), if_pos (by omega), q4 k (by omega), List.getD_eq_getElem?_getD])
    exact ⟨M, q6.tr F⟩
  by_cases c : (li A 5).length < 100
  · have e1 : ¬ nI (li A 5).length = 100 := fun z => by
      have := (nI_inj (a := (li A 5).length) (b := 100) (by omega) (by omega)).mp z
      omega
    simp only [w_X12_remembers_0, w_X12_remembers_1, w_X12_remembers_4, w_X12_remembers_7, w_X12_remembers_8, w_X12_remembers_10, pm_1i_c, pm_2i_c, pm_1l_c, pm_2l_c, pm_1a_c, pm_ia_c, pm_iia_c, pm_va_c, pm_cp_c, pm_k0_c, pm_k1_c, pm_k2_c, pm_k3_c, pm_s1_c, pm_s2_c, pm_s3_c, pm_s4_c, pm_ri_c, pm_ra_c, pm_rn_c, pm_rk_i, pm_rk_z, pm_rk_a, pm_vk_i, pm_vk_z, pm_vk_a, pm_cti, pm_ctr, pm_ldi_z, pm_ldi_s, pm_lda_z, pm_lda_s, pm_cat_n, pm_cat_i, pm_cat_r, pm_cat_l, pm_obj, pm_arr, pm_opt, pm_ird, pm_aln, List.getElem?_cons_zero, List.getElem?_cons_succ, List.set_cons_zero, List.set_cons_succ, List.length_cons, List.length_nil, List.length_set, true_and, and_true, Nat.add_zero, Nat.zero_add, Nat.le_refl, Nat.reduceAdd, Nat.reduceLT, Nat.reduceLeDiff, Nat.zero_le, not_false_eq_true, not_true_eq_false, false_implies, implies_true, true_implies, Nat.zero_lt_succ, Nat.lt_add_one, H0, H1, ix_1569, vi_1569, a2, e1]
    exact tail h f (li A 5) _ H1 c (by rw [if_pos c]) (fun j hj => rfl) a2 a3 rfl fr1.rf
  · have l100 : (li A 5).length = 100 := by omega
    have e1 : nI (li A 5).length = 100 := by rw [l100]; rfl
    simp only [w_X12_remembers_0, w_X12_remembers_1, w_X12_remembers_4, w_X12_remembers_7, w_X12_remembers_8, w_X12_remembers_10, w_X12_remembers_13, w_X12_remembers_14, pm_1i_c, pm_2i_c, pm_1l_c, pm_2l_c, pm_1a_c, pm_ia_c, pm_iia_c, pm_va_c, pm_cp_c, pm_k0_c, pm_k1_c, pm_k2_c, pm_k3_c, pm_s1_c, pm_s2_c, pm_s3_c, pm_s4_c, pm_ri_c, pm_ra_c, pm_rn_c, pm_rk_i, pm_rk_z, pm_rk_a, pm_vk_i, pm_vk_z, pm_vk_a, pm_cti, pm_ctr, pm_ldi_z, pm_ldi_s, pm_lda_z, pm_lda_s, pm_cat_n, pm_cat_i, pm_cat_r, pm_cat_l, pm_obj, pm_arr, pm_opt, pm_ird, pm_aln, List.getElem?_cons_zero, List.getElem?_cons_succ, List.set_cons_zero, List.set_cons_succ, List.length_cons, List.length_nil, List.length_set, true_and, and_true, Nat.add_zero, Nat.zero_add, Nat.le_refl, Nat.reduceAdd, Nat.reduceLT, Nat.reduceLeDiff, Nat.zero_le, not_false_eq_true, not_true_eq_false, false_implies, implies_true, true_implies, Nat.zero_lt_succ, Nat.lt_add_one, H0, H1, ix_1569, vi_1569, a2, e1]
    have loop : ∀ n k, 100 - k = n → 1 ≤ k → k ≤ 100 → ∀ (hh : pmH) (g : Nat → Int32), hh[m + 1]? = some (.inl (0, 2195, .inl g)) → (∀ j, g j = if 1570 ≤ j ∧ j < 1569 + k then f (j + 1) else f j) → hh.length = h.length → fr1 h hh (m + 1) → W_X12_remembers d (h.length + 0) 0 (fun v h' => v = none ∧ md_ h' m o (remF A key) ∧ fr1 h h' (m + 1)) 15 [some (.ref m), some (.int key), some (.int (nI k))] [] hh 0 := by
      intro n
      induction n with
      | zero =>
        intro k hn hk1 hk hh g q1 q2 q5 q6
        have : k = 100 := by omega
        subst this
        have e2 : ¬ nI 100 < 100 := by decide
        have hm := mo hh q6
        have gat : g 1569 = nI 100 := by rw [q2, if_neg (by omega), a2, l100]
        have len : ((li A 5).eraseIdx 0).length = 99 := by rw [List.length_eraseIdx_of_lt (by omega)]; omega
        rw [w_X12_remembers_15]
        simp only [w_X12_remembers_16, w_X12_remembers_18, w_X12_remembers_49, w_X12_remembers_50, w_X12_remembers_53, w_X12_remembers_56, w_X12_remembers_57, w_X12_remembers_58, w_X12_remembers_59, w_X12_remembers_60, pm_1i_c, pm_2i_c, pm_1l_c, pm_2l_c, pm_1a_c, pm_ia_c, pm_iia_c, pm_va_c, pm_cp_c, pm_k0_c, pm_k1_c, pm_k2_c, pm_k3_c, pm_s1_c, pm_s2_c, pm_s3_c, pm_s4_c, pm_ri_c, pm_ra_c, pm_rn_c, pm_rk_i, pm_rk_z, pm_rk_a, pm_vk_i, pm_vk_z, pm_vk_a, pm_cti, pm_ctr, pm_ldi_z, pm_ldi_s, pm_lda_z, pm_lda_s, pm_cat_n, pm_cat_i, pm_cat_r, pm_cat_l, pm_obj, pm_arr, pm_opt, pm_ird, pm_aln, List.getElem?_cons_zero, List.getElem?_cons_succ, List.set_cons_zero, List.set_cons_succ, List.length_cons, List.length_nil, List.length_set, true_and, and_true, Nat.add_zero, Nat.zero_add, Nat.le_refl, Nat.reduceAdd, Nat.reduceLT, Nat.reduceLeDiff, Nat.zero_le, not_false_eq_true, not_true_eq_false, false_implies, implies_true, true_implies, Nat.zero_lt_succ, Nat.lt_add_one, hm, H0, q1, ix_1569, vi_1569, e2, gat]
        refine tail _ _ ((li A 5).eraseIdx 0) _ (by rw [hset_s, q1]; rfl) (by omega) (by rw [if_neg c]) (fun j hj => ?_) (by rw [upd_e, len]; rfl) (fun k hk => ?_) (by rw [List.length_set]; exact q5) (q6.tr (fun i hi => hset_n (Ne.symm hi)))
        · rw [upd_n (by omega), q2, if_neg (by omega)]
        · rw [upd_n (by omega), q2, if_pos (by omega), List.getD_eq_getElem?_getD, List.getElem?_eraseIdx, if_neg (by omega), ← List.getD_eq_getElem?_getD, ← a3 (k + 1) (by omega)]
          congr 1
      | succ n ih =>
        intro k hn hk1 hk hh g q1 q2 q5 q6
        have e2 : nI k < 100 := nI_lt (b := 100) (by omega) (by omega)
        have hm := mo hh q6
        have v1 : vp_in (nI (1569 + k)) 2195 := vp_in_nI (by omega) (by omega)
        have c1 : (nI (1569 + k)).toNatClampNeg = 1569 + k := nI_clamp (by omega)
        have v2 : vp_in (nI (1569 + k + 1)) 2195 := vp_in_nI (by omega) (by omega)
        have c2 : (nI (1569 + k + 1)).toNatClampNeg = 1569 + k + 1 := nI_clamp (by omega)
        rw [w_X12_remembers_15]
        simp only [w_X12_remembers_16, w_X12_remembers_18, w_X12_remembers_21, w_X12_remembers_22, w_X12_remembers_25, w_X12_remembers_28, w_X12_remembers_29, w_X12_remembers_30, w_X12_remembers_31, w_X12_remembers_34, w_X12_remembers_37, w_X12_remembers_38, w_X12_remembers_39, w_X12_remembers_40, w_X12_remembers_41, w_X12_remembers_42, w_X12_remembers_43, w_X12_remembers_46, pm_1i_c, pm_2i_c, pm_1l_c, pm_2l_c, pm_1a_c, pm_ia_c, pm_iia_c, pm_va_c, pm_cp_c, pm_k0_c, pm_k1_c, pm_k2_c, pm_k3_c, pm_s1_c, pm_s2_c, pm_s3_c, pm_s4_c, pm_ri_c, pm_ra_c, pm_rn_c, pm_rk_i, pm_rk_z, pm_rk_a, pm_vk_i, pm_vk_z, pm_vk_a, pm_cti, pm_ctr, pm_ldi_z, pm_ldi_s, pm_lda_z, pm_lda_s, pm_cat_n, pm_cat_i, pm_cat_r, pm_cat_l, pm_obj, pm_arr, pm_opt, pm_ird, pm_aln, List.getElem?_cons_zero, List.getElem?_cons_succ, List.set_cons_zero, List.set_cons_succ, List.length_cons, List.length_nil, List.length_set, true_and, and_true, Nat.add_zero, Nat.zero_add, Nat.le_refl, Nat.reduceAdd, Nat.reduceLT, Nat.reduceLeDiff, Nat.zero_le, not_false_eq_true, not_true_eq_false, false_implies, implies_true, true_implies, Nat.zero_lt_succ, Nat.lt_add_one, hm, H0, q1, e2, nI1569, nI_1, v1, c1, v2, c2]
        refine ih (k + 1) (by omega) (by omega) (by omega) _ _ (by rw [hset_s, q1]; rfl) (fun j => ?_) (by rw [List.length_set]; exact q5) (q6.tr (fun i hi => hset_n (Ne.symm hi)))
        by_cases c : j = 1569 + k
        · rw [c, upd_e, q2, if_neg (by omega), if_pos (by omega)]
        · rw [upd_n c, q2]
          by_cases c3 : 1570 ≤ j ∧ j < 1569 + k
          · rw [if_pos c3, if_pos (by omega)]
          · rw [if_neg c3, if_neg (by omega)]
    exact loop 99 1 rfl (by omega) (by omega) h f H1 (fun j => by rw [if_neg (by omega)]) rfl fr1.rf
theorem c_M_forgetsLatest (H : md_ h m o A) (d : Nat) : PM (d + 1) 150 [.ref m] h (fun v h' => v = none ∧ md_ h' m o (clrF A) ∧ fr1 h h' (m + 1)) := by
  obtain ⟨H0, f, H1, R⟩ := H
  have H0' := H0
  unfold mO at H0
  refine en_X12_forgetsLatest rfl ?_
  have x1 : (1689 : Int32) + 0 = 1689 := rfl
  have x2 : (1689 : Int32) + 1 = 1690 := rfl
  have x3 : (1689 : Int32) + 2 = 1691 := rfl
  have x4 : (1689 : Int32) + 3 = 1692 := rfl
  have n1 : (0 : Int32) + 1 = 1 := rfl
  have n2 : (1 : Int32) + 1 = 2 := rfl
  have n3 : (2 : Int32) + 1 = 3 := rfl
  have n4 : (3 : Int32) + 1 = 4 := rfl
  have hmm : ∀ (l : pmH) (c : pmC), (l.set (m + 1) c)[m]? = l[m]? := fun _ _ => hset_n (by omega)
  simp only [w_X12_forgetsLatest_0, w_X12_forgetsLatest_1, pm_1i_c, pm_2i_c, pm_1l_c, pm_2l_c, pm_1a_c, pm_ia_c, pm_iia_c, pm_va_c, pm_cp_c, pm_k0_c, pm_k1_c, pm_k2_c, pm_k3_c, pm_s1_c, pm_s2_c, pm_s3_c, pm_s4_c, pm_ri_c, pm_ra_c, pm_rn_c, pm_rk_i, pm_rk_z, pm_rk_a, pm_vk_i, pm_vk_z, pm_vk_a, pm_cti, pm_ctr, pm_ldi_z, pm_ldi_s, pm_lda_z, pm_lda_s, pm_cat_n, pm_cat_i, pm_cat_r, pm_cat_l, pm_obj, pm_arr, pm_opt, pm_ird, pm_aln, List.getElem?_cons_zero, List.getElem?_cons_succ, List.set_cons_zero, List.set_cons_succ, List.length_cons, List.length_nil, List.length_set, true_and, and_true, Nat.add_zero, Nat.zero_add, Nat.le_refl, Nat.reduceAdd, Nat.reduceLT, Nat.reduceLeDiff, Nat.zero_le, not_false_eq_true, not_true_eq_false, false_implies, implies_true, true_implies, Nat.zero_lt_succ, Nat.lt_add_one]
  rw [w_X12_forgetsLatest_2]
  simp only [w_X12_forgetsLatest_3, w_X12_forgetsLatest_4, w_X12_forgetsLatest_7, w_X12_forgetsLatest_8, w_X12_forgetsLatest_11, w_X12_forgetsLatest_14, w_X12_forgetsLatest_15, w_X12_forgetsLatest_16, w_X12_forgetsLatest_17, w_X12_forgetsLatest_18, w_X12_forgetsLatest_21, pm_1i_c, pm_2i_c, pm_1l_c, pm_2l_c, pm_1a_c, pm_ia_c, pm_iia_c, pm_va_c, pm_cp_c, pm_k0_c, pm_k1_c, pm_k2_c, pm_k3_c, pm_s1_c, pm_s2_c, pm_s3_c, pm_s4_c, pm_ri_c, pm_ra_c, pm_rn_c, pm_rk_i, pm_rk_z, pm_rk_a, pm_vk_i, pm_vk_z, pm_vk_a, pm_cti, pm_ctr, pm_ldi_z, pm_ldi_s, pm_lda_z, pm_lda_s, pm_cat_n, pm_cat_i, pm_cat_r, pm_cat_l, pm_obj, pm_arr, pm_opt, pm_ird, pm_aln, List.getElem?_cons_zero, List.getElem?_cons_succ, List.set_cons_zero, List.set_cons_succ, List.length_cons, List.length_nil, List.length_set, true_and, and_true, Nat.add_zero, Nat.zero_add, Nat.le_refl, Nat.reduceAdd, Nat.reduceLT, Nat.reduceLeDiff, Nat.zero_le, not_false_eq_true, not_true_eq_false, false_implies, implies_true, true_implies, Nat.zero_lt_succ, Nat.lt_add_one, H0, H1, x1, x2, x3, x4, n1, n2, n3, n4, ix_1689, vi_1689, ix_1690, vi_1690, ix_1691, vi_1691, ix_1692, vi_1692, hmm, hset_s, Option.map_some, List.set_set, show (0 : Int32) < 4 by decide, show (1 : Int32) < 4 by decide, show (2 : Int32) < 4 by decide, show (3 : Int32) < 4 by decide, show ¬ (4 : Int32) < 4 by decide]
  rw [w_X12_forgetsLatest_2]
  simp only [w_X12_forgetsLatest_3, w_X12_forgetsLatest_4, w_X12_forgetsLatest_7, w_X12_forgetsLatest_8, w_X12_forgetsLatest_11, w_X12_forgetsLatest_14, w_X12_forgetsLatest_15, w_X12_forgetsLatest_16, w_X12_forgetsLatest_17, w_X12_forgetsLatest_18, w_X12_forgetsLatest_21, pm_1i_c, pm_2i_c, pm_1l_c, pm_2l_c, pm_1a_c, pm_ia_c, pm_iia_c, pm_va_c, pm_cp_c, pm_k0_c, pm_k1_c, pm_k2_c, pm_k3_c, pm_s1_c, pm_s2_c, pm_s3_c, pm_s4_c, pm_ri_c, pm_ra_c, pm_rn_c, pm_rk_i, pm_rk_z, pm_rk_a, pm_vk_i, pm_vk_z, pm_vk_a, pm_cti, pm_ctr, pm_ldi_z, pm_ldi_s, pm_lda_z, pm_lda_s, pm_cat_n, pm_cat_i, pm_cat_r, pm_cat_l, pm_obj, pm_arr, pm_opt, pm_ird, pm_aln, List.getElem?_cons_zero, List.getElem?_cons_succ, List.set_cons_zero, List.set_cons_succ, List.length_cons, List.length_nil, List.length_set, true_and, and_true, Nat.add_zero, Nat.zero_add, Nat.le_refl, Nat.reduceAdd, Nat.reduceLT, Nat.reduceLeDiff, Nat.zero_le, not_false_eq_true, not_true_eq_false, false_implies, implies_true, true_implies, Nat.zero_lt_succ, Nat.lt_add_one, H0, H1, x1, x2, x3, x4, n1, n2, n3, n4, ix_1689, vi_1689, ix_1690, vi_1690, ix_1691, vi_1691, ix_1692, vi_1692, hmm, hset_s, Option.map_some, List.set_set, show (0 : Int32) < 4 by decide, show (1 : Int32) < 4 by decide, show (2 : Int32) < 4 by decide, show (3 : Int32) < 4 by decide, show ¬ (4 : Int32) < 4 by decide]
  rw [w_X12_forgetsLatest_2]
  simp only [w_X12_forgetsLatest_3, w_X12_forgetsLatest_4, w_X12_forgetsLatest_7, w_X12_forgetsLatest_8, w_X12_forgetsLatest_11, w_X12_forgetsLatest_14, w_X12_forgetsLatest_15, w_X12_forgetsLatest_16, w_X12_forgetsLatest_17, w_X12_forgetsLatest_18, w_X12_forgetsLatest_21, pm_1i_c, pm_2i_c, pm_1l_c, pm_2l_c, pm_1a_c, pm_ia_c, pm_iia_c, pm_va_c, pm_cp_c, pm_k0_c, pm_k1_c, pm_k2_c, pm_k3_c, pm_s1_c, pm_s2_c, pm_s3_c, pm_s4_c, pm_ri_c, pm_ra_c, pm_rn_c, pm_rk_i, pm_rk_z, pm_rk_a, pm_vk_i, pm_vk_z, pm_vk_a, pm_cti, pm_ctr, pm_ldi_z, pm_ldi_s, pm_lda_z, pm_lda_s, pm_cat_n, pm_cat_i, pm_cat_r, pm_cat_l, pm_obj, pm_arr, pm_opt, pm_ird, pm_aln, List.getElem?_cons_zero, List.getElem?_cons_succ, List.set_cons_zero, List.set_cons_succ, List.length_cons, List.length_nil, List.length_set, true_and, and_true, Nat.add_zero, Nat.zero_add, Nat.le_refl, Nat.reduceAdd, Nat.reduceLT, Nat.reduceLeDiff, Nat.zero_le, not_false_eq_true, not_true_eq_false, false_implies, implies_true, true_implies, Nat.zero_lt_succ, Nat.lt_add_one, H0, H1, x1, x2, x3, x4, n1, n2, n3, n4, ix_1689, vi_1689, ix_1690, vi_1690, ix_1691, vi_1691, ix_1692, vi_1692, hmm, hset_s, Option.map_some, List.set_set, show (0 : Int32) < 4 by decide, show (1 : Int32) < 4 by decide, show (2 : Int32) < 4 by decide, show (3 : Int32) < 4 by decide, show ¬ (4 : Int32) < 4 by decide]
  rw [w_X12_forgetsLatest_2]
  simp only [w_X12_forgetsLatest_3, w_X12_forgetsLatest_4, w_X12_forgetsLatest_7, w_X12_forgetsLatest_8, w_X12_forgetsLatest_11, w_X12_forgetsLatest_14, w_X12_forgetsLatest_15, w_X12_forgetsLatest_16, w_X12_forgetsLatest_17, w_X12_forgetsLatest_18, w_X12_forgetsLatest_21, pm_1i_c, pm_2i_c, pm_1l_c, pm_2l_c, pm_1a_c, pm_ia_c, pm_iia_c, pm_va_c, pm_cp_c, pm_k0_c, pm_k1_c, pm_k2_c, pm_k3_c, pm_s1_c, pm_s2_c, pm_s3_c, pm_s4_c, pm_ri_c, pm_ra_c, pm_rn_c, pm_rk_i, pm_rk_z, pm_rk_a, pm_vk_i, pm_vk_z, pm_vk_a, pm_cti, pm_ctr, pm_ldi_z, pm_ldi_s, pm_lda_z, pm_lda_s, pm_cat_n, pm_cat_i, pm_cat_r, pm_cat_l, pm_obj, pm_arr, pm_opt, pm_ird, pm_aln, List.getElem?_cons_zero, List.getElem?_cons_succ, List.set_cons_zero, List.set_cons_succ, List.length_cons, List.length_nil, List.length_set, true_and, and_true, Nat.add_zero, Nat.zero_add, Nat.le_refl, Nat.reduceAdd, Nat.reduceLT, Nat.reduceLeDiff, Nat.zero_le, not_false_eq_true, not_true_eq_false, false_implies, implies_true, true_implies, Nat.zero_lt_succ, Nat.lt_add_one, H0, H1, x1, x2, x3, x4, n1, n2, n3, n4, ix_1689, vi_1689, ix_1690, vi_1690, ix_1691, vi_1691, ix_1692, vi_1692, hmm, hset_s, Option.map_some, List.set_set, show (0 : Int32) < 4 by decide, show (1 : Int32) < 4 by decide, show (2 : Int32) < 4 by decide, show (3 : Int32) < 4 by decide, show ¬ (4 : Int32) < 4 by decide]
  rw [w_X12_forgetsLatest_2]
  simp only [w_X12_forgetsLatest_3, w_X12_forgetsLatest_4, w_X12_forgetsLatest_24, pm_1i_c, pm_2i_c, pm_1l_c, pm_2l_c, pm_1a_c, pm_ia_c, pm_iia_c, pm_va_c, pm_cp_c, pm_k0_c, pm_k1_c, pm_k2_c, pm_k3_c, pm_s1_c, pm_s2_c, pm_s3_c, pm_s4_c, pm_ri_c, pm_ra_c, pm_rn_c, pm_rk_i, pm_rk_z, pm_rk_a, pm_vk_i, pm_vk_z, pm_vk_a, pm_cti, pm_ctr, pm_ldi_z, pm_ldi_s, pm_lda_z, pm_lda_s, pm_cat_n, pm_cat_i, pm_cat_r, pm_cat_l, pm_obj, pm_arr, pm_opt, pm_ird, pm_aln, List.getElem?_cons_zero, List.getElem?_cons_succ, List.set_cons_zero, List.set_cons_succ, List.length_cons, List.length_nil, List.length_set, true_and, and_true, Nat.add_zero, Nat.zero_add, Nat.le_refl, Nat.reduceAdd, Nat.reduceLT, Nat.reduceLeDiff, Nat.zero_le, not_false_eq_true, not_true_eq_false, false_implies, implies_true, true_implies, Nat.zero_lt_succ, Nat.lt_add_one, H0, H1, x1, x2, x3, x4, n1, n2, n3, n4, ix_1689, vi_1689, ix_1690, vi_1690, ix_1691, vi_1691, ix_1692, vi_1692, hmm, hset_s, Option.map_some, List.set_set, show (0 : Int32) < 4 by decide, show (1 : Int32) < 4 by decide, show (2 : Int32) < 4 by decide, show (3 : Int32) < 4 by decide, show ¬ (4 : Int32) < 4 by decide]
  have R4 := (((R.gS (i := 19) (by omega) (-1)).gS (i := 20) (by omega) (-1)).gS (i := 21) (by omega) (-1)).gS (i := 22) (by omega) (-1)
  exact md_.set (A' := clrF A) H0' H1 R4
end ME
