/-! AdmissionDeskModel: words taken, numbers. -/
theorem sgB_e {v u : Nat} (hv : v < 256) (hu : u < 128) : sgB (nI v) = nI u ↔ nI v = nI u := by
  rw [← Int32.toInt_inj, ← Int32.toInt_inj, sg_int hv, nI_toInt (by omega), nI_toInt (by omega)]
  split <;> omega
section MR
variable {h0 h h' : pmH} {m : Nat} {o : Nat → Int32} {bs : List Int32} {p b dp n : Nat} {fa dm : Int32} {cs ks : List Int32} {s : PS} {i : Nat} {t : String}
theorem c_Y_wordMany (P : pr_ h0 h m o bs p b dp n fa cs ks) (T : tap_ h0 m bs) (hp : p ≤ bs.length) (d : Nat) : PM (d + 3) 161 [.ref m] h (fun x h' => x = some (.int (nI (beR isL bs (skp bs p) - skp bs p))) ∧ pr_ h0 h' m o bs (skp bs p) (skp bs p) dp n fa cs ks) := by
  refine en_X12_wordMany rfl ?_
  have H0 := P.c0
  have L4 := T.1
  simp only [w_X12_wordMany_0, w_X12_wordMany_1, pm_1i_c, pm_2i_c, pm_1l_c, pm_2l_c, pm_1a_c, pm_ia_c, pm_iia_c, pm_va_c, pm_cp_c, pm_k0_c, pm_k1_c, pm_k2_c, pm_k3_c, pm_s1_c, pm_s2_c, pm_s3_c, pm_s4_c, pm_ri_c, pm_ra_c, pm_rn_c, pm_rk_i, pm_rk_z, pm_rk_a, pm_vk_i, pm_vk_z, pm_vk_a, pm_cti, pm_ctr, pm_ldi_z, pm_ldi_s, pm_lda_z, pm_lda_s, pm_cat_n, pm_cat_i, pm_cat_r, pm_cat_l, pm_obj, pm_arr, pm_opt, pm_ird, pm_aln, List.getElem?_cons_zero, List.getElem?_cons_succ, List.set_cons_zero, List.set_cons_succ, List.length_cons, List.length_nil, List.length_set, true_and, and_true, Nat.add_zero, Nat.zero_add, Nat.le_refl, Nat.reduceAdd, Nat.reduceLT, Nat.reduceLeDiff, Nat.zero_le, not_false_eq_true, not_true_eq_false, false_implies, implies_true, true_implies, Nat.zero_lt_succ, Nat.lt_add_one, H0]
  refine PM_use (c_Y_blanks P T hp d) ?_
  rintro x h1 l1 ⟨rfl, P1⟩
  have H1 := P1.c0
  obtain ⟨f, f1, f2⟩ := P1.ta T
  have kp := skp_le (bs := bs) hp
  obtain ⟨b1, b2, b3, b4⟩ := beR_stop isL (bs.length - skp bs p) (skp bs p) rfl kp.2
  have loop : ∀ z k, bs.length - k = z → skp bs p ≤ k → k ≤ bs.length → beR isL bs k = beR isL bs (skp bs p) → W_X12_wordMany (d + 2) (h.length + 0) 0 (fun x h' => x = some (.int (nI (beR isL bs (skp bs p) - skp bs p))) ∧ pr_ h0 h' m o bs (skp bs p) (skp bs p) dp n fa cs ks) 9 [some (.ref m), some (.int (nI k))] [] h1 0 := by
    intro z
    induction z with
    | zero =>
      intro k hz hk hk2 e
      have c' : ¬ nI k < nI bs.length := nI_nlt (by omega) (by omega)
      rw [beR_end isL (by omega)] at e
      rw [w_X12_wordMany_9]
      simp only [w_X12_wordMany_10, w_X12_wordMany_11, w_X12_wordMany_14, w_X12_wordMany_45, w_X12_wordMany_46, w_X12_wordMany_47, w_X12_wordMany_50, w_X12_wordMany_51, pm_1i_c, pm_2i_c, pm_1l_c, pm_2l_c, pm_1a_c, pm_ia_c, pm_iia_c, pm_va_c, pm_cp_c, pm_k0_c, pm_k1_c, pm_k2_c, pm_k3_c, pm_s1_c, pm_s2_c, pm_s3_c, pm_s4_c, pm_ri_c, pm_ra_c, pm_rn_c, pm_rk_i, pm_rk_z, pm_rk_a, pm_vk_i, pm_vk_z, pm_vk_a, pm_cti, pm_ctr, pm_ldi_z, pm_ldi_s, pm_lda_z, pm_lda_s, pm_cat_n, pm_cat_i, pm_cat_r, pm_cat_l, pm_obj, pm_arr, pm_opt, pm_ird, pm_aln, List.getElem?_cons_zero, List.getElem?_cons_succ, List.set_cons_zero, List.set_cons_succ, List.length_cons, List.length_nil, List.length_set, true_and, and_true, Nat.add_zero, Nat.zero_add, Nat.le_refl, Nat.reduceAdd, Nat.reduceLT, Nat.reduceLeDiff, Nat.zero_le, not_false_eq_true, not_true_eq_false, false_implies, implies_true, true_implies, Nat.zero_lt_succ, Nat.lt_add_one, H1, c', l1]
      rw [pk_sub (by omega), e]
      exact ⟨rfl, P1⟩
    | succ z ih =>
      intro k hz hk hk2 e
      have c' : nI k < nI bs.length := nI_lt (by omega) (by omega)
      have v1 : vp_in (nI k) 400 := vp_in_nI (by omega) (by omega)
      have v2 : (nI k).toNatClampNeg = k := nI_clamp (by omega)
      have v3 := f2 k (by omega)
      have al := atV_l T.2.1 k
      unfold atV at al
      rw [decide_eq_true_eq] at al
      rw [w_X12_wordMany_9]
      cases y : isL (bs.getD k (-1)) with
      | true =>
        obtain ⟨-, u1, u2⟩ := al.mpr ⟨by omega, y⟩
        simp only [w_X12_wordMany_10, w_X12_wordMany_11, w_X12_wordMany_14, w_X12_wordMany_17, w_X12_wordMany_18, w_X12_wordMany_21, w_X12_wordMany_22, w_X12_wordMany_23, w_X12_wordMany_25, w_X12_wordMany_28, w_X12_wordMany_29, w_X12_wordMany_32, w_X12_wordMany_33, w_X12_wordMany_34, w_X12_wordMany_36, w_X12_wordMany_39, w_X12_wordMany_42, pm_1i_c, pm_2i_c, pm_1l_c, pm_2l_c, pm_1a_c, pm_ia_c, pm_iia_c, pm_va_c, pm_cp_c, pm_k0_c, pm_k1_c, pm_k2_c, pm_k3_c, pm_s1_c, pm_s2_c, pm_s3_c, pm_s4_c, pm_ri_c, pm_ra_c, pm_rn_c, pm_rk_i, pm_rk_z, pm_rk_a, pm_vk_i, pm_vk_z, pm_vk_a, pm_cti, pm_ctr, pm_ldi_z, pm_ldi_s, pm_lda_z, pm_lda_s, pm_cat_n, pm_cat_i, pm_cat_r, pm_cat_l, pm_obj, pm_arr, pm_opt, pm_ird, pm_aln, List.getElem?_cons_zero, List.getElem?_cons_succ, List.set_cons_zero, List.set_cons_succ, List.length_cons, List.length_nil, List.length_set, true_and, and_true, Nat.add_zero, Nat.zero_add, Nat.le_refl, Nat.reduceAdd, Nat.reduceLT, Nat.reduceLeDiff, Nat.zero_le, not_false_eq_true, not_true_eq_false, false_implies, implies_true, true_implies, Nat.zero_lt_succ, Nat.lt_add_one, H1, c', l1, f1, v1, v2, v3, u1, u2, nI_1, true_or]
        exact ih (k + 1) (by omega) (by omega) (by omega) ((beR_in isL (by omega) y).symm.trans e)
      | false =>
        rw [beR_out isL (by omega) y] at e
        have fin : W_X12_wordMany (d + 2) (h.length + 0) 0 (fun x h' => x = some (.int (nI (beR isL bs (skp bs p) - skp bs p))) ∧ pr_ h0 h' m o bs (skp bs p) (skp bs p) dp n fa cs ks) 45 [some (.ref m), some (.int (nI k))] [] h1 0 := by
          simp only [w_X12_wordMany_45, w_X12_wordMany_46, w_X12_wordMany_47, w_X12_wordMany_50, w_X12_wordMany_51, pm_1i_c, pm_2i_c, pm_1l_c, pm_2l_c, pm_1a_c, pm_ia_c, pm_iia_c, pm_va_c, pm_cp_c, pm_k0_c, pm_k1_c, pm_k2_c, pm_k3_c, pm_s1_c, pm_s2_c, pm_s3_c, pm_s4_c, pm_ri_c, pm_ra_c, pm_rn_c, pm_rk_i, pm_rk_z, pm_rk_a, pm_vk_i, pm_vk_z, pm_vk_a, pm_cti, pm_ctr, pm_ldi_z, pm_ldi_s, pm_lda_z, pm_lda_s, pm_cat_n, pm_cat_i, pm_cat_r, pm_cat_l, pm_obj, pm_arr, pm_opt, pm_ird, pm_aln, List.getElem?_cons_zero, List.getElem?_cons_succ, List.set_cons_zero, List.set_cons_succ, List.length_cons, List.length_nil, List.length_set, true_and, and_true, Nat.add_zero, Nat.zero_add, Nat.le_refl, Nat.reduceAdd, Nat.reduceLT, Nat.reduceLeDiff, Nat.zero_le, not_false_eq_true, not_true_eq_false, false_implies, implies_true, true_implies, Nat.zero_lt_succ, Nat.lt_add_one, H1, l1]
          rw [pk_sub (by omega), e]
          exact ⟨rfl, P1⟩
        by_cases u1 : sgB (bs.getD k (-1)) < 97
        · simp only [w_X12_wordMany_10, w_X12_wordMany_11, w_X12_wordMany_14, w_X12_wordMany_17, w_X12_wordMany_18, w_X12_wordMany_21, w_X12_wordMany_22, w_X12_wordMany_23, w_X12_wordMany_25, pm_1i_c, pm_2i_c, pm_1l_c, pm_2l_c, pm_1a_c, pm_ia_c, pm_iia_c, pm_va_c, pm_cp_c, pm_k0_c, pm_k1_c, pm_k2_c, pm_k3_c, pm_s1_c, pm_s2_c, pm_s3_c, pm_s4_c, pm_ri_c, pm_ra_c, pm_rn_c, pm_rk_i, pm_rk_z, pm_rk_a, pm_vk_i, pm_vk_z, pm_vk_a, pm_cti, pm_ctr, pm_ldi_z, pm_ldi_s, pm_lda_z, pm_lda_s, pm_cat_n, pm_cat_i, pm_cat_r, pm_cat_l, pm_obj, pm_arr, pm_opt, pm_ird, pm_aln, List.getElem?_cons_zero, List.getElem?_cons_succ, List.set_cons_zero, List.set_cons_succ, List.length_cons, List.length_nil, List.length_set, true_and, and_true, Nat.add_zero, Nat.zero_add, Nat.le_refl, Nat.reduceAdd, Nat.reduceLT, Nat.reduceLeDiff, Nat.zero_le, not_false_eq_true, not_true_eq_false, false_implies, implies_true, true_implies, Nat.zero_lt_succ, Nat.lt_add_one, H1, c', l1, f1, v1, v2, v3, u1, true_or]
          exact fin
        · by_cases u2 : 122 < sgB (bs.getD k (-1))
          · simp only [w_X12_wordMany_10, w_X12_wordMany_11, w_X12_wordMany_14, w_X12_wordMany_17, w_X12_wordMany_18, w_X12_wordMany_21, w_X12_wordMany_22, w_X12_wordMany_23, w_X12_wordMany_25, w_X12_wordMany_28, w_X12_wordMany_29, w_X12_wordMany_32, w_X12_wordMany_33, w_X12_wordMany_34, w_X12_wordMany_36, pm_1i_c, pm_2i_c, pm_1l_c, pm_2l_c, pm_1a_c, pm_ia_c, pm_iia_c, pm_va_c, pm_cp_c, pm_k0_c, pm_k1_c, pm_k2_c, pm_k3_c, pm_s1_c, pm_s2_c, pm_s3_c, pm_s4_c, pm_ri_c, pm_ra_c, pm_rn_c, pm_rk_i, pm_rk_z, pm_rk_a, pm_vk_i, pm_vk_z, pm_vk_a, pm_cti, pm_ctr, pm_ldi_z, pm_ldi_s, pm_lda_z, pm_lda_s, pm_cat_n, pm_cat_i, pm_cat_r, pm_cat_l, pm_obj, pm_arr, pm_opt, pm_ird, pm_aln, List.getElem?_cons_zero, List.getElem?_cons_succ, List.set_cons_zero, List.set_cons_succ, List.length_cons, List.length_nil, List.length_set, true_and, and_true, Nat.add_zero, Nat.zero_add, Nat.le_refl, Nat.reduceAdd, Nat.reduceLT, Nat.reduceLeDiff, Nat.zero_le, not_false_eq_true, not_true_eq_false, false_implies, implies_true, true_implies, Nat.zero_lt_succ, Nat.lt_add_one, H1, c', l1, f1, v1, v2, v3, u1, u2, true_or]
            exact fin
          · have := (al.mp ⟨by omega, u1, u2⟩).2
            rw [y] at this
            cases this
  show W_X12_wordMany _ _ _ _ _ _ _ _ _
  simp only [w_X12_wordMany_4, w_X12_wordMany_5, w_X12_wordMany_8, pm_1i_c, pm_2i_c, pm_1l_c, pm_2l_c, pm_1a_c, pm_ia_c, pm_iia_c, pm_va_c, pm_cp_c, pm_k0_c, pm_k1_c, pm_k2_c, pm_k3_c, pm_s1_c, pm_s2_c, pm_s3_c, pm_s4_c, pm_ri_c, pm_ra_c, pm_rn_c, pm_rk_i, pm_rk_z, pm_rk_a, pm_vk_i, pm_vk_z, pm_vk_a, pm_cti, pm_ctr, pm_ldi_z, pm_ldi_s, pm_lda_z, pm_lda_s, pm_cat_n, pm_cat_i, pm_cat_r, pm_cat_l, pm_obj, pm_arr, pm_opt, pm_ird, pm_aln, List.getElem?_cons_zero, List.getElem?_cons_succ, List.set_cons_zero, List.set_cons_succ, List.length_cons, List.length_nil, List.length_set, true_and, and_true, Nat.add_zero, Nat.zero_add, Nat.le_refl, Nat.reduceAdd, Nat.reduceLT, Nat.reduceLeDiff, Nat.zero_le, not_false_eq_true, not_true_eq_false, false_implies, implies_true, true_implies, Nat.zero_lt_succ, Nat.lt_add_one, pm_tl_n, pm_tl_s, sc_uL, H1, l1]
  exact loop _ (skp bs p) rfl (Nat.le_refl _) kp.2 rfl
theorem c_Y_takesWord (P : pr_ h0 h m o bs p b dp n fa cs ks) (T : tap_ h0 m bs) (S : sm_ bs dm s p fa) (W : wdk i t) {a z : Nat} {q : String} (hq : pm_sq a = some (q, z, t)) (d : Nat) : PM (d + 4) 162 [.ref m, .ref a] h (fun x h' => x = some (.int (if taB (cuF bs dm).1 (nI (256 + i)) s = true then 1 else 0)) ∧ ∃ p' b', pr_ h0 h' m o bs p' b' dp n fa cs ks ∧ sm_ bs dm (taF (cuF bs dm).1 (nI (256 + i)) s) p' fa ∧ p ≤ p' ∧ (taB (cuF bs dm).1 (nI (256 + i)) s = true → p < p') ∧ (taB (cuF bs dm).1 (nI (256 + i)) s = false → fa = -1 → p' = skp bs p ∧ b' = skp bs p) ∧ (¬ fa = -1 → p' = p)) := by
  refine en_X12_takesWord rfl rfl ?_
  have H0 := P.c0
  have L4 := T.1
  have kp := skp_le (bs := bs) S.1
  have wb := S.wb T.2.1 W
  have no : ¬ taB (cuF bs dm).1 (nI (256 + i)) s = true → taF (cuF bs dm).1 (nI (256 + i)) s = s := fun c => by
    unfold taF
    rw [if_neg c]
  simp only [w_X12_takesWord_0, w_X12_takesWord_1, pm_1i_c, pm_2i_c, pm_1l_c, pm_2l_c, pm_1a_c, pm_ia_c, pm_iia_c, pm_va_c, pm_cp_c, pm_k0_c, pm_k1_c, pm_k2_c, pm_k3_c, pm_s1_c, pm_s2_c, pm_s3_c, pm_s4_c, pm_ri_c, pm_ra_c, pm_rn_c, pm_rk_i, pm_rk_z, pm_rk_a, pm_vk_i, pm_vk_z, pm_vk_a, pm_cti, pm_ctr, pm_ldi_z, pm_ldi_s, pm_lda_z, pm_lda_s, pm_cat_n, pm_cat_i, pm_cat_r, pm_cat_l, pm_obj, pm_arr, pm_opt, pm_ird, pm_aln, List.getElem?_cons_zero, List.getElem?_cons_succ, List.set_cons_zero, List.set_cons_succ, List.length_cons, List.length_nil, List.length_set, true_and, and_true, Nat.add_zero, Nat.zero_add, Nat.le_refl, Nat.reduceAdd, Nat.reduceLT, Nat.reduceLeDiff, Nat.zero_le, not_false_eq_true, not_true_eq_false, false_implies, implies_true, true_implies, Nat.zero_lt_succ, Nat.lt_add_one, H0]
  refine PM_use (c_Y_hasFailed P (d + 2)) ?_
  rintro x hA lA ⟨rfl, rfl⟩
  by_cases c : fa = -1
  · simp only [if_pos c]
    show W_X12_takesWord _ _ _ _ _ _ _ _ _
    simp only [w_X12_takesWord_4, w_X12_takesWord_7, w_X12_takesWord_8, pm_1i_c, pm_2i_c, pm_1l_c, pm_2l_c, pm_1a_c, pm_ia_c, pm_iia_c, pm_va_c, pm_cp_c, pm_k0_c, pm_k1_c, pm_k2_c, pm_k3_c, pm_s1_c, pm_s2_c, pm_s3_c, pm_s4_c, pm_ri_c, pm_ra_c, pm_rn_c, pm_rk_i, pm_rk_z, pm_rk_a, pm_vk_i, pm_vk_z, pm_vk_a, pm_cti, pm_ctr, pm_ldi_z, pm_ldi_s, pm_lda_z, pm_lda_s, pm_cat_n, pm_cat_i, pm_cat_r, pm_cat_l, pm_obj, pm_arr, pm_opt, pm_ird, pm_aln, List.getElem?_cons_zero, List.getElem?_cons_succ, List.set_cons_zero, List.set_cons_succ, List.length_cons, List.length_nil, List.length_set, true_and, and_true, Nat.add_zero, Nat.zero_add, Nat.le_refl, Nat.reduceAdd, Nat.reduceLT, Nat.reduceLeDiff, Nat.zero_le, not_false_eq_true, not_true_eq_false, false_implies, implies_true, true_implies, Nat.zero_lt_succ, Nat.lt_add_one, pm_tl_n, pm_tl_s, sc_uL, H0]
    refine PM_use (c_Y_wordMany P T S.1 d) ?_
    rintro x h1 l1 ⟨rfl, P1⟩
    have H1 := P1.c0
    obtain ⟨f, f1, f2⟩ := P1.ta T
    -- it is not that word
    have neg : ¬ taB (cuF bs dm).1 (nI (256 + i)) s = true → ∀ x3, W_X12_takesWord (d + 3) (hA.length + 0) 0 (fun x h' => x = some (.int (if taB (cuF bs dm).1 (nI (256 + i)) s = true then 1 else 0)) ∧ ∃ p' b', pr_ h0 h' m o bs p' b' dp n fa cs ks ∧ sm_ bs dm (taF (cuF bs dm).1 (nI (256 + i)) s) p' fa ∧ p ≤ p' ∧ (taB (cuF bs dm).1 (nI (256 + i)) s = true → p < p') ∧ (taB (cuF bs dm).1 (nI (256 + i)) s = false → fa = -1 → p' = skp bs p ∧ b' = skp bs p) ∧ (¬ fa = -1 → p' = p)) 26 [some (.ref m), some (.ref a), some (.int 0), x3] [] h1 0 := fun cn x3 => by
      rw [w_X12_takesWord_26]
      simp only [w_X12_takesWord_27, w_X12_takesWord_69, w_X12_takesWord_70, w_X12_takesWord_73, w_X12_takesWord_74, w_X12_takesWord_75, w_X12_takesWord_78, w_X12_takesWord_79, w_X12_takesWord_82, w_X12_takesWord_83, w_X12_takesWord_86, w_X12_takesWord_87, pm_1i_c, pm_2i_c, pm_1l_c, pm_2l_c, pm_1a_c, pm_ia_c, pm_iia_c, pm_va_c, pm_cp_c, pm_k0_c, pm_k1_c, pm_k2_c, pm_k3_c, pm_s1_c, pm_s2_c, pm_s3_c, pm_s4_c, pm_ri_c, pm_ra_c, pm_rn_c, pm_rk_i, pm_rk_z, pm_rk_a, pm_vk_i, pm_vk_z, pm_vk_a, pm_cti, pm_ctr, pm_ldi_z, pm_ldi_s, pm_lda_z, pm_lda_s, pm_cat_n, pm_cat_i, pm_cat_r, pm_cat_l, pm_obj, pm_arr, pm_opt, pm_ird, pm_aln, List.getElem?_cons_zero, List.getElem?_cons_succ, List.set_cons_zero, List.set_cons_succ, List.length_cons, List.length_nil, List.length_set, true_and, and_true, Nat.add_zero, Nat.zero_add, Nat.le_refl, Nat.reduceAdd, Nat.reduceLT, Nat.reduceLeDiff, Nat.zero_le, not_false_eq_true, not_true_eq_false, false_implies, implies_true, true_implies, Nat.zero_lt_succ, Nat.lt_add_one, l1, if_neg cn, or_true, true_or]
      exact ⟨_, _, P1, by rw [no cn]; exact S.sk, kp.1, fun y => absurd y cn, fun _ _ => ⟨rfl, rfl⟩, fun y => absurd c y⟩
    by_cases cl : beR isL bs (skp bs p) - skp bs p = t.length
    · obtain ⟨b1, b2, b3, b4⟩ := beR_stop isL (bs.length - skp bs p) (skp bs p) rfl kp.2
      have w3 := W.2.2.1
      have loop : ∀ z r, t.length - r = z → r ≤ t.length → (∀ j, j < r → bs.getD (skp bs p + j) (-1) = nI ((t.toList.getD j 'a').toNat)) → W_X12_takesWord (d + 3) (hA.length + 0) 0 (fun x h' => x = some (.int (if taB (cuF bs dm).1 (nI (256 + i)) s = true then 1 else 0)) ∧ ∃ p' b', pr_ h0 h' m o bs p' b' dp n fa cs ks ∧ sm_ bs dm (taF (cuF bs dm).1 (nI (256 + i)) s) p' fa ∧ p ≤ p' ∧ (taB (cuF bs dm).1 (nI (256 + i)) s = true → p < p') ∧ (taB (cuF bs dm).1 (nI (256 + i)) s = false → fa = -1 → p' = skp bs p ∧ b' = skp bs p) ∧ (¬ fa = -1 → p' = p)) 26 [some (.ref m), some (.ref a), some (.int 1), some (.int (nI r))] [] h1 0 := by
        intro z
        induction z with
        | zero =>
          intro r hz hr e
          have er : r = t.length := by omega
          subst er
          have ct := wb.mpr ⟨c, cl, e⟩
          have n1 : ¬ nI t.length < nI t.length := nI_nlt (Nat.le_refl _) (by omega)
          obtain ⟨h2, E, l2, P2⟩ := P1.uf (skp bs p + t.length) (skp bs p) dp n fa
          rw [w_X12_takesWord_26]
          simp only [w_X12_takesWord_27, w_X12_takesWord_30, w_X12_takesWord_31, w_X12_takesWord_32, w_X12_takesWord_35, w_X12_takesWord_69, w_X12_takesWord_70, w_X12_takesWord_73, w_X12_takesWord_74, w_X12_takesWord_75, w_X12_takesWord_78, w_X12_takesWord_79, w_X12_takesWord_82, w_X12_takesWord_83, w_X12_takesWord_86, w_X12_takesWord_87, pm_1i_c, pm_2i_c, pm_1l_c, pm_2l_c, pm_1a_c, pm_ia_c, pm_iia_c, pm_va_c, pm_cp_c, pm_k0_c, pm_k1_c, pm_k2_c, pm_k3_c, pm_s1_c, pm_s2_c, pm_s3_c, pm_s4_c, pm_ri_c, pm_ra_c, pm_rn_c, pm_rk_i, pm_rk_z, pm_rk_a, pm_vk_i, pm_vk_z, pm_vk_a, pm_cti, pm_ctr, pm_ldi_z, pm_ldi_s, pm_lda_z, pm_lda_s, pm_cat_n, pm_cat_i, pm_cat_r, pm_cat_l, pm_obj, pm_arr, pm_opt, pm_ird, pm_aln, List.getElem?_cons_zero, List.getElem?_cons_succ, List.set_cons_zero, List.set_cons_succ, List.length_cons, List.length_nil, List.length_set, true_and, and_true, Nat.add_zero, Nat.zero_add, Nat.le_refl, Nat.reduceAdd, Nat.reduceLT, Nat.reduceLeDiff, Nat.zero_le, not_false_eq_true, not_true_eq_false, false_implies, implies_true, true_implies, Nat.zero_lt_succ, Nat.lt_add_one, l1, hq, n1, H1, nI_add, show ¬ (1 : Int32) = 0 by decide, or_true, true_or, if_pos ct]
          rw [E]
          have w2 := W.2.1
          refine ⟨_, _, P2, S.wk T.2.1 W ct, by omega, fun _ => by omega, fun y => ?_, fun y => absurd c y⟩
          rw [ct] at y
          cases y
        | succ z ih =>
          intro r hz hr e
          have c' : nI r < nI t.length := nI_lt (by omega) (by omega)
          have v1 : vp_in (nI (skp bs p + r)) 400 := vp_in_nI (by omega) (by omega)
          have v2 : (nI (skp bs p + r)).toNatClampNeg = skp bs p + r := nI_clamp (by omega)
          have v3 := f2 (skp bs p + r) (by omega)
          have v4 : vp_in (nI r) t.length := vp_in_nI (by omega) (by omega)
          have v5 : (nI r).toNatClampNeg = r := nI_clamp (by omega)
          obtain ⟨u, hu, eu⟩ := byts_at T.2.1 (k := skp bs p + r) (by omega)
          have w5 := W.2.2.2.2 r (by omega)
          have es := sgB_e hu (u := (t.toList.getD r 'a').toNat) (by omega)
          rw [← eu] at es
          rw [w_X12_takesWord_26]
          by_cases ce : bs.getD (skp bs p + r) (-1) = nI ((t.toList.getD r 'a').toNat)
          · have ce' := es.mpr ce
            simp only [w_X12_takesWord_27, w_X12_takesWord_30, w_X12_takesWord_31, w_X12_takesWord_32, w_X12_takesWord_35, w_X12_takesWord_38, w_X12_takesWord_39, w_X12_takesWord_42, w_X12_takesWord_43, w_X12_takesWord_46, w_X12_takesWord_47, w_X12_takesWord_48, w_X12_takesWord_49, w_X12_takesWord_50, w_X12_takesWord_51, w_X12_takesWord_54, w_X12_takesWord_57, w_X12_takesWord_58, w_X12_takesWord_61, w_X12_takesWord_62, w_X12_takesWord_63, w_X12_takesWord_66, pm_1i_c, pm_2i_c, pm_1l_c, pm_2l_c, pm_1a_c, pm_ia_c, pm_iia_c, pm_va_c, pm_cp_c, pm_k0_c, pm_k1_c, pm_k2_c, pm_k3_c, pm_s1_c, pm_s2_c, pm_s3_c, pm_s4_c, pm_ri_c, pm_ra_c, pm_rn_c, pm_rk_i, pm_rk_z, pm_rk_a, pm_vk_i, pm_vk_z, pm_vk_a, pm_cti, pm_ctr, pm_ldi_z, pm_ldi_s, pm_lda_z, pm_lda_s, pm_cat_n, pm_cat_i, pm_cat_r, pm_cat_l, pm_obj, pm_arr, pm_opt, pm_ird, pm_aln, List.getElem?_cons_zero, List.getElem?_cons_succ, List.set_cons_zero, List.set_cons_succ, List.length_cons, List.length_nil, List.length_set, true_and, and_true, Nat.add_zero, Nat.zero_add, Nat.le_refl, Nat.reduceAdd, Nat.reduceLT, Nat.reduceLeDiff, Nat.zero_le, not_false_eq_true, not_true_eq_false, false_implies, implies_true, true_implies, Nat.zero_lt_succ, Nat.lt_add_one, l1, hq, c', H1, nI_add, f1, v1, v2, v3, v4, v5, ce', nI_1, show ¬ (1 : Int32) = 0 by decide, true_or]
            refine ih (r + 1) (by omega) (by omega) (fun j hj => ?_)
            by_cases ej : j = r
            · rw [ej]
              exact ce
            · exact e j (by omega)
          · have ce' : ¬ sgB (bs.getD (skp bs p + r) (-1)) = nI ((t.toList.getD r 'a').toNat) := fun y => ce (es.mp y)
            simp only [w_X12_takesWord_27, w_X12_takesWord_30, w_X12_takesWord_31, w_X12_takesWord_32, w_X12_takesWord_35, w_X12_takesWord_38, w_X12_takesWord_39, w_X12_takesWord_42, w_X12_takesWord_43, w_X12_takesWord_46, w_X12_takesWord_47, w_X12_takesWord_48, w_X12_takesWord_49, w_X12_takesWord_50, w_X12_takesWord_51, w_X12_takesWord_54, w_X12_takesWord_57, w_X12_takesWord_58, w_X12_takesWord_61, w_X12_takesWord_62, w_X12_takesWord_63, w_X12_takesWord_66, pm_1i_c, pm_2i_c, pm_1l_c, pm_2l_c, pm_1a_c, pm_ia_c, pm_iia_c, pm_va_c, pm_cp_c, pm_k0_c, pm_k1_c, pm_k2_c, pm_k3_c, pm_s1_c, pm_s2_c, pm_s3_c, pm_s4_c, pm_ri_c, pm_ra_c, pm_rn_c, pm_rk_i, pm_rk_z, pm_rk_a, pm_vk_i, pm_vk_z, pm_vk_a, pm_cti, pm_ctr, pm_ldi_z, pm_ldi_s, pm_lda_z, pm_lda_s, pm_cat_n, pm_cat_i, pm_cat_r, pm_cat_l, pm_obj, pm_arr, pm_opt, pm_ird, pm_aln, List.getElem?_cons_zero, List.getElem?_cons_succ, List.set_cons_zero, List.set_cons_succ, List.length_cons, List.length_nil, List.length_set, true_and, and_true, Nat.add_zero, Nat.zero_add, Nat.le_refl, Nat.reduceAdd, Nat.reduceLT, Nat.reduceLeDiff, Nat.zero_le, not_false_eq_true, not_true_eq_false, false_implies, implies_true, true_implies, Nat.zero_lt_succ, Nat.lt_add_one, l1, hq, c', H1, nI_add, f1, v1, v2, v3, v4, v5, ce', nI_1, show ¬ (1 : Int32) = 0 by decide, true_or]
            exact neg (fun y => ce ((wb.mp y).2.2 r (by omega))) _
      show W_X12_takesWord _ _ _ _ _ _ _ _ _
      simp only [w_X12_takesWord_11, w_X12_takesWord_12, w_X12_takesWord_15, w_X12_takesWord_18, w_X12_takesWord_19, w_X12_takesWord_22, w_X12_takesWord_23, w_X12_takesWord_24, w_X12_takesWord_25, pm_1i_c, pm_2i_c, pm_1l_c, pm_2l_c, pm_1a_c, pm_ia_c, pm_iia_c, pm_va_c, pm_cp_c, pm_k0_c, pm_k1_c, pm_k2_c, pm_k3_c, pm_s1_c, pm_s2_c, pm_s3_c, pm_s4_c, pm_ri_c, pm_ra_c, pm_rn_c, pm_rk_i, pm_rk_z, pm_rk_a, pm_vk_i, pm_vk_z, pm_vk_a, pm_cti, pm_ctr, pm_ldi_z, pm_ldi_s, pm_lda_z, pm_lda_s, pm_cat_n, pm_cat_i, pm_cat_r, pm_cat_l, pm_obj, pm_arr, pm_opt, pm_ird, pm_aln, List.getElem?_cons_zero, List.getElem?_cons_succ, List.set_cons_zero, List.set_cons_succ, List.length_cons, List.length_nil, List.length_set, true_and, and_true, Nat.add_zero, Nat.zero_add, Nat.le_refl, Nat.reduceAdd, Nat.reduceLT, Nat.reduceLeDiff, Nat.zero_le, not_false_eq_true, not_true_eq_false, false_implies, implies_true, true_implies, Nat.zero_lt_succ, Nat.lt_add_one, pm_tl_n, pm_tl_s, sc_uL, hq, cl]
      exact loop _ 0 rfl (Nat.zero_le _) (fun j hj => absurd hj (Nat.not_lt_zero _))
    · have cl' : ¬ nI (beR isL bs (skp bs p) - skp bs p) = nI t.length := fun y => by
        have w3 := W.2.2.1
        have := (beR_stop isL (bs.length - skp bs p) (skp bs p) rfl kp.2).2.1
        exact cl ((nI_inj (by omega) (by omega)).mp y)
      show W_X12_takesWord _ _ _ _ _ _ _ _ _
      simp only [w_X12_takesWord_11, w_X12_takesWord_12, w_X12_takesWord_15, w_X12_takesWord_18, w_X12_takesWord_19, w_X12_takesWord_22, w_X12_takesWord_23, w_X12_takesWord_24, w_X12_takesWord_25, pm_1i_c, pm_2i_c, pm_1l_c, pm_2l_c, pm_1a_c, pm_ia_c, pm_iia_c, pm_va_c, pm_cp_c, pm_k0_c, pm_k1_c, pm_k2_c, pm_k3_c, pm_s1_c, pm_s2_c, pm_s3_c, pm_s4_c, pm_ri_c, pm_ra_c, pm_rn_c, pm_rk_i, pm_rk_z, pm_rk_a, pm_vk_i, pm_vk_z, pm_vk_a, pm_cti, pm_ctr, pm_ldi_z, pm_ldi_s, pm_lda_z, pm_lda_s, pm_cat_n, pm_cat_i, pm_cat_r, pm_cat_l, pm_obj, pm_arr, pm_opt, pm_ird, pm_aln, List.getElem?_cons_zero, List.getElem?_cons_succ, List.set_cons_zero, List.set_cons_succ, List.length_cons, List.length_nil, List.length_set, true_and, and_true, Nat.add_zero, Nat.zero_add, Nat.le_refl, Nat.reduceAdd, Nat.reduceLT, Nat.reduceLeDiff, Nat.zero_le, not_false_eq_true, not_true_eq_false, false_implies, implies_true, true_implies, Nat.zero_lt_succ, Nat.lt_add_one, pm_tl_n, pm_tl_s, sc_uL, hq, cl']
      exact neg (fun y => cl (wb.mp y).2.1) _
  · have cn : ¬ taB (cuF bs dm).1 (nI (256 + i)) s = true := fun y => c (wb.mp y).1
    simp only [if_neg c]
    show W_X12_takesWord _ _ _ _ _ _ _ _ _
    simp only [w_X12_takesWord_4, w_X12_takesWord_22, w_X12_takesWord_23, w_X12_takesWord_24, w_X12_takesWord_25, pm_1i_c, pm_2i_c, pm_1l_c, pm_2l_c, pm_1a_c, pm_ia_c, pm_iia_c, pm_va_c, pm_cp_c, pm_k0_c, pm_k1_c, pm_k2_c, pm_k3_c, pm_s1_c, pm_s2_c, pm_s3_c, pm_s4_c, pm_ri_c, pm_ra_c, pm_rn_c, pm_rk_i, pm_rk_z, pm_rk_a, pm_vk_i, pm_vk_z, pm_vk_a, pm_cti, pm_ctr, pm_ldi_z, pm_ldi_s, pm_lda_z, pm_lda_s, pm_cat_n, pm_cat_i, pm_cat_r, pm_cat_l, pm_obj, pm_arr, pm_opt, pm_ird, pm_aln, List.getElem?_cons_zero, List.getElem?_cons_succ, List.set_cons_zero, List.set_cons_succ, List.length_cons, List.length_nil, List.length_set, true_and, and_true, Nat.add_zero, Nat.zero_add, Nat.le_refl, Nat.reduceAdd, Nat.reduceLT, Nat.reduceLeDiff, Nat.zero_le, not_false_eq_true, not_true_eq_false, false_implies, implies_true, true_implies, Nat.zero_lt_succ, Nat.lt_add_one, pm_tl_n, pm_tl_s, sc_uL, H0, show ¬ (1 : Int32) = 0 by decide]
    rw [w_X12_takesWord_26]
    simp only [w_X12_takesWord_27, w_X12_takesWord_69, w_X12_takesWord_70, w_X12_takesWord_73, w_X12_takesWord_74, w_X12_takesWord_75, w_X12_takesWord_78, w_X12_takesWord_79, w_X12_takesWord_82, w_X12_takesWord_83, w_X12_takesWord_86, w_X12_takesWord_87, pm_1i_c, pm_2i_c, pm_1l_c, pm_2l_c, pm_1a_c, pm_ia_c, pm_iia_c, pm_va_c, pm_cp_c, pm_k0_c, pm_k1_c, pm_k2_c, pm_k3_c, pm_s1_c, pm_s2_c, pm_s3_c, pm_s4_c, pm_ri_c, pm_ra_c, pm_rn_c, pm_rk_i, pm_rk_z, pm_rk_a, pm_vk_i, pm_vk_z, pm_vk_a, pm_cti, pm_ctr, pm_ldi_z, pm_ldi_s, pm_lda_z, pm_lda_s, pm_cat_n, pm_cat_i, pm_cat_r, pm_cat_l, pm_obj, pm_arr, pm_opt, pm_ird, pm_aln, List.getElem?_cons_zero, List.getElem?_cons_succ, List.set_cons_zero, List.set_cons_succ, List.length_cons, List.length_nil, List.length_set, true_and, and_true, Nat.add_zero, Nat.zero_add, Nat.le_refl, Nat.reduceAdd, Nat.reduceLT, Nat.reduceLeDiff, Nat.zero_le, not_false_eq_true, not_true_eq_false, false_implies, implies_true, true_implies, Nat.zero_lt_succ, Nat.lt_add_one, if_neg cn, or_true, true_or]
    exact ⟨_, _, P, by rw [no cn]; exact S, Nat.le_refl _, fun y => absurd y cn, fun _ y => absurd y c, fun _ => rfl⟩
end MR
