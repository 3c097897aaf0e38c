/-! AdmissionDeskModel: numbers taken. -/
section MR
variable {h0 h h' : pmH} {m : Nat} {o : Nat → Int32} {bs : List Int32} {p b dp n : Nat} {fa dm : Int32} {cs ks : List Int32} {s : PS}
theorem c_Y_isNumber (P : pr_ h0 h m o bs p b dp n fa cs ks) (T : tap_ h0 m bs) (hp : p ≤ bs.length) (d : Nat) : PM (d + 3) 163 [.ref m] h (fun x h' => x = some (.int (if (decide (fa = -1) && atV bs (skp bs p) 48 57) = true then 1 else 0)) ∧ pr_ h0 h' m o bs (skp bs p) (skp bs p) dp n fa cs ks) := by
  have H0 := P.c0
  refine en_X12_isNumber rfl ?_
  simp only [w_X12_isNumber_0, w_X12_isNumber_1, pm_1i_c, pm_2i_c, pm_1l_c, pm_2l_c, pm_1a_c, pm_ia_c, pm_iia_c, pm_va_c, pm_cp_c, pm_k0_c, pm_k1_c, pm_k2_c, pm_k3_c, pm_s1_c, pm_s2_c, pm_s3_c, pm_s4_c, pm_ri_c, pm_ra_c, pm_rn_c, pm_rk_i, pm_rk_z, pm_rk_a, pm_vk_i, pm_vk_z, pm_vk_a, pm_cti, pm_ctr, pm_ldi_z, pm_ldi_s, pm_lda_z, pm_lda_s, pm_cat_n, pm_cat_i, pm_cat_r, pm_cat_l, pm_obj, pm_arr, pm_opt, pm_ird, pm_aln, List.getElem?_cons_zero, List.getElem?_cons_succ, List.set_cons_zero, List.set_cons_succ, List.length_cons, List.length_nil, List.length_set, true_and, and_true, Nat.add_zero, Nat.zero_add, Nat.le_refl, Nat.reduceAdd, Nat.reduceLT, Nat.reduceLeDiff, Nat.zero_le, not_false_eq_true, not_true_eq_false, false_implies, implies_true, true_implies, Nat.zero_lt_succ, Nat.lt_add_one, H0]
  refine PM_use (c_Y_blanks P T hp d) ?_
  rintro v h1 l1 ⟨rfl, P1⟩
  have H1 := P1.c0
  show W_X12_isNumber _ _ _ _ _ _ _ _ _
  simp only [w_X12_isNumber_4, w_X12_isNumber_5, pm_1i_c, pm_2i_c, pm_1l_c, pm_2l_c, pm_1a_c, pm_ia_c, pm_iia_c, pm_va_c, pm_cp_c, pm_k0_c, pm_k1_c, pm_k2_c, pm_k3_c, pm_s1_c, pm_s2_c, pm_s3_c, pm_s4_c, pm_ri_c, pm_ra_c, pm_rn_c, pm_rk_i, pm_rk_z, pm_rk_a, pm_vk_i, pm_vk_z, pm_vk_a, pm_cti, pm_ctr, pm_ldi_z, pm_ldi_s, pm_lda_z, pm_lda_s, pm_cat_n, pm_cat_i, pm_cat_r, pm_cat_l, pm_obj, pm_arr, pm_opt, pm_ird, pm_aln, List.getElem?_cons_zero, List.getElem?_cons_succ, List.set_cons_zero, List.set_cons_succ, List.length_cons, List.length_nil, List.length_set, true_and, and_true, Nat.add_zero, Nat.zero_add, Nat.le_refl, Nat.reduceAdd, Nat.reduceLT, Nat.reduceLeDiff, Nat.zero_le, not_false_eq_true, not_true_eq_false, false_implies, implies_true, true_implies, Nat.zero_lt_succ, Nat.lt_add_one, pm_tl_n, pm_tl_s, sc_uL, H1, l1]
  refine PM_use (c_Y_hasFailed P1 (d + 1)) ?_
  rintro v h2 l2 ⟨rfl, rfl⟩
  by_cases c : fa = -1
  · simp only [if_pos c]
    show W_X12_isNumber _ _ _ _ _ _ _ _ _
    simp only [w_X12_isNumber_8, w_X12_isNumber_11, w_X12_isNumber_12, w_X12_isNumber_14, w_X12_isNumber_16, pm_1i_c, pm_2i_c, pm_1l_c, pm_2l_c, pm_1a_c, pm_ia_c, pm_iia_c, pm_va_c, pm_cp_c, pm_k0_c, pm_k1_c, pm_k2_c, pm_k3_c, pm_s1_c, pm_s2_c, pm_s3_c, pm_s4_c, pm_ri_c, pm_ra_c, pm_rn_c, pm_rk_i, pm_rk_z, pm_rk_a, pm_vk_i, pm_vk_z, pm_vk_a, pm_cti, pm_ctr, pm_ldi_z, pm_ldi_s, pm_lda_z, pm_lda_s, pm_cat_n, pm_cat_i, pm_cat_r, pm_cat_l, pm_obj, pm_arr, pm_opt, pm_ird, pm_aln, List.getElem?_cons_zero, List.getElem?_cons_succ, List.set_cons_zero, List.set_cons_succ, List.length_cons, List.length_nil, List.length_set, true_and, and_true, Nat.add_zero, Nat.zero_add, Nat.le_refl, Nat.reduceAdd, Nat.reduceLT, Nat.reduceLeDiff, Nat.zero_le, not_false_eq_true, not_true_eq_false, false_implies, implies_true, true_implies, Nat.zero_lt_succ, Nat.lt_add_one, pm_tl_n, pm_tl_s, sc_uL, H1, l1]
    refine PM_use (c_Y_isAt P1 T (skp_le hp).2 48 57 (d + 1)) ?_
    rintro v h2 l2 ⟨rfl, rfl⟩
    rw [decide_eq_true c, Bool.true_and]
    cases a : atV bs (skp bs p) 48 57 with
    | true =>
      simp only [if_true]
      show W_X12_isNumber _ _ _ _ _ _ _ _ _
      simp only [w_X12_isNumber_19, w_X12_isNumber_22, w_X12_isNumber_23, w_X12_isNumber_26, w_X12_isNumber_27, pm_1i_c, pm_2i_c, pm_1l_c, pm_2l_c, pm_1a_c, pm_ia_c, pm_iia_c, pm_va_c, pm_cp_c, pm_k0_c, pm_k1_c, pm_k2_c, pm_k3_c, pm_s1_c, pm_s2_c, pm_s3_c, pm_s4_c, pm_ri_c, pm_ra_c, pm_rn_c, pm_rk_i, pm_rk_z, pm_rk_a, pm_vk_i, pm_vk_z, pm_vk_a, pm_cti, pm_ctr, pm_ldi_z, pm_ldi_s, pm_lda_z, pm_lda_s, pm_cat_n, pm_cat_i, pm_cat_r, pm_cat_l, pm_obj, pm_arr, pm_opt, pm_ird, pm_aln, List.getElem?_cons_zero, List.getElem?_cons_succ, List.set_cons_zero, List.set_cons_succ, List.length_cons, List.length_nil, List.length_set, true_and, and_true, Nat.add_zero, Nat.zero_add, Nat.le_refl, Nat.reduceAdd, Nat.reduceLT, Nat.reduceLeDiff, Nat.zero_le, not_false_eq_true, not_true_eq_false, false_implies, implies_true, true_implies, Nat.zero_lt_succ, Nat.lt_add_one, pm_tl_n, pm_tl_s, sc_uL, l1, show ¬ (1 : Int32) = 0 by decide, or_true, true_or]
      exact P1
    | false =>
      simp only [Bool.false_eq_true, if_false]
      show W_X12_isNumber _ _ _ _ _ _ _ _ _
      simp only [w_X12_isNumber_19, w_X12_isNumber_22, w_X12_isNumber_23, w_X12_isNumber_26, w_X12_isNumber_27, pm_1i_c, pm_2i_c, pm_1l_c, pm_2l_c, pm_1a_c, pm_ia_c, pm_iia_c, pm_va_c, pm_cp_c, pm_k0_c, pm_k1_c, pm_k2_c, pm_k3_c, pm_s1_c, pm_s2_c, pm_s3_c, pm_s4_c, pm_ri_c, pm_ra_c, pm_rn_c, pm_rk_i, pm_rk_z, pm_rk_a, pm_vk_i, pm_vk_z, pm_vk_a, pm_cti, pm_ctr, pm_ldi_z, pm_ldi_s, pm_lda_z, pm_lda_s, pm_cat_n, pm_cat_i, pm_cat_r, pm_cat_l, pm_obj, pm_arr, pm_opt, pm_ird, pm_aln, List.getElem?_cons_zero, List.getElem?_cons_succ, List.set_cons_zero, List.set_cons_succ, List.length_cons, List.length_nil, List.length_set, true_and, and_true, Nat.add_zero, Nat.zero_add, Nat.le_refl, Nat.reduceAdd, Nat.reduceLT, Nat.reduceLeDiff, Nat.zero_le, not_false_eq_true, not_true_eq_false, false_implies, implies_true, true_implies, Nat.zero_lt_succ, Nat.lt_add_one, pm_tl_n, pm_tl_s, sc_uL, l1, or_true, true_or]
      exact P1
  · simp only [if_neg c]
    rw [decide_eq_false c, Bool.false_and]
    simp only [Bool.false_eq_true, if_false]
    show W_X12_isNumber _ _ _ _ _ _ _ _ _
    simp only [w_X12_isNumber_8, w_X12_isNumber_26, w_X12_isNumber_27, pm_1i_c, pm_2i_c, pm_1l_c, pm_2l_c, pm_1a_c, pm_ia_c, pm_iia_c, pm_va_c, pm_cp_c, pm_k0_c, pm_k1_c, pm_k2_c, pm_k3_c, pm_s1_c, pm_s2_c, pm_s3_c, pm_s4_c, pm_ri_c, pm_ra_c, pm_rn_c, pm_rk_i, pm_rk_z, pm_rk_a, pm_vk_i, pm_vk_z, pm_vk_a, pm_cti, pm_ctr, pm_ldi_z, pm_ldi_s, pm_lda_z, pm_lda_s, pm_cat_n, pm_cat_i, pm_cat_r, pm_cat_l, pm_obj, pm_arr, pm_opt, pm_ird, pm_aln, List.getElem?_cons_zero, List.getElem?_cons_succ, List.set_cons_zero, List.set_cons_succ, List.length_cons, List.length_nil, List.length_set, true_and, and_true, Nat.add_zero, Nat.zero_add, Nat.le_refl, Nat.reduceAdd, Nat.reduceLT, Nat.reduceLeDiff, Nat.zero_le, not_false_eq_true, not_true_eq_false, false_implies, implies_true, true_implies, Nat.zero_lt_succ, Nat.lt_add_one, pm_tl_n, pm_tl_s, sc_uL, l1, show ¬ (1 : Int32) = 0 by decide, or_true, true_or]
    exact P1
theorem nuG_app (bs : List Int32) : ∀ f k v, nuG bs (f + 1) k v = nuG bs f k v * 10 + bs.getD (k + f) (-1) - 48
  | 0, k, v => rfl
  | f + 1, k, v => by
    show nuG bs (f + 1) (k + 1) (v * 10 + bs.getD k (-1) - 48) = _
    rw [nuG_app bs f (k + 1)]
    rw [show k + 1 + f = k + (f + 1) by omega]
    rfl
/-- what a number's digits make, and whether it is in order -/
def nmB (bs : List Int32) (p : Nat) (many : Nat) (l r : Int32) : Bool := decide (¬ beR isD bs (skp bs p) - skp bs p = 0 ∧ beR isD bs (skp bs p) - skp bs p ≤ many) && inB (nuF bs (skp bs p) (beR isD bs (skp bs p))) l r
theorem c_Y_number (P : pr_ h0 h m o bs p b dp n fa cs ks) (T : tap_ h0 m bs) (hp : p ≤ bs.length) (hf : fa = -1) {many : Nat} (hm : many < 100) (l r : Int32) (d : Nat) : PM (d + 3) 164 [.ref m, .int (nI many), .int l, .int r] h (fun x h' => ∃ y, x = some (.int y) ∧ (beR isD bs (skp bs p) - skp bs p ≤ many → y = nuF bs (skp bs p) (beR isD bs (skp bs p))) ∧ pr_ h0 h' m o bs (beR isD bs (skp bs p)) (skp bs p) dp n (if nmB bs p many l r = true then -1 else nI (skp bs p)) cs ks) := by
  refine en_X12_number rfl rfl rfl rfl ?_
  have H0 := P.c0
  have L4 := T.1
  have kp := skp_le (bs := bs) hp
  obtain ⟨b1, b2, b3, b4⟩ := beR_stop isD (bs.length - skp bs p) (skp bs p) rfl kp.2
  obtain ⟨e, he⟩ : ∃ e, e = beR isD bs (skp bs p) := ⟨_, rfl⟩
  unfold nmB
  rw [← he] at b1 b2 b3 b4 ⊢
  simp only [w_X12_number_0, w_X12_number_1, pm_1i_c, pm_2i_c, pm_1l_c, pm_2l_c, pm_1a_c, pm_ia_c, pm_iia_c, pm_va_c, pm_cp_c, pm_k0_c, pm_k1_c, pm_k2_c, pm_k3_c, pm_s1_c, pm_s2_c, pm_s3_c, pm_s4_c, pm_ri_c, pm_ra_c, pm_rn_c, pm_rk_i, pm_rk_z, pm_rk_a, pm_vk_i, pm_vk_z, pm_vk_a, pm_cti, pm_ctr, pm_ldi_z, pm_ldi_s, pm_lda_z, pm_lda_s, pm_cat_n, pm_cat_i, pm_cat_r, pm_cat_l, pm_obj, pm_arr, pm_opt, pm_ird, pm_aln, List.getElem?_cons_zero, List.getElem?_cons_succ, List.set_cons_zero, List.set_cons_succ, List.length_cons, List.length_nil, List.length_set, true_and, and_true, Nat.add_zero, Nat.zero_add, Nat.le_refl, Nat.reduceAdd, Nat.reduceLT, Nat.reduceLeDiff, Nat.zero_le, not_false_eq_true, not_true_eq_false, false_implies, implies_true, true_implies, Nat.zero_lt_succ, Nat.lt_add_one, H0]
  refine PM_use (c_Y_hasFailed P (d + 1)) ?_
  rintro x hA lA ⟨rfl, rfl⟩
  simp only [if_pos hf]
  show W_X12_number _ _ _ _ _ _ _ _ _
  simp only [w_X12_number_4, w_X12_number_9, w_X12_number_10, pm_1i_c, pm_2i_c, pm_1l_c, pm_2l_c, pm_1a_c, pm_ia_c, pm_iia_c, pm_va_c, pm_cp_c, pm_k0_c, pm_k1_c, pm_k2_c, pm_k3_c, pm_s1_c, pm_s2_c, pm_s3_c, pm_s4_c, pm_ri_c, pm_ra_c, pm_rn_c, pm_rk_i, pm_rk_z, pm_rk_a, pm_vk_i, pm_vk_z, pm_vk_a, pm_cti, pm_ctr, pm_ldi_z, pm_ldi_s, pm_lda_z, pm_lda_s, pm_cat_n, pm_cat_i, pm_cat_r, pm_cat_l, pm_obj, pm_arr, pm_opt, pm_ird, pm_aln, List.getElem?_cons_zero, List.getElem?_cons_succ, List.set_cons_zero, List.set_cons_succ, List.length_cons, List.length_nil, List.length_set, true_and, and_true, Nat.add_zero, Nat.zero_add, Nat.le_refl, Nat.reduceAdd, Nat.reduceLT, Nat.reduceLeDiff, Nat.zero_le, not_false_eq_true, not_true_eq_false, false_implies, implies_true, true_implies, Nat.zero_lt_succ, Nat.lt_add_one, pm_tl_n, pm_tl_s, sc_uL, H0]
  refine PM_use (c_Y_blanks P T hp d) ?_
  rintro x h1 l1 ⟨rfl, P1⟩
  have f4 : ¬ (4 : Nat) = 0 := by decide
  have loop : ∀ z k, bs.length - k = z → skp bs p ≤ k → k ≤ e → ∀ (g : pmH) (y : Int32), pr_ h0 g m o bs k (skp bs p) dp n fa cs ks → g.length = hA.length → (k - skp bs p ≤ many → y = nuG bs (k - skp bs p) (skp bs p) 0) → W_X12_number (d + 2) (hA.length + 0) 0 (fun x h' => ∃ y, x = some (.int y) ∧ (e - skp bs p ≤ many → y = nuF bs (skp bs p) e) ∧ pr_ h0 h' m o bs e (skp bs p) dp n (if (decide (¬ e - skp bs p = 0 ∧ e - skp bs p ≤ many) && inB (nuF bs (skp bs p) e) l r) = true then -1 else nI (skp bs p)) cs ks) 16 [some (.ref m), some (.int (nI many)), some (.int l), some (.int r), some (.int y), none] [] g 0 := by
    intro z
    induction z using Nat.strongRecOn with
    | ind z ih =>
      intro k hz hk hke g y P2 lg hy
      have H2 := P2.c0
      obtain ⟨f, f1, f2⟩ := P2.ta T
      rw [w_X12_number_16]
      simp only [w_X12_number_17, w_X12_number_19, w_X12_number_21, pm_1i_c, pm_2i_c, pm_1l_c, pm_2l_c, pm_1a_c, pm_ia_c, pm_iia_c, pm_va_c, pm_cp_c, pm_k0_c, pm_k1_c, pm_k2_c, pm_k3_c, pm_s1_c, pm_s2_c, pm_s3_c, pm_s4_c, pm_ri_c, pm_ra_c, pm_rn_c, pm_rk_i, pm_rk_z, pm_rk_a, pm_vk_i, pm_vk_z, pm_vk_a, pm_cti, pm_ctr, pm_ldi_z, pm_ldi_s, pm_lda_z, pm_lda_s, pm_cat_n, pm_cat_i, pm_cat_r, pm_cat_l, pm_obj, pm_arr, pm_opt, pm_ird, pm_aln, List.getElem?_cons_zero, List.getElem?_cons_succ, List.set_cons_zero, List.set_cons_succ, List.length_cons, List.length_nil, List.length_set, true_and, and_true, Nat.add_zero, Nat.zero_add, Nat.le_refl, Nat.reduceAdd, Nat.reduceLT, Nat.reduceLeDiff, Nat.zero_le, not_false_eq_true, not_true_eq_false, false_implies, implies_true, true_implies, Nat.zero_lt_succ, Nat.lt_add_one, H2, lg]
      refine PM_use (c_Y_isAt P2 T (by omega) 48 57 (d + 1)) ?_
      rintro x hB lB ⟨rfl, rfl⟩
      have ad := atV_d T.2.1 k
      by_cases c : k < e
      · have dk := b3 k hk c
        rw [if_pos (ad.mpr ⟨by omega, dk⟩)]
        obtain ⟨v, hv, ev⟩ := byts_at T.2.1 (k := k) (by omega)
        have v1 : vp_in (nI k) 400 := vp_in_nI (by omega) (by omega)
        have v2 : (nI k).toNatClampNeg = k := nI_clamp (by omega)
        have v3 : f k = bs.getD k (-1) := by
          rw [f2 k (by omega), ev]
          rw [ev, isD_n hv] at dk
          exact (sgB_e hv (by omega)).mpr rfl
        obtain ⟨h3, E, l3, P3⟩ := P2.uf (k + 1) (skp bs p) dp n fa
        by_cases cm : k - skp bs p < many
        · have cm' : nI (k - skp bs p) < nI many := nI_lt cm (by omega)
          show W_X12_number _ _ _ _ _ _ _ _ _
          simp only [w_X12_number_24, w_X12_number_27, w_X12_number_28, w_X12_number_31, w_X12_number_32, w_X12_number_35, w_X12_number_36, w_X12_number_37, w_X12_number_40, w_X12_number_42, w_X12_number_44, w_X12_number_45, w_X12_number_46, w_X12_number_49, w_X12_number_50, w_X12_number_53, w_X12_number_54, w_X12_number_55, w_X12_number_57, w_X12_number_58, w_X12_number_60, w_X12_number_61, w_X12_number_62, w_X12_number_65, w_X12_number_66, w_X12_number_67, w_X12_number_70, pm_1i_c, pm_2i_c, pm_1l_c, pm_2l_c, pm_1a_c, pm_ia_c, pm_iia_c, pm_va_c, pm_cp_c, pm_k0_c, pm_k1_c, pm_k2_c, pm_k3_c, pm_s1_c, pm_s2_c, pm_s3_c, pm_s4_c, pm_ri_c, pm_ra_c, pm_rn_c, pm_rk_i, pm_rk_z, pm_rk_a, pm_vk_i, pm_vk_z, pm_vk_a, pm_cti, pm_ctr, pm_ldi_z, pm_ldi_s, pm_lda_z, pm_lda_s, pm_cat_n, pm_cat_i, pm_cat_r, pm_cat_l, pm_obj, pm_arr, pm_opt, pm_ird, pm_aln, List.getElem?_cons_zero, List.getElem?_cons_succ, List.set_cons_zero, List.set_cons_succ, List.length_cons, List.length_nil, List.length_set, true_and, and_true, Nat.add_zero, Nat.zero_add, Nat.le_refl, Nat.reduceAdd, Nat.reduceLT, Nat.reduceLeDiff, Nat.zero_le, not_false_eq_true, not_true_eq_false, false_implies, implies_true, true_implies, Nat.zero_lt_succ, Nat.lt_add_one, pm_tl_n, pm_tl_s, sc_uL, H2, lg, pk_sub hk, cm', f1, v1, v2, v3, nI_1, true_or, show ¬ (1 : Int32) = 0 by decide]
          rw [E]
          refine ih (bs.length - (k + 1)) (by omega) (k + 1) rfl (by omega) c h3 _ P3 (l3.trans lg) (fun _ => ?_)
          rw [hy (by omega), show k + 1 - skp bs p = (k - skp bs p) + 1 by omega, nuG_app, show skp bs p + (k - skp bs p) = k by omega, Int32.mul_comm]
        · have cm' : ¬ nI (k - skp bs p) < nI many := nI_nlt (by omega) (by omega)
          show W_X12_number _ _ _ _ _ _ _ _ _
          simp only [w_X12_number_24, w_X12_number_27, w_X12_number_28, w_X12_number_31, w_X12_number_32, w_X12_number_35, w_X12_number_36, w_X12_number_37, w_X12_number_60, w_X12_number_61, w_X12_number_62, w_X12_number_65, w_X12_number_66, w_X12_number_67, w_X12_number_70, pm_1i_c, pm_2i_c, pm_1l_c, pm_2l_c, pm_1a_c, pm_ia_c, pm_iia_c, pm_va_c, pm_cp_c, pm_k0_c, pm_k1_c, pm_k2_c, pm_k3_c, pm_s1_c, pm_s2_c, pm_s3_c, pm_s4_c, pm_ri_c, pm_ra_c, pm_rn_c, pm_rk_i, pm_rk_z, pm_rk_a, pm_vk_i, pm_vk_z, pm_vk_a, pm_cti, pm_ctr, pm_ldi_z, pm_ldi_s, pm_lda_z, pm_lda_s, pm_cat_n, pm_cat_i, pm_cat_r, pm_cat_l, pm_obj, pm_arr, pm_opt, pm_ird, pm_aln, List.getElem?_cons_zero, List.getElem?_cons_succ, List.set_cons_zero, List.set_cons_succ, List.length_cons, List.length_nil, List.length_set, true_and, and_true, Nat.add_zero, Nat.zero_add, Nat.le_refl, Nat.reduceAdd, Nat.reduceLT, Nat.reduceLeDiff, Nat.zero_le, not_false_eq_true, not_true_eq_false, false_implies, implies_true, true_implies, Nat.zero_lt_succ, Nat.lt_add_one, pm_tl_n, pm_tl_s, sc_uL, H2, lg, pk_sub hk, cm', nI_1, show ¬ (1 : Int32) = 0 by decide]
          rw [E]
          exact ih (bs.length - (k + 1)) (by omega) (k + 1) rfl (by omega) c h3 _ P3 (l3.trans lg) (fun z => by omega)
      · have ke : k = e := by omega
        subst ke
        have na : ¬ atV bs k 48 57 = true := fun z => by
          have := ad.mp z
          rw [b4 this.1] at this
          exact absurd this.2 (by decide)
        rw [if_neg na]
        have hy' : k - skp bs p ≤ many → y = nuF bs (skp bs p) k := hy
        -- it fails
        have bad : (decide (¬ k - skp bs p = 0 ∧ k - skp bs p ≤ many) && inB (nuF bs (skp bs p) k) l r) = false → W_X12_number (d + 2) (hA.length + 0) 0 (fun x h' => ∃ y, x = some (.int y) ∧ (k - skp bs p ≤ many → y = nuF bs (skp bs p) k) ∧ pr_ h0 h' m o bs k (skp bs p) dp n (if (decide (¬ k - skp bs p = 0 ∧ k - skp bs p ≤ many) && inB (nuF bs (skp bs p) k) l r) = true then -1 else nI (skp bs p)) cs ks) 105 [some (.ref m), some (.int (nI many)), some (.int l), some (.int r), some (.int y), some (.int (nI (k - skp bs p)))] [] hB 0 := by
          intro hb
          simp only [w_X12_number_105, w_X12_number_106, w_X12_number_107, w_X12_number_110, pm_1i_c, pm_2i_c, pm_1l_c, pm_2l_c, pm_1a_c, pm_ia_c, pm_iia_c, pm_va_c, pm_cp_c, pm_k0_c, pm_k1_c, pm_k2_c, pm_k3_c, pm_s1_c, pm_s2_c, pm_s3_c, pm_s4_c, pm_ri_c, pm_ra_c, pm_rn_c, pm_rk_i, pm_rk_z, pm_rk_a, pm_vk_i, pm_vk_z, pm_vk_a, pm_cti, pm_ctr, pm_ldi_z, pm_ldi_s, pm_lda_z, pm_lda_s, pm_cat_n, pm_cat_i, pm_cat_r, pm_cat_l, pm_obj, pm_arr, pm_opt, pm_ird, pm_aln, List.getElem?_cons_zero, List.getElem?_cons_succ, List.set_cons_zero, List.set_cons_succ, List.length_cons, List.length_nil, List.length_set, true_and, and_true, Nat.add_zero, Nat.zero_add, Nat.le_refl, Nat.reduceAdd, Nat.reduceLT, Nat.reduceLeDiff, Nat.zero_le, not_false_eq_true, not_true_eq_false, false_implies, implies_true, true_implies, Nat.zero_lt_succ, Nat.lt_add_one, H2, lg]
          refine PM_use (c_Y_failsAt P2 (nI (skp bs p)) (d + 1)) ?_
          rintro x h3 l3 ⟨rfl, P3⟩
          rw [if_pos hf] at P3
          show W_X12_number _ _ _ _ _ _ _ _ _
          simp only [w_X12_number_113, w_X12_number_115, pm_1i_c, pm_2i_c, pm_1l_c, pm_2l_c, pm_1a_c, pm_ia_c, pm_iia_c, pm_va_c, pm_cp_c, pm_k0_c, pm_k1_c, pm_k2_c, pm_k3_c, pm_s1_c, pm_s2_c, pm_s3_c, pm_s4_c, pm_ri_c, pm_ra_c, pm_rn_c, pm_rk_i, pm_rk_z, pm_rk_a, pm_vk_i, pm_vk_z, pm_vk_a, pm_cti, pm_ctr, pm_ldi_z, pm_ldi_s, pm_lda_z, pm_lda_s, pm_cat_n, pm_cat_i, pm_cat_r, pm_cat_l, pm_obj, pm_arr, pm_opt, pm_ird, pm_aln, List.getElem?_cons_zero, List.getElem?_cons_succ, List.set_cons_zero, List.set_cons_succ, List.length_cons, List.length_nil, List.length_set, true_and, and_true, Nat.add_zero, Nat.zero_add, Nat.le_refl, Nat.reduceAdd, Nat.reduceLT, Nat.reduceLeDiff, Nat.zero_le, not_false_eq_true, not_true_eq_false, false_implies, implies_true, true_implies, Nat.zero_lt_succ, Nat.lt_add_one, pm_tl_n, pm_tl_s, sc_uL, l3, lg]
          rw [hb]
          exact ⟨_, rfl, hy', P3⟩
        by_cases c0 : k - skp bs p = 0
        · have c0' : nI (k - skp bs p) = 0 := by rw [c0]; rfl
          have B := bad (by rw [decide_eq_false (fun z => z.1 c0)]; rfl)
          rw [c0'] at B
          show W_X12_number _ _ _ _ _ _ _ _ _
          simp only [w_X12_number_24, w_X12_number_73, w_X12_number_74, w_X12_number_77, w_X12_number_78, w_X12_number_81, w_X12_number_82, w_X12_number_84, w_X12_number_86, pm_1i_c, pm_2i_c, pm_1l_c, pm_2l_c, pm_1a_c, pm_ia_c, pm_iia_c, pm_va_c, pm_cp_c, pm_k0_c, pm_k1_c, pm_k2_c, pm_k3_c, pm_s1_c, pm_s2_c, pm_s3_c, pm_s4_c, pm_ri_c, pm_ra_c, pm_rn_c, pm_rk_i, pm_rk_z, pm_rk_a, pm_vk_i, pm_vk_z, pm_vk_a, pm_cti, pm_ctr, pm_ldi_z, pm_ldi_s, pm_lda_z, pm_lda_s, pm_cat_n, pm_cat_i, pm_cat_r, pm_cat_l, pm_obj, pm_arr, pm_opt, pm_ird, pm_aln, List.getElem?_cons_zero, List.getElem?_cons_succ, List.set_cons_zero, List.set_cons_succ, List.length_cons, List.length_nil, List.length_set, true_and, and_true, Nat.add_zero, Nat.zero_add, Nat.le_refl, Nat.reduceAdd, Nat.reduceLT, Nat.reduceLeDiff, Nat.zero_le, not_false_eq_true, not_true_eq_false, false_implies, implies_true, true_implies, Nat.zero_lt_succ, Nat.lt_add_one, pm_tl_n, pm_tl_s, sc_uL, H2, lg, pk_sub hk, c0']
          exact B
        · have c0' : ¬ nI (k - skp bs p) = 0 := fun z => c0 ((nI_inj (b := 0) (by omega) (by omega)).mp z)
          by_cases cm : k - skp bs p ≤ many
          · have cm' : ¬ nI many < nI (k - skp bs p) := nI_nlt (by omega) (by omega)
            have ey := hy' cm
            show W_X12_number _ _ _ _ _ _ _ _ _
            simp only [w_X12_number_24, w_X12_number_73, w_X12_number_74, w_X12_number_77, w_X12_number_78, w_X12_number_81, w_X12_number_82, w_X12_number_84, w_X12_number_86, w_X12_number_89, w_X12_number_91, w_X12_number_92, w_X12_number_95, w_X12_number_97, w_X12_number_98, w_X12_number_99, pm_1i_c, pm_2i_c, pm_1l_c, pm_2l_c, pm_1a_c, pm_ia_c, pm_iia_c, pm_va_c, pm_cp_c, pm_k0_c, pm_k1_c, pm_k2_c, pm_k3_c, pm_s1_c, pm_s2_c, pm_s3_c, pm_s4_c, pm_ri_c, pm_ra_c, pm_rn_c, pm_rk_i, pm_rk_z, pm_rk_a, pm_vk_i, pm_vk_z, pm_vk_a, pm_cti, pm_ctr, pm_ldi_z, pm_ldi_s, pm_lda_z, pm_lda_s, pm_cat_n, pm_cat_i, pm_cat_r, pm_cat_l, pm_obj, pm_arr, pm_opt, pm_ird, pm_aln, List.getElem?_cons_zero, List.getElem?_cons_succ, List.set_cons_zero, List.set_cons_succ, List.length_cons, List.length_nil, List.length_set, true_and, and_true, Nat.add_zero, Nat.zero_add, Nat.le_refl, Nat.reduceAdd, Nat.reduceLT, Nat.reduceLeDiff, Nat.zero_le, not_false_eq_true, not_true_eq_false, false_implies, implies_true, true_implies, Nat.zero_lt_succ, Nat.lt_add_one, pm_tl_n, pm_tl_s, sc_uL, H2, lg, pk_sub hk, c0', cm']
            refine PM_use (c_M_in y l r (d + 1)) ?_
            rintro x hC lC ⟨rfl, rfl⟩
            by_cases ci : inB y l r = true
            · rw [if_pos ci]
              show W_X12_number _ _ _ _ _ _ _ _ _
              simp only [w_X12_number_102, w_X12_number_113, w_X12_number_115, pm_1i_c, pm_2i_c, pm_1l_c, pm_2l_c, pm_1a_c, pm_ia_c, pm_iia_c, pm_va_c, pm_cp_c, pm_k0_c, pm_k1_c, pm_k2_c, pm_k3_c, pm_s1_c, pm_s2_c, pm_s3_c, pm_s4_c, pm_ri_c, pm_ra_c, pm_rn_c, pm_rk_i, pm_rk_z, pm_rk_a, pm_vk_i, pm_vk_z, pm_vk_a, pm_cti, pm_ctr, pm_ldi_z, pm_ldi_s, pm_lda_z, pm_lda_s, pm_cat_n, pm_cat_i, pm_cat_r, pm_cat_l, pm_obj, pm_arr, pm_opt, pm_ird, pm_aln, List.getElem?_cons_zero, List.getElem?_cons_succ, List.set_cons_zero, List.set_cons_succ, List.length_cons, List.length_nil, List.length_set, true_and, and_true, Nat.add_zero, Nat.zero_add, Nat.le_refl, Nat.reduceAdd, Nat.reduceLT, Nat.reduceLeDiff, Nat.zero_le, not_false_eq_true, not_true_eq_false, false_implies, implies_true, true_implies, Nat.zero_lt_succ, Nat.lt_add_one, pm_tl_n, pm_tl_s, sc_uL, lg, show ¬ (1 : Int32) = 0 by decide]
              rw [hf] at P2
              refine ⟨_, rfl, hy', ?_⟩
              rw [if_pos (by rw [decide_eq_true ⟨c0, cm⟩, ← ey, ci]; rfl)]
              exact P2
            · rw [if_neg ci]
              show W_X12_number _ _ _ _ _ _ _ _ _
              simp only [w_X12_number_102, pm_1i_c, pm_2i_c, pm_1l_c, pm_2l_c, pm_1a_c, pm_ia_c, pm_iia_c, pm_va_c, pm_cp_c, pm_k0_c, pm_k1_c, pm_k2_c, pm_k3_c, pm_s1_c, pm_s2_c, pm_s3_c, pm_s4_c, pm_ri_c, pm_ra_c, pm_rn_c, pm_rk_i, pm_rk_z, pm_rk_a, pm_vk_i, pm_vk_z, pm_vk_a, pm_cti, pm_ctr, pm_ldi_z, pm_ldi_s, pm_lda_z, pm_lda_s, pm_cat_n, pm_cat_i, pm_cat_r, pm_cat_l, pm_obj, pm_arr, pm_opt, pm_ird, pm_aln, List.getElem?_cons_zero, List.getElem?_cons_succ, List.set_cons_zero, List.set_cons_succ, List.length_cons, List.length_nil, List.length_set, true_and, and_true, Nat.add_zero, Nat.zero_add, Nat.le_refl, Nat.reduceAdd, Nat.reduceLT, Nat.reduceLeDiff, Nat.zero_le, not_false_eq_true, not_true_eq_false, false_implies, implies_true, true_implies, Nat.zero_lt_succ, Nat.lt_add_one, pm_tl_n, pm_tl_s, sc_uL]
              refine bad ?_
              rw [← ey]
              cases q : inB y l r with
              | true => exact absurd q ci
              | false => rw [Bool.and_false]
          · have cm' : nI many < nI (k - skp bs p) := nI_lt (by omega) (by omega)
            show W_X12_number _ _ _ _ _ _ _ _ _
            simp only [w_X12_number_24, w_X12_number_73, w_X12_number_74, w_X12_number_77, w_X12_number_78, w_X12_number_81, w_X12_number_82, w_X12_number_84, w_X12_number_86, w_X12_number_89, w_X12_number_91, w_X12_number_92, pm_1i_c, pm_2i_c, pm_1l_c, pm_2l_c, pm_1a_c, pm_ia_c, pm_iia_c, pm_va_c, pm_cp_c, pm_k0_c, pm_k1_c, pm_k2_c, pm_k3_c, pm_s1_c, pm_s2_c, pm_s3_c, pm_s4_c, pm_ri_c, pm_ra_c, pm_rn_c, pm_rk_i, pm_rk_z, pm_rk_a, pm_vk_i, pm_vk_z, pm_vk_a, pm_cti, pm_ctr, pm_ldi_z, pm_ldi_s, pm_lda_z, pm_lda_s, pm_cat_n, pm_cat_i, pm_cat_r, pm_cat_l, pm_obj, pm_arr, pm_opt, pm_ird, pm_aln, List.getElem?_cons_zero, List.getElem?_cons_succ, List.set_cons_zero, List.set_cons_succ, List.length_cons, List.length_nil, List.length_set, true_and, and_true, Nat.add_zero, Nat.zero_add, Nat.le_refl, Nat.reduceAdd, Nat.reduceLT, Nat.reduceLeDiff, Nat.zero_le, not_false_eq_true, not_true_eq_false, false_implies, implies_true, true_implies, Nat.zero_lt_succ, Nat.lt_add_one, pm_tl_n, pm_tl_s, sc_uL, H2, lg, pk_sub hk, c0', cm']
            exact bad (by rw [decide_eq_false (fun z => cm z.2)]; rfl)
  have lz : h1.length = hA.length := l1
  show W_X12_number _ _ _ _ _ _ _ _ _
  simp only [w_X12_number_13, w_X12_number_14, pm_1i_c, pm_2i_c, pm_1l_c, pm_2l_c, pm_1a_c, pm_ia_c, pm_iia_c, pm_va_c, pm_cp_c, pm_k0_c, pm_k1_c, pm_k2_c, pm_k3_c, pm_s1_c, pm_s2_c, pm_s3_c, pm_s4_c, pm_ri_c, pm_ra_c, pm_rn_c, pm_rk_i, pm_rk_z, pm_rk_a, pm_vk_i, pm_vk_z, pm_vk_a, pm_cti, pm_ctr, pm_ldi_z, pm_ldi_s, pm_lda_z, pm_lda_s, pm_cat_n, pm_cat_i, pm_cat_r, pm_cat_l, pm_obj, pm_arr, pm_opt, pm_ird, pm_aln, List.getElem?_cons_zero, List.getElem?_cons_succ, List.set_cons_zero, List.set_cons_succ, List.length_cons, List.length_nil, List.length_set, true_and, and_true, Nat.add_zero, Nat.zero_add, Nat.le_refl, Nat.reduceAdd, Nat.reduceLT, Nat.reduceLeDiff, Nat.zero_le, not_false_eq_true, not_true_eq_false, false_implies, implies_true, true_implies, Nat.zero_lt_succ, Nat.lt_add_one, pm_tl_n, pm_tl_s, sc_uL]
  exact loop _ (skp bs p) rfl (Nat.le_refl _) b1 h1 0 P1 lz (fun _ => by rw [Nat.sub_self]; rfl)
/-- a number where the reader has failed -/
theorem c_Y_number_f (P : pr_ h0 h m o bs p b dp n fa cs ks) (hf : ¬ fa = -1) (many l r : Int32) (d : Nat) : PM (d + 3) 164 [.ref m, .int many, .int l, .int r] h (fun x h' => x = some (.int 0) ∧ h' = h) := by
  refine en_X12_number rfl rfl rfl rfl ?_
  have H0 := P.c0
  simp only [w_X12_number_0, w_X12_number_1, pm_1i_c, pm_2i_c, pm_1l_c, pm_2l_c, pm_1a_c, pm_ia_c, pm_iia_c, pm_va_c, pm_cp_c, pm_k0_c, pm_k1_c, pm_k2_c, pm_k3_c, pm_s1_c, pm_s2_c, pm_s3_c, pm_s4_c, pm_ri_c, pm_ra_c, pm_rn_c, pm_rk_i, pm_rk_z, pm_rk_a, pm_vk_i, pm_vk_z, pm_vk_a, pm_cti, pm_ctr, pm_ldi_z, pm_ldi_s, pm_lda_z, pm_lda_s, pm_cat_n, pm_cat_i, pm_cat_r, pm_cat_l, pm_obj, pm_arr, pm_opt, pm_ird, pm_aln, List.getElem?_cons_zero, List.getElem?_cons_succ, List.set_cons_zero, List.set_cons_succ, List.length_cons, List.length_nil, List.length_set, true_and, and_true, Nat.add_zero, Nat.zero_add, Nat.le_refl, Nat.reduceAdd, Nat.reduceLT, Nat.reduceLeDiff, Nat.zero_le, not_false_eq_true, not_true_eq_false, false_implies, implies_true, true_implies, Nat.zero_lt_succ, Nat.lt_add_one, H0]
  refine PM_use (c_Y_hasFailed P (d + 1)) ?_
  rintro x hA lA ⟨rfl, rfl⟩
  simp only [if_neg hf]
  show W_X12_number _ _ _ _ _ _ _ _ _
  simp only [w_X12_number_4, w_X12_number_7, w_X12_number_8, pm_1i_c, pm_2i_c, pm_1l_c, pm_2l_c, pm_1a_c, pm_ia_c, pm_iia_c, pm_va_c, pm_cp_c, pm_k0_c, pm_k1_c, pm_k2_c, pm_k3_c, pm_s1_c, pm_s2_c, pm_s3_c, pm_s4_c, pm_ri_c, pm_ra_c, pm_rn_c, pm_rk_i, pm_rk_z, pm_rk_a, pm_vk_i, pm_vk_z, pm_vk_a, pm_cti, pm_ctr, pm_ldi_z, pm_ldi_s, pm_lda_z, pm_lda_s, pm_cat_n, pm_cat_i, pm_cat_r, pm_cat_l, pm_obj, pm_arr, pm_opt, pm_ird, pm_aln, List.getElem?_cons_zero, List.getElem?_cons_succ, List.set_cons_zero, List.set_cons_succ, List.length_cons, List.length_nil, List.length_set, true_and, and_true, Nat.add_zero, Nat.zero_add, Nat.le_refl, Nat.reduceAdd, Nat.reduceLT, Nat.reduceLeDiff, Nat.zero_le, not_false_eq_true, not_true_eq_false, false_implies, implies_true, true_implies, Nat.zero_lt_succ, Nat.lt_add_one, pm_tl_n, pm_tl_s, sc_uL, H0, show ¬ (1 : Int32) = 0 by decide]
end MR
