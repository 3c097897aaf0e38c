/-! AdmissionDeskModel: past. -/
section MZ
variable {h h' : pmH} {m : Nat} {o : Nat → Int32} {A A' K K' B : AD} {bs ws bs' ws' xs : List Int32} {ik ft : Int32}
/-- how many unlike ones from k on -/
theorem c_M_unlikeFrom (H : md_ h m o A) {k : Nat} (hk : k ≤ (li A 5).length) (d : Nat) : PM (d + 2) 243 [.ref m, .int (nI k)] h (fun v h' => (∃ u, v = some (.int (nI u)) ∧ k + u ≤ (li A 5).length ∧ unl (li A 5) k (k + u) ∧ ∀ j, k ≤ j → j ≤ (li A 5).length → unl (li A 5) k j → j ≤ k + u) ∧ h' = h) := by
  have H2 := H
  obtain ⟨H0, f, H1, R⟩ := H
  unfold mO at H0
  have a1 := R.h.1
  refine en_X12_unlikeFrom rfl rfl ?_
  have outer : ∀ z n, (li A 5).length - n = z → k ≤ n → n ≤ (li A 5).length → unl (li A 5) k n → ∀ x3 : Option Value, W_X12_unlikeFrom (d + 1) (h.length + 0) 0 (fun v h' => (∃ u, v = some (.int (nI u)) ∧ k + u ≤ (li A 5).length ∧ unl (li A 5) k (k + u) ∧ ∀ j, k ≤ j → j ≤ (li A 5).length → unl (li A 5) k j → j ≤ k + u) ∧ h' = h) 2 [some (.ref m), some (.int (nI k)), some (.int (nI n)), x3] [] h 0 := by
    intro z
    induction z with
    | zero =>
      intro n hz hkn hn U x3
      have : n = (li A 5).length := by omega
      subst this
      have e1 : ¬ nI (li A 5).length < nI (li A 5).length := nI_nlt (by omega) (by omega)
      have e2 : nI (li A 5).length - nI k = nI ((li A 5).length - k) := pk_sub hk
      rw [w_X12_unlikeFrom_2]
      simp only [w_X12_unlikeFrom_3, w_X12_unlikeFrom_4, pm_1i_c, pm_2i_c, pm_1l_c, pm_2l_c, pm_1a_c, pm_ia_c, pm_iia_c, pm_va_c, pm_cp_c, pm_k0_c, pm_k1_c, pm_k2_c, pm_k3_c, pm_s1_c, pm_s2_c, pm_s3_c, pm_s4_c, pm_ri_c, pm_ra_c, pm_rn_c, pm_rk_i, pm_rk_z, pm_rk_a, pm_vk_i, pm_vk_z, pm_vk_a, pm_cti, pm_ctr, pm_ldi_z, pm_ldi_s, pm_lda_z, pm_lda_s, pm_cat_n, pm_cat_i, pm_cat_r, pm_cat_l, pm_obj, pm_arr, pm_opt, pm_ird, pm_aln, List.getElem?_cons_zero, List.getElem?_cons_succ, List.set_cons_zero, List.set_cons_succ, List.length_cons, List.length_nil, List.length_set, true_and, and_true, Nat.add_zero, Nat.zero_add, Nat.le_refl, Nat.reduceAdd, Nat.reduceLT, Nat.reduceLeDiff, Nat.zero_le, not_false_eq_true, not_true_eq_false, false_implies, implies_true, true_implies, Nat.zero_lt_succ, Nat.lt_add_one, H0]
      refine PM_use (c_M_pastMany H2 d) ?_
      rintro v g l ⟨rfl, rfl⟩
      show W_X12_unlikeFrom _ _ _ _ _ _ _ _ _
      simp only [w_X12_unlikeFrom_7, w_X12_unlikeFrom_46, w_X12_unlikeFrom_47, pm_1i_c, pm_2i_c, pm_1l_c, pm_2l_c, pm_1a_c, pm_ia_c, pm_iia_c, pm_va_c, pm_cp_c, pm_k0_c, pm_k1_c, pm_k2_c, pm_k3_c, pm_s1_c, pm_s2_c, pm_s3_c, pm_s4_c, pm_ri_c, pm_ra_c, pm_rn_c, pm_rk_i, pm_rk_z, pm_rk_a, pm_vk_i, pm_vk_z, pm_vk_a, pm_cti, pm_ctr, pm_ldi_z, pm_ldi_s, pm_lda_z, pm_lda_s, pm_cat_n, pm_cat_i, pm_cat_r, pm_cat_l, pm_obj, pm_arr, pm_opt, pm_ird, pm_aln, List.getElem?_cons_zero, List.getElem?_cons_succ, List.set_cons_zero, List.set_cons_succ, List.length_cons, List.length_nil, List.length_set, true_and, and_true, Nat.add_zero, Nat.zero_add, Nat.le_refl, Nat.reduceAdd, Nat.reduceLT, Nat.reduceLeDiff, Nat.zero_le, not_false_eq_true, not_true_eq_false, false_implies, implies_true, true_implies, Nat.zero_lt_succ, Nat.lt_add_one, pm_tl_n, pm_tl_s, sc_uL, e1, H0]
      refine PM_use (c_M_pastMany H2 d) ?_
      rintro v g l ⟨rfl, rfl⟩
      show W_X12_unlikeFrom _ _ _ _ _ _ _ _ _
      simp only [w_X12_unlikeFrom_50, w_X12_unlikeFrom_51, w_X12_unlikeFrom_52, pm_1i_c, pm_2i_c, pm_1l_c, pm_2l_c, pm_1a_c, pm_ia_c, pm_iia_c, pm_va_c, pm_cp_c, pm_k0_c, pm_k1_c, pm_k2_c, pm_k3_c, pm_s1_c, pm_s2_c, pm_s3_c, pm_s4_c, pm_ri_c, pm_ra_c, pm_rn_c, pm_rk_i, pm_rk_z, pm_rk_a, pm_vk_i, pm_vk_z, pm_vk_a, pm_cti, pm_ctr, pm_ldi_z, pm_ldi_s, pm_lda_z, pm_lda_s, pm_cat_n, pm_cat_i, pm_cat_r, pm_cat_l, pm_obj, pm_arr, pm_opt, pm_ird, pm_aln, List.getElem?_cons_zero, List.getElem?_cons_succ, List.set_cons_zero, List.set_cons_succ, List.length_cons, List.length_nil, List.length_set, true_and, and_true, Nat.add_zero, Nat.zero_add, Nat.le_refl, Nat.reduceAdd, Nat.reduceLT, Nat.reduceLeDiff, Nat.zero_le, not_false_eq_true, not_true_eq_false, false_implies, implies_true, true_implies, Nat.zero_lt_succ, Nat.lt_add_one, pm_tl_n, pm_tl_s, sc_uL, e2]
      refine ⟨_, rfl, by omega, ?_, fun j h1 h2 _ => by omega⟩
      rw [show k + ((li A 5).length - k) = (li A 5).length by omega]
      exact U
    | succ z ih =>
      intro n hz hkn hn U x3
      have hn2 : n < (li A 5).length := by omega
      have e1 : nI n < nI (li A 5).length := nI_lt hn2 (by omega)
      have inner : ∀ y i, n - i = y → k ≤ i → i ≤ n → (∀ a, k ≤ a → a < i → (li A 5).getD a (-1) ≠ (li A 5).getD n (-1)) → W_X12_unlikeFrom (d + 1) (h.length + 0) 0 (fun v h' => (∃ u, v = some (.int (nI u)) ∧ k + u ≤ (li A 5).length ∧ unl (li A 5) k (k + u) ∧ ∀ j, k ≤ j → j ≤ (li A 5).length → unl (li A 5) k j → j ≤ k + u) ∧ h' = h) 12 [some (.ref m), some (.int (nI k)), some (.int (nI n)), some (.int (nI i))] [] h 0 := by
        intro y
        induction y with
        | zero =>
          intro i hy hki hi q
          have : i = n := by omega
          subst this
          have e2 : ¬ nI i < nI i := nI_nlt (by omega) (by omega)
          rw [w_X12_unlikeFrom_12]
          simp only [w_X12_unlikeFrom_13, w_X12_unlikeFrom_14, w_X12_unlikeFrom_40, w_X12_unlikeFrom_43, pm_1i_c, pm_2i_c, pm_1l_c, pm_2l_c, pm_1a_c, pm_ia_c, pm_iia_c, pm_va_c, pm_cp_c, pm_k0_c, pm_k1_c, pm_k2_c, pm_k3_c, pm_s1_c, pm_s2_c, pm_s3_c, pm_s4_c, pm_ri_c, pm_ra_c, pm_rn_c, pm_rk_i, pm_rk_z, pm_rk_a, pm_vk_i, pm_vk_z, pm_vk_a, pm_cti, pm_ctr, pm_ldi_z, pm_ldi_s, pm_lda_z, pm_lda_s, pm_cat_n, pm_cat_i, pm_cat_r, pm_cat_l, pm_obj, pm_arr, pm_opt, pm_ird, pm_aln, List.getElem?_cons_zero, List.getElem?_cons_succ, List.set_cons_zero, List.set_cons_succ, List.length_cons, List.length_nil, List.length_set, true_and, and_true, Nat.add_zero, Nat.zero_add, Nat.le_refl, Nat.reduceAdd, Nat.reduceLT, Nat.reduceLeDiff, Nat.zero_le, not_false_eq_true, not_true_eq_false, false_implies, implies_true, true_implies, Nat.zero_lt_succ, Nat.lt_add_one, e2, nI_1]
          refine ih (i + 1) (by omega) (by omega) (by omega) (fun a b ha hab hb => ?_) _
          by_cases c : b = i
          · rw [c] at hab ⊢
            exact q a ha hab
          · exact U a b ha hab (by omega)
        | succ y ihy =>
          intro i hy hki hi q
          have e2 : nI i < nI n := nI_lt (by omega) (by omega)
          have e3 : nI n - nI k = nI (n - k) := pk_sub hkn
          rw [w_X12_unlikeFrom_12]
          simp only [w_X12_unlikeFrom_13, w_X12_unlikeFrom_14, w_X12_unlikeFrom_17, w_X12_unlikeFrom_18, w_X12_unlikeFrom_19, pm_1i_c, pm_2i_c, pm_1l_c, pm_2l_c, pm_1a_c, pm_ia_c, pm_iia_c, pm_va_c, pm_cp_c, pm_k0_c, pm_k1_c, pm_k2_c, pm_k3_c, pm_s1_c, pm_s2_c, pm_s3_c, pm_s4_c, pm_ri_c, pm_ra_c, pm_rn_c, pm_rk_i, pm_rk_z, pm_rk_a, pm_vk_i, pm_vk_z, pm_vk_a, pm_cti, pm_ctr, pm_ldi_z, pm_ldi_s, pm_lda_z, pm_lda_s, pm_cat_n, pm_cat_i, pm_cat_r, pm_cat_l, pm_obj, pm_arr, pm_opt, pm_ird, pm_aln, List.getElem?_cons_zero, List.getElem?_cons_succ, List.set_cons_zero, List.set_cons_succ, List.length_cons, List.length_nil, List.length_set, true_and, and_true, Nat.add_zero, Nat.zero_add, Nat.le_refl, Nat.reduceAdd, Nat.reduceLT, Nat.reduceLeDiff, Nat.zero_le, not_false_eq_true, not_true_eq_false, false_implies, implies_true, true_implies, Nat.zero_lt_succ, Nat.lt_add_one, e2, H0]
          refine PM_use (c_M_pastAt H2 (show i < (li A 5).length by omega) d) ?_
          rintro v g l ⟨rfl, rfl⟩
          show W_X12_unlikeFrom _ _ _ _ _ _ _ _ _
          simp only [w_X12_unlikeFrom_22, w_X12_unlikeFrom_23, w_X12_unlikeFrom_24, pm_1i_c, pm_2i_c, pm_1l_c, pm_2l_c, pm_1a_c, pm_ia_c, pm_iia_c, pm_va_c, pm_cp_c, pm_k0_c, pm_k1_c, pm_k2_c, pm_k3_c, pm_s1_c, pm_s2_c, pm_s3_c, pm_s4_c, pm_ri_c, pm_ra_c, pm_rn_c, pm_rk_i, pm_rk_z, pm_rk_a, pm_vk_i, pm_vk_z, pm_vk_a, pm_cti, pm_ctr, pm_ldi_z, pm_ldi_s, pm_lda_z, pm_lda_s, pm_cat_n, pm_cat_i, pm_cat_r, pm_cat_l, pm_obj, pm_arr, pm_opt, pm_ird, pm_aln, List.getElem?_cons_zero, List.getElem?_cons_succ, List.set_cons_zero, List.set_cons_succ, List.length_cons, List.length_nil, List.length_set, true_and, and_true, Nat.add_zero, Nat.zero_add, Nat.le_refl, Nat.reduceAdd, Nat.reduceLT, Nat.reduceLeDiff, Nat.zero_le, not_false_eq_true, not_true_eq_false, false_implies, implies_true, true_implies, Nat.zero_lt_succ, Nat.lt_add_one, pm_tl_n, pm_tl_s, sc_uL, H0]
          refine PM_use (c_M_pastAt H2 hn2 d) ?_
          rintro v g l ⟨rfl, rfl⟩
          by_cases c : (li A 5).getD i (-1) = (li A 5).getD n (-1)
          · show W_X12_unlikeFrom _ _ _ _ _ _ _ _ _
            simp only [w_X12_unlikeFrom_27, w_X12_unlikeFrom_30, w_X12_unlikeFrom_31, w_X12_unlikeFrom_32, w_X12_unlikeFrom_33, pm_1i_c, pm_2i_c, pm_1l_c, pm_2l_c, pm_1a_c, pm_ia_c, pm_iia_c, pm_va_c, pm_cp_c, pm_k0_c, pm_k1_c, pm_k2_c, pm_k3_c, pm_s1_c, pm_s2_c, pm_s3_c, pm_s4_c, pm_ri_c, pm_ra_c, pm_rn_c, pm_rk_i, pm_rk_z, pm_rk_a, pm_vk_i, pm_vk_z, pm_vk_a, pm_cti, pm_ctr, pm_ldi_z, pm_ldi_s, pm_lda_z, pm_lda_s, pm_cat_n, pm_cat_i, pm_cat_r, pm_cat_l, pm_obj, pm_arr, pm_opt, pm_ird, pm_aln, List.getElem?_cons_zero, List.getElem?_cons_succ, List.set_cons_zero, List.set_cons_succ, List.length_cons, List.length_nil, List.length_set, true_and, and_true, Nat.add_zero, Nat.zero_add, Nat.le_refl, Nat.reduceAdd, Nat.reduceLT, Nat.reduceLeDiff, Nat.zero_le, not_false_eq_true, not_true_eq_false, false_implies, implies_true, true_implies, Nat.zero_lt_succ, Nat.lt_add_one, pm_tl_n, pm_tl_s, sc_uL, c, e3]
            refine ⟨_, rfl, by omega, ?_, fun j h1 h2 hu => ?_⟩
            · rw [show k + (n - k) = n by omega]
              exact U
            · rcases Nat.lt_or_ge n j with w | w
              · exact absurd c (hu i n hki (by omega) w)
              · omega
          · show W_X12_unlikeFrom _ _ _ _ _ _ _ _ _
            simp only [w_X12_unlikeFrom_27, w_X12_unlikeFrom_34, w_X12_unlikeFrom_37, pm_1i_c, pm_2i_c, pm_1l_c, pm_2l_c, pm_1a_c, pm_ia_c, pm_iia_c, pm_va_c, pm_cp_c, pm_k0_c, pm_k1_c, pm_k2_c, pm_k3_c, pm_s1_c, pm_s2_c, pm_s3_c, pm_s4_c, pm_ri_c, pm_ra_c, pm_rn_c, pm_rk_i, pm_rk_z, pm_rk_a, pm_vk_i, pm_vk_z, pm_vk_a, pm_cti, pm_ctr, pm_ldi_z, pm_ldi_s, pm_lda_z, pm_lda_s, pm_cat_n, pm_cat_i, pm_cat_r, pm_cat_l, pm_obj, pm_arr, pm_opt, pm_ird, pm_aln, List.getElem?_cons_zero, List.getElem?_cons_succ, List.set_cons_zero, List.set_cons_succ, List.length_cons, List.length_nil, List.length_set, true_and, and_true, Nat.add_zero, Nat.zero_add, Nat.le_refl, Nat.reduceAdd, Nat.reduceLT, Nat.reduceLeDiff, Nat.zero_le, not_false_eq_true, not_true_eq_false, false_implies, implies_true, true_implies, Nat.zero_lt_succ, Nat.lt_add_one, pm_tl_n, pm_tl_s, sc_uL, c, nI_1]
            refine ihy (i + 1) (by omega) (by omega) (by omega) (fun a h1 h2 => ?_)
            by_cases e : a = i
            · rw [e]
              exact c
            · exact q a h1 (by omega)
      rw [w_X12_unlikeFrom_2]
      simp only [w_X12_unlikeFrom_3, w_X12_unlikeFrom_4, pm_1i_c, pm_2i_c, pm_1l_c, pm_2l_c, pm_1a_c, pm_ia_c, pm_iia_c, pm_va_c, pm_cp_c, pm_k0_c, pm_k1_c, pm_k2_c, pm_k3_c, pm_s1_c, pm_s2_c, pm_s3_c, pm_s4_c, pm_ri_c, pm_ra_c, pm_rn_c, pm_rk_i, pm_rk_z, pm_rk_a, pm_vk_i, pm_vk_z, pm_vk_a, pm_cti, pm_ctr, pm_ldi_z, pm_ldi_s, pm_lda_z, pm_lda_s, pm_cat_n, pm_cat_i, pm_cat_r, pm_cat_l, pm_obj, pm_arr, pm_opt, pm_ird, pm_aln, List.getElem?_cons_zero, List.getElem?_cons_succ, List.set_cons_zero, List.set_cons_succ, List.length_cons, List.length_nil, List.length_set, true_and, and_true, Nat.add_zero, Nat.zero_add, Nat.le_refl, Nat.reduceAdd, Nat.reduceLT, Nat.reduceLeDiff, Nat.zero_le, not_false_eq_true, not_true_eq_false, false_implies, implies_true, true_implies, Nat.zero_lt_succ, Nat.lt_add_one, H0]
      refine PM_use (c_M_pastMany H2 d) ?_
      rintro v g l ⟨rfl, rfl⟩
      show W_X12_unlikeFrom _ _ _ _ _ _ _ _ _
      simp only [w_X12_unlikeFrom_7, w_X12_unlikeFrom_10, w_X12_unlikeFrom_11, pm_1i_c, pm_2i_c, pm_1l_c, pm_2l_c, pm_1a_c, pm_ia_c, pm_iia_c, pm_va_c, pm_cp_c, pm_k0_c, pm_k1_c, pm_k2_c, pm_k3_c, pm_s1_c, pm_s2_c, pm_s3_c, pm_s4_c, pm_ri_c, pm_ra_c, pm_rn_c, pm_rk_i, pm_rk_z, pm_rk_a, pm_vk_i, pm_vk_z, pm_vk_a, pm_cti, pm_ctr, pm_ldi_z, pm_ldi_s, pm_lda_z, pm_lda_s, pm_cat_n, pm_cat_i, pm_cat_r, pm_cat_l, pm_obj, pm_arr, pm_opt, pm_ird, pm_aln, List.getElem?_cons_zero, List.getElem?_cons_succ, List.set_cons_zero, List.set_cons_succ, List.length_cons, List.length_nil, List.length_set, true_and, and_true, Nat.add_zero, Nat.zero_add, Nat.le_refl, Nat.reduceAdd, Nat.reduceLT, Nat.reduceLeDiff, Nat.zero_le, not_false_eq_true, not_true_eq_false, false_implies, implies_true, true_implies, Nat.zero_lt_succ, Nat.lt_add_one, pm_tl_n, pm_tl_s, sc_uL, e1]
      exact inner _ k rfl (Nat.le_refl _) hkn (fun a h1 h2 => by omega)
  simp only [w_X12_unlikeFrom_0, w_X12_unlikeFrom_1, pm_1i_c, pm_2i_c, pm_1l_c, pm_2l_c, pm_1a_c, pm_ia_c, pm_iia_c, pm_va_c, pm_cp_c, pm_k0_c, pm_k1_c, pm_k2_c, pm_k3_c, pm_s1_c, pm_s2_c, pm_s3_c, pm_s4_c, pm_ri_c, pm_ra_c, pm_rn_c, pm_rk_i, pm_rk_z, pm_rk_a, pm_vk_i, pm_vk_z, pm_vk_a, pm_cti, pm_ctr, pm_ldi_z, pm_ldi_s, pm_lda_z, pm_lda_s, pm_cat_n, pm_cat_i, pm_cat_r, pm_cat_l, pm_obj, pm_arr, pm_opt, pm_ird, pm_aln, List.getElem?_cons_zero, List.getElem?_cons_succ, List.set_cons_zero, List.set_cons_succ, List.length_cons, List.length_nil, List.length_set, true_and, and_true, Nat.add_zero, Nat.zero_add, Nat.le_refl, Nat.reduceAdd, Nat.reduceLT, Nat.reduceLeDiff, Nat.zero_le, not_false_eq_true, not_true_eq_false, false_implies, implies_true, true_implies, Nat.zero_lt_succ, Nat.lt_add_one]
  exact outer _ k rfl (Nat.le_refl _) hk (fun a b h1 h2 h3 => by omega) _
theorem c_M_unlike (H : md_ h m o A) (d : Nat) : PM (d + 3) 244 [.ref m] h (fun v h' => v = some (.int (nI (unS (li A 5) (li A 5).length))) ∧ h' = h) := by
  have H2 := H
  obtain ⟨H0, f, H1, R⟩ := H
  unfold mO at H0
  have a1 := R.h.1
  have eu : unS (li A 5) (li A 5).length = dst (li A 5) := by rw [unS_d _ _ (Nat.le_refl _), List.take_length]
  rw [eu]
  have dl := dst_le (li A 5)
  refine en_X12_unlike rfl ?_
  have loop : ∀ z k c, (li A 5).length - k = z → k ≤ (li A 5).length → c + dst ((li A 5).drop k) = dst (li A 5) → W_X12_unlike (d + 2) (h.length + 0) 0 (fun v h' => v = some (.int (nI (dst (li A 5)))) ∧ h' = h) 4 [some (.ref m), some (.int (nI c)), some (.int (nI k))] [] h 0 := by
    intro z
    induction z with
    | zero =>
      intro k c hz hk e
      have : k = (li A 5).length := by omega
      subst this
      have e1 : ¬ nI (li A 5).length < nI (li A 5).length := nI_nlt (by omega) (by omega)
      rw [List.drop_length] at e
      have e' : c = dst (li A 5) := e
      rw [w_X12_unlike_4]
      simp only [w_X12_unlike_5, w_X12_unlike_6, pm_1i_c, pm_2i_c, pm_1l_c, pm_2l_c, pm_1a_c, pm_ia_c, pm_iia_c, pm_va_c, pm_cp_c, pm_k0_c, pm_k1_c, pm_k2_c, pm_k3_c, pm_s1_c, pm_s2_c, pm_s3_c, pm_s4_c, pm_ri_c, pm_ra_c, pm_rn_c, pm_rk_i, pm_rk_z, pm_rk_a, pm_vk_i, pm_vk_z, pm_vk_a, pm_cti, pm_ctr, pm_ldi_z, pm_ldi_s, pm_lda_z, pm_lda_s, pm_cat_n, pm_cat_i, pm_cat_r, pm_cat_l, pm_obj, pm_arr, pm_opt, pm_ird, pm_aln, List.getElem?_cons_zero, List.getElem?_cons_succ, List.set_cons_zero, List.set_cons_succ, List.length_cons, List.length_nil, List.length_set, true_and, and_true, Nat.add_zero, Nat.zero_add, Nat.le_refl, Nat.reduceAdd, Nat.reduceLT, Nat.reduceLeDiff, Nat.zero_le, not_false_eq_true, not_true_eq_false, false_implies, implies_true, true_implies, Nat.zero_lt_succ, Nat.lt_add_one, H0]
      refine PM_use (c_M_pastMany H2 (d + 1)) ?_
      rintro v g l ⟨rfl, rfl⟩
      show W_X12_unlike _ _ _ _ _ _ _ _ _
      simp only [w_X12_unlike_9, w_X12_unlike_41, w_X12_unlike_42, pm_1i_c, pm_2i_c, pm_1l_c, pm_2l_c, pm_1a_c, pm_ia_c, pm_iia_c, pm_va_c, pm_cp_c, pm_k0_c, pm_k1_c, pm_k2_c, pm_k3_c, pm_s1_c, pm_s2_c, pm_s3_c, pm_s4_c, pm_ri_c, pm_ra_c, pm_rn_c, pm_rk_i, pm_rk_z, pm_rk_a, pm_vk_i, pm_vk_z, pm_vk_a, pm_cti, pm_ctr, pm_ldi_z, pm_ldi_s, pm_lda_z, pm_lda_s, pm_cat_n, pm_cat_i, pm_cat_r, pm_cat_l, pm_obj, pm_arr, pm_opt, pm_ird, pm_aln, List.getElem?_cons_zero, List.getElem?_cons_succ, List.set_cons_zero, List.set_cons_succ, List.length_cons, List.length_nil, List.length_set, true_and, and_true, Nat.add_zero, Nat.zero_add, Nat.le_refl, Nat.reduceAdd, Nat.reduceLT, Nat.reduceLeDiff, Nat.zero_le, not_false_eq_true, not_true_eq_false, false_implies, implies_true, true_implies, Nat.zero_lt_succ, Nat.lt_add_one, pm_tl_n, pm_tl_s, sc_uL, e1, e']
    | succ z ih =>
      intro k c hz hk e
      have hk2 : k < (li A 5).length := by omega
      have e1 : nI k < nI (li A 5).length := nI_lt hk2 (by omega)
      have ds := dst_drop a1 hk2
      have nl := ndN_le (li A 5) ((li A 5).getD k (-1)) a1 _ (k + 1) rfl
      rw [w_X12_unlike_4]
      simp only [w_X12_unlike_5, w_X12_unlike_6, pm_1i_c, pm_2i_c, pm_1l_c, pm_2l_c, pm_1a_c, pm_ia_c, pm_iia_c, pm_va_c, pm_cp_c, pm_k0_c, pm_k1_c, pm_k2_c, pm_k3_c, pm_s1_c, pm_s2_c, pm_s3_c, pm_s4_c, pm_ri_c, pm_ra_c, pm_rn_c, pm_rk_i, pm_rk_z, pm_rk_a, pm_vk_i, pm_vk_z, pm_vk_a, pm_cti, pm_ctr, pm_ldi_z, pm_ldi_s, pm_lda_z, pm_lda_s, pm_cat_n, pm_cat_i, pm_cat_r, pm_cat_l, pm_obj, pm_arr, pm_opt, pm_ird, pm_aln, List.getElem?_cons_zero, List.getElem?_cons_succ, List.set_cons_zero, List.set_cons_succ, List.length_cons, List.length_nil, List.length_set, true_and, and_true, Nat.add_zero, Nat.zero_add, Nat.le_refl, Nat.reduceAdd, Nat.reduceLT, Nat.reduceLeDiff, Nat.zero_le, not_false_eq_true, not_true_eq_false, false_implies, implies_true, true_implies, Nat.zero_lt_succ, Nat.lt_add_one, H0]
      refine PM_use (c_M_pastMany H2 (d + 1)) ?_
      rintro v g l ⟨rfl, rfl⟩
      show W_X12_unlike _ _ _ _ _ _ _ _ _
      simp only [w_X12_unlike_9, w_X12_unlike_12, w_X12_unlike_13, w_X12_unlike_14, w_X12_unlike_15, w_X12_unlike_16, pm_1i_c, pm_2i_c, pm_1l_c, pm_2l_c, pm_1a_c, pm_ia_c, pm_iia_c, pm_va_c, pm_cp_c, pm_k0_c, pm_k1_c, pm_k2_c, pm_k3_c, pm_s1_c, pm_s2_c, pm_s3_c, pm_s4_c, pm_ri_c, pm_ra_c, pm_rn_c, pm_rk_i, pm_rk_z, pm_rk_a, pm_vk_i, pm_vk_z, pm_vk_a, pm_cti, pm_ctr, pm_ldi_z, pm_ldi_s, pm_lda_z, pm_lda_s, pm_cat_n, pm_cat_i, pm_cat_r, pm_cat_l, pm_obj, pm_arr, pm_opt, pm_ird, pm_aln, List.getElem?_cons_zero, List.getElem?_cons_succ, List.set_cons_zero, List.set_cons_succ, List.length_cons, List.length_nil, List.length_set, true_and, and_true, Nat.add_zero, Nat.zero_add, Nat.le_refl, Nat.reduceAdd, Nat.reduceLT, Nat.reduceLeDiff, Nat.zero_le, not_false_eq_true, not_true_eq_false, false_implies, implies_true, true_implies, Nat.zero_lt_succ, Nat.lt_add_one, pm_tl_n, pm_tl_s, sc_uL, e1, H0]
      refine PM_use (c_M_pastAt H2 hk2 (d + 1)) ?_
      rintro v g l ⟨rfl, rfl⟩
      show W_X12_unlike _ _ _ _ _ _ _ _ _
      simp only [w_X12_unlike_19, w_X12_unlike_20, pm_1i_c, pm_2i_c, pm_1l_c, pm_2l_c, pm_1a_c, pm_ia_c, pm_iia_c, pm_va_c, pm_cp_c, pm_k0_c, pm_k1_c, pm_k2_c, pm_k3_c, pm_s1_c, pm_s2_c, pm_s3_c, pm_s4_c, pm_ri_c, pm_ra_c, pm_rn_c, pm_rk_i, pm_rk_z, pm_rk_a, pm_vk_i, pm_vk_z, pm_vk_a, pm_cti, pm_ctr, pm_ldi_z, pm_ldi_s, pm_lda_z, pm_lda_s, pm_cat_n, pm_cat_i, pm_cat_r, pm_cat_l, pm_obj, pm_arr, pm_opt, pm_ird, pm_aln, List.getElem?_cons_zero, List.getElem?_cons_succ, List.set_cons_zero, List.set_cons_succ, List.length_cons, List.length_nil, List.length_set, true_and, and_true, Nat.add_zero, Nat.zero_add, Nat.le_refl, Nat.reduceAdd, Nat.reduceLT, Nat.reduceLeDiff, Nat.zero_le, not_false_eq_true, not_true_eq_false, false_implies, implies_true, true_implies, Nat.zero_lt_succ, Nat.lt_add_one, pm_tl_n, pm_tl_s, sc_uL, H0]
      refine PM_use (c_M_nextAsk H2 ((li A 5).getD k (-1)) hk2 d) ?_
      rintro v g l ⟨rfl, rfl⟩
      by_cases c1 : ndN (li A 5) ((li A 5).getD k (-1)) (k + 1) = 100
      · have c1' : nI (ndN (li A 5) ((li A 5).getD k (-1)) (k + 1)) = 100 := by rw [c1]; rfl
        rw [if_pos c1] at ds
        show W_X12_unlike _ _ _ _ _ _ _ _ _
        simp only [w_X12_unlike_23, w_X12_unlike_25, w_X12_unlike_28, w_X12_unlike_29, w_X12_unlike_32, w_X12_unlike_33, w_X12_unlike_34, w_X12_unlike_35, w_X12_unlike_38, pm_1i_c, pm_2i_c, pm_1l_c, pm_2l_c, pm_1a_c, pm_ia_c, pm_iia_c, pm_va_c, pm_cp_c, pm_k0_c, pm_k1_c, pm_k2_c, pm_k3_c, pm_s1_c, pm_s2_c, pm_s3_c, pm_s4_c, pm_ri_c, pm_ra_c, pm_rn_c, pm_rk_i, pm_rk_z, pm_rk_a, pm_vk_i, pm_vk_z, pm_vk_a, pm_cti, pm_ctr, pm_ldi_z, pm_ldi_s, pm_lda_z, pm_lda_s, pm_cat_n, pm_cat_i, pm_cat_r, pm_cat_l, pm_obj, pm_arr, pm_opt, pm_ird, pm_aln, List.getElem?_cons_zero, List.getElem?_cons_succ, List.set_cons_zero, List.set_cons_succ, List.length_cons, List.length_nil, List.length_set, true_and, and_true, Nat.add_zero, Nat.zero_add, Nat.le_refl, Nat.reduceAdd, Nat.reduceLT, Nat.reduceLeDiff, Nat.zero_le, not_false_eq_true, not_true_eq_false, false_implies, implies_true, true_implies, Nat.zero_lt_succ, Nat.lt_add_one, pm_tl_n, pm_tl_s, sc_uL, c1', nI_1]
        exact ih (k + 1) (c + 1) (by omega) (by omega) (by omega)
      · have c1' : ¬ nI (ndN (li A 5) ((li A 5).getD k (-1)) (k + 1)) = 100 := fun w => c1 ((nI_inj (b := 100) (by omega) (by omega)).mp w)
        rw [if_neg c1] at ds
        show W_X12_unlike _ _ _ _ _ _ _ _ _
        simp only [w_X12_unlike_23, w_X12_unlike_25, w_X12_unlike_28, w_X12_unlike_29, w_X12_unlike_32, w_X12_unlike_33, w_X12_unlike_34, w_X12_unlike_35, w_X12_unlike_38, pm_1i_c, pm_2i_c, pm_1l_c, pm_2l_c, pm_1a_c, pm_ia_c, pm_iia_c, pm_va_c, pm_cp_c, pm_k0_c, pm_k1_c, pm_k2_c, pm_k3_c, pm_s1_c, pm_s2_c, pm_s3_c, pm_s4_c, pm_ri_c, pm_ra_c, pm_rn_c, pm_rk_i, pm_rk_z, pm_rk_a, pm_vk_i, pm_vk_z, pm_vk_a, pm_cti, pm_ctr, pm_ldi_z, pm_ldi_s, pm_lda_z, pm_lda_s, pm_cat_n, pm_cat_i, pm_cat_r, pm_cat_l, pm_obj, pm_arr, pm_opt, pm_ird, pm_aln, List.getElem?_cons_zero, List.getElem?_cons_succ, List.set_cons_zero, List.set_cons_succ, List.length_cons, List.length_nil, List.length_set, true_and, and_true, Nat.add_zero, Nat.zero_add, Nat.le_refl, Nat.reduceAdd, Nat.reduceLT, Nat.reduceLeDiff, Nat.zero_le, not_false_eq_true, not_true_eq_false, false_implies, implies_true, true_implies, Nat.zero_lt_succ, Nat.lt_add_one, pm_tl_n, pm_tl_s, sc_uL, c1', nI_1, Int32.add_zero]
        exact ih (k + 1) c (by omega) (by omega) (by omega)
  simp only [w_X12_unlike_0, w_X12_unlike_1, w_X12_unlike_2, w_X12_unlike_3, pm_1i_c, pm_2i_c, pm_1l_c, pm_2l_c, pm_1a_c, pm_ia_c, pm_iia_c, pm_va_c, pm_cp_c, pm_k0_c, pm_k1_c, pm_k2_c, pm_k3_c, pm_s1_c, pm_s2_c, pm_s3_c, pm_s4_c, pm_ri_c, pm_ra_c, pm_rn_c, pm_rk_i, pm_rk_z, pm_rk_a, pm_vk_i, pm_vk_z, pm_vk_a, pm_cti, pm_ctr, pm_ldi_z, pm_ldi_s, pm_lda_z, pm_lda_s, pm_cat_n, pm_cat_i, pm_cat_r, pm_cat_l, pm_obj, pm_arr, pm_opt, pm_ird, pm_aln, List.getElem?_cons_zero, List.getElem?_cons_succ, List.set_cons_zero, List.set_cons_succ, List.length_cons, List.length_nil, List.length_set, true_and, and_true, Nat.add_zero, Nat.zero_add, Nat.le_refl, Nat.reduceAdd, Nat.reduceLT, Nat.reduceLeDiff, Nat.zero_le, not_false_eq_true, not_true_eq_false, false_implies, implies_true, true_implies, Nat.zero_lt_succ, Nat.lt_add_one]
  exact loop _ 0 0 rfl (Nat.zero_le _) (by rw [List.drop_zero, Nat.zero_add])
theorem c_M_mostAsked (H : md_ h m o A) (hx : ∀ x ∈ li A 5, ∃ n, n < 100000 ∧ x = nI n) (d : Nat) : PM (d + 3) 245 [.ref m] h (fun v h' => v = some (.int (cmS (li A 5) (li A 5).length).1) ∧ h' = h) := by
  have H2 := H
  obtain ⟨H0, f, H1, R⟩ := H
  unfold mO at H0
  have a1 := R.h.1
  refine en_X12_mostAsked rfl ?_
  have loop : ∀ z k, (li A 5).length - k = z → k ≤ (li A 5).length → W_X12_mostAsked (d + 2) (h.length + 0) 0 (fun v h' => v = some (.int (cmS (li A 5) (li A 5).length).1) ∧ h' = h) 4 [some (.ref m), some (.int (cmS (li A 5) k).1), some (.int (nI k))] [] h 0 := by
    intro z
    induction z with
    | zero =>
      intro k hz hk
      have : k = (li A 5).length := by omega
      subst this
      have e1 : ¬ nI (li A 5).length < nI (li A 5).length := nI_nlt (by omega) (by omega)
      rw [w_X12_mostAsked_4]
      simp only [w_X12_mostAsked_5, w_X12_mostAsked_6, pm_1i_c, pm_2i_c, pm_1l_c, pm_2l_c, pm_1a_c, pm_ia_c, pm_iia_c, pm_va_c, pm_cp_c, pm_k0_c, pm_k1_c, pm_k2_c, pm_k3_c, pm_s1_c, pm_s2_c, pm_s3_c, pm_s4_c, pm_ri_c, pm_ra_c, pm_rn_c, pm_rk_i, pm_rk_z, pm_rk_a, pm_vk_i, pm_vk_z, pm_vk_a, pm_cti, pm_ctr, pm_ldi_z, pm_ldi_s, pm_lda_z, pm_lda_s, pm_cat_n, pm_cat_i, pm_cat_r, pm_cat_l, pm_obj, pm_arr, pm_opt, pm_ird, pm_aln, List.getElem?_cons_zero, List.getElem?_cons_succ, List.set_cons_zero, List.set_cons_succ, List.length_cons, List.length_nil, List.length_set, true_and, and_true, Nat.add_zero, Nat.zero_add, Nat.le_refl, Nat.reduceAdd, Nat.reduceLT, Nat.reduceLeDiff, Nat.zero_le, not_false_eq_true, not_true_eq_false, false_implies, implies_true, true_implies, Nat.zero_lt_succ, Nat.lt_add_one, H0]
      refine PM_use (c_M_pastMany H2 (d + 1)) ?_
      rintro v g l ⟨rfl, rfl⟩
      show W_X12_mostAsked _ _ _ _ _ _ _ _ _
      simp only [w_X12_mostAsked_9, w_X12_mostAsked_72, w_X12_mostAsked_73, pm_1i_c, pm_2i_c, pm_1l_c, pm_2l_c, pm_1a_c, pm_ia_c, pm_iia_c, pm_va_c, pm_cp_c, pm_k0_c, pm_k1_c, pm_k2_c, pm_k3_c, pm_s1_c, pm_s2_c, pm_s3_c, pm_s4_c, pm_ri_c, pm_ra_c, pm_rn_c, pm_rk_i, pm_rk_z, pm_rk_a, pm_vk_i, pm_vk_z, pm_vk_a, pm_cti, pm_ctr, pm_ldi_z, pm_ldi_s, pm_lda_z, pm_lda_s, pm_cat_n, pm_cat_i, pm_cat_r, pm_cat_l, pm_obj, pm_arr, pm_opt, pm_ird, pm_aln, List.getElem?_cons_zero, List.getElem?_cons_succ, List.set_cons_zero, List.set_cons_succ, List.length_cons, List.length_nil, List.length_set, true_and, and_true, Nat.add_zero, Nat.zero_add, Nat.le_refl, Nat.reduceAdd, Nat.reduceLT, Nat.reduceLeDiff, Nat.zero_le, not_false_eq_true, not_true_eq_false, false_implies, implies_true, true_implies, Nat.zero_lt_succ, Nat.lt_add_one, pm_tl_n, pm_tl_s, sc_uL, e1]
    | succ z ih =>
      intro k hz hk
      have hk2 : k < (li A 5).length := by omega
      have e1 : nI k < nI (li A 5).length := nI_lt hk2 (by omega)
      have N := ih (k + 1) (by omega) (by omega)
      have cs := cmS_s (li A 5) k
      have hm := getD_mem hk2
      have cp := mem_ct.mp hm
      have take : (cmS (li A 5) (k + 1)).1 = (li A 5).getD k (-1) → W_X12_mostAsked (d + 2) (h.length + 0) 0 (fun v h' => v = some (.int (cmS (li A 5) (li A 5).length).1) ∧ h' = h) 60 [some (.ref m), some (.int (cmS (li A 5) k).1), some (.int (nI k))] [] h 0 := by
        intro e
        rw [e] at N
        simp only [w_X12_mostAsked_60, w_X12_mostAsked_61, w_X12_mostAsked_62, pm_1i_c, pm_2i_c, pm_1l_c, pm_2l_c, pm_1a_c, pm_ia_c, pm_iia_c, pm_va_c, pm_cp_c, pm_k0_c, pm_k1_c, pm_k2_c, pm_k3_c, pm_s1_c, pm_s2_c, pm_s3_c, pm_s4_c, pm_ri_c, pm_ra_c, pm_rn_c, pm_rk_i, pm_rk_z, pm_rk_a, pm_vk_i, pm_vk_z, pm_vk_a, pm_cti, pm_ctr, pm_ldi_z, pm_ldi_s, pm_lda_z, pm_lda_s, pm_cat_n, pm_cat_i, pm_cat_r, pm_cat_l, pm_obj, pm_arr, pm_opt, pm_ird, pm_aln, List.getElem?_cons_zero, List.getElem?_cons_succ, List.set_cons_zero, List.set_cons_succ, List.length_cons, List.length_nil, List.length_set, true_and, and_true, Nat.add_zero, Nat.zero_add, Nat.le_refl, Nat.reduceAdd, Nat.reduceLT, Nat.reduceLeDiff, Nat.zero_le, not_false_eq_true, not_true_eq_false, false_implies, implies_true, true_implies, Nat.zero_lt_succ, Nat.lt_add_one, H0]
        refine PM_use (c_M_pastAt H2 hk2 (d + 1)) ?_
        rintro v g l ⟨rfl, rfl⟩
        show W_X12_mostAsked _ _ _ _ _ _ _ _ _
        simp only [w_X12_mostAsked_65, w_X12_mostAsked_66, w_X12_mostAsked_69, pm_1i_c, pm_2i_c, pm_1l_c, pm_2l_c, pm_1a_c, pm_ia_c, pm_iia_c, pm_va_c, pm_cp_c, pm_k0_c, pm_k1_c, pm_k2_c, pm_k3_c, pm_s1_c, pm_s2_c, pm_s3_c, pm_s4_c, pm_ri_c, pm_ra_c, pm_rn_c, pm_rk_i, pm_rk_z, pm_rk_a, pm_vk_i, pm_vk_z, pm_vk_a, pm_cti, pm_ctr, pm_ldi_z, pm_ldi_s, pm_lda_z, pm_lda_s, pm_cat_n, pm_cat_i, pm_cat_r, pm_cat_l, pm_obj, pm_arr, pm_opt, pm_ird, pm_aln, List.getElem?_cons_zero, List.getElem?_cons_succ, List.set_cons_zero, List.set_cons_succ, List.length_cons, List.length_nil, List.length_set, true_and, and_true, Nat.add_zero, Nat.zero_add, Nat.le_refl, Nat.reduceAdd, Nat.reduceLT, Nat.reduceLeDiff, Nat.zero_le, not_false_eq_true, not_true_eq_false, false_implies, implies_true, true_implies, Nat.zero_lt_succ, Nat.lt_add_one, pm_tl_n, pm_tl_s, sc_uL, nI_1]
        exact N
      have keep : (cmS (li A 5) (k + 1)) = cmS (li A 5) k → W_X12_mostAsked (d + 2) (h.length + 0) 0 (fun v h' => v = some (.int (cmS (li A 5) (li A 5).length).1) ∧ h' = h) 66 [some (.ref m), some (.int (cmS (li A 5) k).1), some (.int (nI k))] [] h 0 := by
        intro e
        rw [e] at N
        simp only [w_X12_mostAsked_66, w_X12_mostAsked_69, pm_1i_c, pm_2i_c, pm_1l_c, pm_2l_c, pm_1a_c, pm_ia_c, pm_iia_c, pm_va_c, pm_cp_c, pm_k0_c, pm_k1_c, pm_k2_c, pm_k3_c, pm_s1_c, pm_s2_c, pm_s3_c, pm_s4_c, pm_ri_c, pm_ra_c, pm_rn_c, pm_rk_i, pm_rk_z, pm_rk_a, pm_vk_i, pm_vk_z, pm_vk_a, pm_cti, pm_ctr, pm_ldi_z, pm_ldi_s, pm_lda_z, pm_lda_s, pm_cat_n, pm_cat_i, pm_cat_r, pm_cat_l, pm_obj, pm_arr, pm_opt, pm_ird, pm_aln, List.getElem?_cons_zero, List.getElem?_cons_succ, List.set_cons_zero, List.set_cons_succ, List.length_cons, List.length_nil, List.length_set, true_and, and_true, Nat.add_zero, Nat.zero_add, Nat.le_refl, Nat.reduceAdd, Nat.reduceLT, Nat.reduceLeDiff, Nat.zero_le, not_false_eq_true, not_true_eq_false, false_implies, implies_true, true_implies, Nat.zero_lt_succ, Nat.lt_add_one, nI_1]
        exact N
      rw [w_X12_mostAsked_4]
      simp only [w_X12_mostAsked_5, w_X12_mostAsked_6, pm_1i_c, pm_2i_c, pm_1l_c, pm_2l_c, pm_1a_c, pm_ia_c, pm_iia_c, pm_va_c, pm_cp_c, pm_k0_c, pm_k1_c, pm_k2_c, pm_k3_c, pm_s1_c, pm_s2_c, pm_s3_c, pm_s4_c, pm_ri_c, pm_ra_c, pm_rn_c, pm_rk_i, pm_rk_z, pm_rk_a, pm_vk_i, pm_vk_z, pm_vk_a, pm_cti, pm_ctr, pm_ldi_z, pm_ldi_s, pm_lda_z, pm_lda_s, pm_cat_n, pm_cat_i, pm_cat_r, pm_cat_l, pm_obj, pm_arr, pm_opt, pm_ird, pm_aln, List.getElem?_cons_zero, List.getElem?_cons_succ, List.set_cons_zero, List.set_cons_succ, List.length_cons, List.length_nil, List.length_set, true_and, and_true, Nat.add_zero, Nat.zero_add, Nat.le_refl, Nat.reduceAdd, Nat.reduceLT, Nat.reduceLeDiff, Nat.zero_le, not_false_eq_true, not_true_eq_false, false_implies, implies_true, true_implies, Nat.zero_lt_succ, Nat.lt_add_one, H0]
      refine PM_use (c_M_pastMany H2 (d + 1)) ?_
      rintro v g l ⟨rfl, rfl⟩
      rcases cmS_inv (li A 5) hx k (by omega) with ⟨k0, e⟩ | ⟨n1, n2⟩
      · have eq1 : (cmS (li A 5) k).1 = -1 := by rw [e]
        show W_X12_mostAsked _ _ _ _ _ _ _ _ _
        simp only [w_X12_mostAsked_9, w_X12_mostAsked_12, w_X12_mostAsked_13, w_X12_mostAsked_14, pm_1i_c, pm_2i_c, pm_1l_c, pm_2l_c, pm_1a_c, pm_ia_c, pm_iia_c, pm_va_c, pm_cp_c, pm_k0_c, pm_k1_c, pm_k2_c, pm_k3_c, pm_s1_c, pm_s2_c, pm_s3_c, pm_s4_c, pm_ri_c, pm_ra_c, pm_rn_c, pm_rk_i, pm_rk_z, pm_rk_a, pm_vk_i, pm_vk_z, pm_vk_a, pm_cti, pm_ctr, pm_ldi_z, pm_ldi_s, pm_lda_z, pm_lda_s, pm_cat_n, pm_cat_i, pm_cat_r, pm_cat_l, pm_obj, pm_arr, pm_opt, pm_ird, pm_aln, List.getElem?_cons_zero, List.getElem?_cons_succ, List.set_cons_zero, List.set_cons_succ, List.length_cons, List.length_nil, List.length_set, true_and, and_true, Nat.add_zero, Nat.zero_add, Nat.le_refl, Nat.reduceAdd, Nat.reduceLT, Nat.reduceLeDiff, Nat.zero_le, not_false_eq_true, not_true_eq_false, false_implies, implies_true, true_implies, Nat.zero_lt_succ, Nat.lt_add_one, pm_tl_n, pm_tl_s, sc_uL, e1, eq1]
        rw [eq1] at take
        refine take ?_
        rw [cs, e, if_pos (Or.inl cp)]
      · obtain ⟨b, hb⟩ : ∃ b, b = (cmS (li A 5) k).1 := ⟨_, rfl⟩
        rw [← hb] at n1 n2 cs take keep ⊢
        obtain ⟨y, hy⟩ : ∃ y, y = (li A 5).getD k (-1) := ⟨_, rfl⟩
        rw [← hy] at cs cp take
        rw [n2] at cs
        have l1 : (li A 5).count y ≤ 100 := Nat.le_trans List.count_le_length a1
        have l2 : (li A 5).count b ≤ 100 := Nat.le_trans List.count_le_length a1
        show W_X12_mostAsked _ _ _ _ _ _ _ _ _
        simp only [w_X12_mostAsked_9, w_X12_mostAsked_12, w_X12_mostAsked_13, w_X12_mostAsked_14, w_X12_mostAsked_17, w_X12_mostAsked_18, w_X12_mostAsked_19, w_X12_mostAsked_20, pm_1i_c, pm_2i_c, pm_1l_c, pm_2l_c, pm_1a_c, pm_ia_c, pm_iia_c, pm_va_c, pm_cp_c, pm_k0_c, pm_k1_c, pm_k2_c, pm_k3_c, pm_s1_c, pm_s2_c, pm_s3_c, pm_s4_c, pm_ri_c, pm_ra_c, pm_rn_c, pm_rk_i, pm_rk_z, pm_rk_a, pm_vk_i, pm_vk_z, pm_vk_a, pm_cti, pm_ctr, pm_ldi_z, pm_ldi_s, pm_lda_z, pm_lda_s, pm_cat_n, pm_cat_i, pm_cat_r, pm_cat_l, pm_obj, pm_arr, pm_opt, pm_ird, pm_aln, List.getElem?_cons_zero, List.getElem?_cons_succ, List.set_cons_zero, List.set_cons_succ, List.length_cons, List.length_nil, List.length_set, true_and, and_true, Nat.add_zero, Nat.zero_add, Nat.le_refl, Nat.reduceAdd, Nat.reduceLT, Nat.reduceLeDiff, Nat.zero_le, not_false_eq_true, not_true_eq_false, false_implies, implies_true, true_implies, Nat.zero_lt_succ, Nat.lt_add_one, pm_tl_n, pm_tl_s, sc_uL, e1, n1, H0]
        refine PM_use (c_M_pastAt H2 hk2 (d + 1)) ?_
        rintro v g l ⟨rfl, rfl⟩
        rw [← hy]
        show W_X12_mostAsked _ _ _ _ _ _ _ _ _
        simp only [w_X12_mostAsked_23, pm_1i_c, pm_2i_c, pm_1l_c, pm_2l_c, pm_1a_c, pm_ia_c, pm_iia_c, pm_va_c, pm_cp_c, pm_k0_c, pm_k1_c, pm_k2_c, pm_k3_c, pm_s1_c, pm_s2_c, pm_s3_c, pm_s4_c, pm_ri_c, pm_ra_c, pm_rn_c, pm_rk_i, pm_rk_z, pm_rk_a, pm_vk_i, pm_vk_z, pm_vk_a, pm_cti, pm_ctr, pm_ldi_z, pm_ldi_s, pm_lda_z, pm_lda_s, pm_cat_n, pm_cat_i, pm_cat_r, pm_cat_l, pm_obj, pm_arr, pm_opt, pm_ird, pm_aln, List.getElem?_cons_zero, List.getElem?_cons_succ, List.set_cons_zero, List.set_cons_succ, List.length_cons, List.length_nil, List.length_set, true_and, and_true, Nat.add_zero, Nat.zero_add, Nat.le_refl, Nat.reduceAdd, Nat.reduceLT, Nat.reduceLeDiff, Nat.zero_le, not_false_eq_true, not_true_eq_false, false_implies, implies_true, true_implies, Nat.zero_lt_succ, Nat.lt_add_one, pm_tl_n, pm_tl_s, sc_uL, H0]
        refine PM_use (c_M_timesOf H2 y d) ?_
        rintro v g l ⟨rfl, rfl⟩
        show W_X12_mostAsked _ _ _ _ _ _ _ _ _
        simp only [w_X12_mostAsked_26, w_X12_mostAsked_27, w_X12_mostAsked_28, pm_1i_c, pm_2i_c, pm_1l_c, pm_2l_c, pm_1a_c, pm_ia_c, pm_iia_c, pm_va_c, pm_cp_c, pm_k0_c, pm_k1_c, pm_k2_c, pm_k3_c, pm_s1_c, pm_s2_c, pm_s3_c, pm_s4_c, pm_ri_c, pm_ra_c, pm_rn_c, pm_rk_i, pm_rk_z, pm_rk_a, pm_vk_i, pm_vk_z, pm_vk_a, pm_cti, pm_ctr, pm_ldi_z, pm_ldi_s, pm_lda_z, pm_lda_s, pm_cat_n, pm_cat_i, pm_cat_r, pm_cat_l, pm_obj, pm_arr, pm_opt, pm_ird, pm_aln, List.getElem?_cons_zero, List.getElem?_cons_succ, List.set_cons_zero, List.set_cons_succ, List.length_cons, List.length_nil, List.length_set, true_and, and_true, Nat.add_zero, Nat.zero_add, Nat.le_refl, Nat.reduceAdd, Nat.reduceLT, Nat.reduceLeDiff, Nat.zero_le, not_false_eq_true, not_true_eq_false, false_implies, implies_true, true_implies, Nat.zero_lt_succ, Nat.lt_add_one, pm_tl_n, pm_tl_s, sc_uL, H0]
        refine PM_use (c_M_timesOf H2 b d) ?_
        rintro v g l ⟨rfl, rfl⟩
        by_cases c1 : (li A 5).count b < (li A 5).count y
        · rw [if_pos (Or.inl c1)] at cs
          show W_X12_mostAsked _ _ _ _ _ _ _ _ _
          simp only [w_X12_mostAsked_31, pm_1i_c, pm_2i_c, pm_1l_c, pm_2l_c, pm_1a_c, pm_ia_c, pm_iia_c, pm_va_c, pm_cp_c, pm_k0_c, pm_k1_c, pm_k2_c, pm_k3_c, pm_s1_c, pm_s2_c, pm_s3_c, pm_s4_c, pm_ri_c, pm_ra_c, pm_rn_c, pm_rk_i, pm_rk_z, pm_rk_a, pm_vk_i, pm_vk_z, pm_vk_a, pm_cti, pm_ctr, pm_ldi_z, pm_ldi_s, pm_lda_z, pm_lda_s, pm_cat_n, pm_cat_i, pm_cat_r, pm_cat_l, pm_obj, pm_arr, pm_opt, pm_ird, pm_aln, List.getElem?_cons_zero, List.getElem?_cons_succ, List.set_cons_zero, List.set_cons_succ, List.length_cons, List.length_nil, List.length_set, true_and, and_true, Nat.add_zero, Nat.zero_add, Nat.le_refl, Nat.reduceAdd, Nat.reduceLT, Nat.reduceLeDiff, Nat.zero_le, not_false_eq_true, not_true_eq_false, false_implies, implies_true, true_implies, Nat.zero_lt_succ, Nat.lt_add_one, pm_tl_n, pm_tl_s, sc_uL, show nI ((li A 5).count b) < nI ((li A 5).count y) from nI_lt c1 (by omega)]
          exact take (by rw [cs])
        · show W_X12_mostAsked _ _ _ _ _ _ _ _ _
          simp only [w_X12_mostAsked_31, w_X12_mostAsked_34, w_X12_mostAsked_35, w_X12_mostAsked_36, w_X12_mostAsked_37, pm_1i_c, pm_2i_c, pm_1l_c, pm_2l_c, pm_1a_c, pm_ia_c, pm_iia_c, pm_va_c, pm_cp_c, pm_k0_c, pm_k1_c, pm_k2_c, pm_k3_c, pm_s1_c, pm_s2_c, pm_s3_c, pm_s4_c, pm_ri_c, pm_ra_c, pm_rn_c, pm_rk_i, pm_rk_z, pm_rk_a, pm_vk_i, pm_vk_z, pm_vk_a, pm_cti, pm_ctr, pm_ldi_z, pm_ldi_s, pm_lda_z, pm_lda_s, pm_cat_n, pm_cat_i, pm_cat_r, pm_cat_l, pm_obj, pm_arr, pm_opt, pm_ird, pm_aln, List.getElem?_cons_zero, List.getElem?_cons_succ, List.set_cons_zero, List.set_cons_succ, List.length_cons, List.length_nil, List.length_set, true_and, and_true, Nat.add_zero, Nat.zero_add, Nat.le_refl, Nat.reduceAdd, Nat.reduceLT, Nat.reduceLeDiff, Nat.zero_le, not_false_eq_true, not_true_eq_false, false_implies, implies_true, true_implies, Nat.zero_lt_succ, Nat.lt_add_one, pm_tl_n, pm_tl_s, sc_uL, show ¬ nI ((li A 5).count b) < nI ((li A 5).count y) from nI_nlt (by omega) (by omega), H0]
          refine PM_use (c_M_pastAt H2 hk2 (d + 1)) ?_
          rintro v g l ⟨rfl, rfl⟩
          rw [← hy]
          show W_X12_mostAsked _ _ _ _ _ _ _ _ _
          simp only [w_X12_mostAsked_40, pm_1i_c, pm_2i_c, pm_1l_c, pm_2l_c, pm_1a_c, pm_ia_c, pm_iia_c, pm_va_c, pm_cp_c, pm_k0_c, pm_k1_c, pm_k2_c, pm_k3_c, pm_s1_c, pm_s2_c, pm_s3_c, pm_s4_c, pm_ri_c, pm_ra_c, pm_rn_c, pm_rk_i, pm_rk_z, pm_rk_a, pm_vk_i, pm_vk_z, pm_vk_a, pm_cti, pm_ctr, pm_ldi_z, pm_ldi_s, pm_lda_z, pm_lda_s, pm_cat_n, pm_cat_i, pm_cat_r, pm_cat_l, pm_obj, pm_arr, pm_opt, pm_ird, pm_aln, List.getElem?_cons_zero, List.getElem?_cons_succ, List.set_cons_zero, List.set_cons_succ, List.length_cons, List.length_nil, List.length_set, true_and, and_true, Nat.add_zero, Nat.zero_add, Nat.le_refl, Nat.reduceAdd, Nat.reduceLT, Nat.reduceLeDiff, Nat.zero_le, not_false_eq_true, not_true_eq_false, false_implies, implies_true, true_implies, Nat.zero_lt_succ, Nat.lt_add_one, pm_tl_n, pm_tl_s, sc_uL, H0]
          refine PM_use (c_M_timesOf H2 y d) ?_
          rintro v g l ⟨rfl, rfl⟩
          show W_X12_mostAsked _ _ _ _ _ _ _ _ _
          simp only [w_X12_mostAsked_43, w_X12_mostAsked_44, w_X12_mostAsked_45, pm_1i_c, pm_2i_c, pm_1l_c, pm_2l_c, pm_1a_c, pm_ia_c, pm_iia_c, pm_va_c, pm_cp_c, pm_k0_c, pm_k1_c, pm_k2_c, pm_k3_c, pm_s1_c, pm_s2_c, pm_s3_c, pm_s4_c, pm_ri_c, pm_ra_c, pm_rn_c, pm_rk_i, pm_rk_z, pm_rk_a, pm_vk_i, pm_vk_z, pm_vk_a, pm_cti, pm_ctr, pm_ldi_z, pm_ldi_s, pm_lda_z, pm_lda_s, pm_cat_n, pm_cat_i, pm_cat_r, pm_cat_l, pm_obj, pm_arr, pm_opt, pm_ird, pm_aln, List.getElem?_cons_zero, List.getElem?_cons_succ, List.set_cons_zero, List.set_cons_succ, List.length_cons, List.length_nil, List.length_set, true_and, and_true, Nat.add_zero, Nat.zero_add, Nat.le_refl, Nat.reduceAdd, Nat.reduceLT, Nat.reduceLeDiff, Nat.zero_le, not_false_eq_true, not_true_eq_false, false_implies, implies_true, true_implies, Nat.zero_lt_succ, Nat.lt_add_one, pm_tl_n, pm_tl_s, sc_uL, H0]
          refine PM_use (c_M_timesOf H2 b d) ?_
          rintro v g l ⟨rfl, rfl⟩
          by_cases c2 : (li A 5).count y = (li A 5).count b
          · show W_X12_mostAsked _ _ _ _ _ _ _ _ _
            simp only [w_X12_mostAsked_48, w_X12_mostAsked_51, w_X12_mostAsked_52, w_X12_mostAsked_53, pm_1i_c, pm_2i_c, pm_1l_c, pm_2l_c, pm_1a_c, pm_ia_c, pm_iia_c, pm_va_c, pm_cp_c, pm_k0_c, pm_k1_c, pm_k2_c, pm_k3_c, pm_s1_c, pm_s2_c, pm_s3_c, pm_s4_c, pm_ri_c, pm_ra_c, pm_rn_c, pm_rk_i, pm_rk_z, pm_rk_a, pm_vk_i, pm_vk_z, pm_vk_a, pm_cti, pm_ctr, pm_ldi_z, pm_ldi_s, pm_lda_z, pm_lda_s, pm_cat_n, pm_cat_i, pm_cat_r, pm_cat_l, pm_obj, pm_arr, pm_opt, pm_ird, pm_aln, List.getElem?_cons_zero, List.getElem?_cons_succ, List.set_cons_zero, List.set_cons_succ, List.length_cons, List.length_nil, List.length_set, true_and, and_true, Nat.add_zero, Nat.zero_add, Nat.le_refl, Nat.reduceAdd, Nat.reduceLT, Nat.reduceLeDiff, Nat.zero_le, not_false_eq_true, not_true_eq_false, false_implies, implies_true, true_implies, Nat.zero_lt_succ, Nat.lt_add_one, pm_tl_n, pm_tl_s, sc_uL, show nI ((li A 5).count y) = nI ((li A 5).count b) by rw [c2], H0]
            refine PM_use (c_M_pastAt H2 hk2 (d + 1)) ?_
            rintro v g l ⟨rfl, rfl⟩
            rw [← hy]
            by_cases c3 : y < b
            · rw [if_pos (Or.inr ⟨c2, c3⟩)] at cs
              show W_X12_mostAsked _ _ _ _ _ _ _ _ _
              simp only [w_X12_mostAsked_56, w_X12_mostAsked_57, pm_1i_c, pm_2i_c, pm_1l_c, pm_2l_c, pm_1a_c, pm_ia_c, pm_iia_c, pm_va_c, pm_cp_c, pm_k0_c, pm_k1_c, pm_k2_c, pm_k3_c, pm_s1_c, pm_s2_c, pm_s3_c, pm_s4_c, pm_ri_c, pm_ra_c, pm_rn_c, pm_rk_i, pm_rk_z, pm_rk_a, pm_vk_i, pm_vk_z, pm_vk_a, pm_cti, pm_ctr, pm_ldi_z, pm_ldi_s, pm_lda_z, pm_lda_s, pm_cat_n, pm_cat_i, pm_cat_r, pm_cat_l, pm_obj, pm_arr, pm_opt, pm_ird, pm_aln, List.getElem?_cons_zero, List.getElem?_cons_succ, List.set_cons_zero, List.set_cons_succ, List.length_cons, List.length_nil, List.length_set, true_and, and_true, Nat.add_zero, Nat.zero_add, Nat.le_refl, Nat.reduceAdd, Nat.reduceLT, Nat.reduceLeDiff, Nat.zero_le, not_false_eq_true, not_true_eq_false, false_implies, implies_true, true_implies, Nat.zero_lt_succ, Nat.lt_add_one, pm_tl_n, pm_tl_s, sc_uL, c3]
              exact take (by rw [cs])
            · rw [if_neg (fun w => w.elim c1 (fun w => c3 w.2))] at cs
              show W_X12_mostAsked _ _ _ _ _ _ _ _ _
              simp only [w_X12_mostAsked_56, w_X12_mostAsked_57, pm_1i_c, pm_2i_c, pm_1l_c, pm_2l_c, pm_1a_c, pm_ia_c, pm_iia_c, pm_va_c, pm_cp_c, pm_k0_c, pm_k1_c, pm_k2_c, pm_k3_c, pm_s1_c, pm_s2_c, pm_s3_c, pm_s4_c, pm_ri_c, pm_ra_c, pm_rn_c, pm_rk_i, pm_rk_z, pm_rk_a, pm_vk_i, pm_vk_z, pm_vk_a, pm_cti, pm_ctr, pm_ldi_z, pm_ldi_s, pm_lda_z, pm_lda_s, pm_cat_n, pm_cat_i, pm_cat_r, pm_cat_l, pm_obj, pm_arr, pm_opt, pm_ird, pm_aln, List.getElem?_cons_zero, List.getElem?_cons_succ, List.set_cons_zero, List.set_cons_succ, List.length_cons, List.length_nil, List.length_set, true_and, and_true, Nat.add_zero, Nat.zero_add, Nat.le_refl, Nat.reduceAdd, Nat.reduceLT, Nat.reduceLeDiff, Nat.zero_le, not_false_eq_true, not_true_eq_false, false_implies, implies_true, true_implies, Nat.zero_lt_succ, Nat.lt_add_one, pm_tl_n, pm_tl_s, sc_uL, c3]
              exact keep cs
          · rw [if_neg (fun w => w.elim c1 (fun w => c2 w.1))] at cs
            show W_X12_mostAsked _ _ _ _ _ _ _ _ _
            simp only [w_X12_mostAsked_48, pm_1i_c, pm_2i_c, pm_1l_c, pm_2l_c, pm_1a_c, pm_ia_c, pm_iia_c, pm_va_c, pm_cp_c, pm_k0_c, pm_k1_c, pm_k2_c, pm_k3_c, pm_s1_c, pm_s2_c, pm_s3_c, pm_s4_c, pm_ri_c, pm_ra_c, pm_rn_c, pm_rk_i, pm_rk_z, pm_rk_a, pm_vk_i, pm_vk_z, pm_vk_a, pm_cti, pm_ctr, pm_ldi_z, pm_ldi_s, pm_lda_z, pm_lda_s, pm_cat_n, pm_cat_i, pm_cat_r, pm_cat_l, pm_obj, pm_arr, pm_opt, pm_ird, pm_aln, List.getElem?_cons_zero, List.getElem?_cons_succ, List.set_cons_zero, List.set_cons_succ, List.length_cons, List.length_nil, List.length_set, true_and, and_true, Nat.add_zero, Nat.zero_add, Nat.le_refl, Nat.reduceAdd, Nat.reduceLT, Nat.reduceLeDiff, Nat.zero_le, not_false_eq_true, not_true_eq_false, false_implies, implies_true, true_implies, Nat.zero_lt_succ, Nat.lt_add_one, pm_tl_n, pm_tl_s, sc_uL, show ¬ nI ((li A 5).count y) = nI ((li A 5).count b) from fun w => c2 ((nI_inj (by omega) (by omega)).mp w)]
            exact keep cs
  simp only [w_X12_mostAsked_0, w_X12_mostAsked_1, w_X12_mostAsked_2, w_X12_mostAsked_3, pm_1i_c, pm_2i_c, pm_1l_c, pm_2l_c, pm_1a_c, pm_ia_c, pm_iia_c, pm_va_c, pm_cp_c, pm_k0_c, pm_k1_c, pm_k2_c, pm_k3_c, pm_s1_c, pm_s2_c, pm_s3_c, pm_s4_c, pm_ri_c, pm_ra_c, pm_rn_c, pm_rk_i, pm_rk_z, pm_rk_a, pm_vk_i, pm_vk_z, pm_vk_a, pm_cti, pm_ctr, pm_ldi_z, pm_ldi_s, pm_lda_z, pm_lda_s, pm_cat_n, pm_cat_i, pm_cat_r, pm_cat_l, pm_obj, pm_arr, pm_opt, pm_ird, pm_aln, List.getElem?_cons_zero, List.getElem?_cons_succ, List.set_cons_zero, List.set_cons_succ, List.length_cons, List.length_nil, List.length_set, true_and, and_true, Nat.add_zero, Nat.zero_add, Nat.le_refl, Nat.reduceAdd, Nat.reduceLT, Nat.reduceLeDiff, Nat.zero_le, not_false_eq_true, not_true_eq_false, false_implies, implies_true, true_implies, Nat.zero_lt_succ, Nat.lt_add_one]
  exact loop _ 0 rfl (Nat.zero_le _)
theorem inB_4 (x : Int32) : inB x 0 4 = paB x := by
  unfold inB paB
  by_cases c0 : x = 0
  · subst c0
    rfl
  by_cases c1 : x = 1
  · subst c1
    rfl
  by_cases c2 : x = 2
  · subst c2
    rfl
  by_cases c3 : x = 3
  · subst c3
    rfl
  by_cases c4 : x = 4
  · subst c4
    rfl
  rw [decide_eq_false c0, decide_eq_false c1, decide_eq_false c2, decide_eq_false c3, decide_eq_false c4]
  refine decide_eq_false fun z => ?_
  obtain ⟨j, hj, rfl⟩ := nI_of z.1
  have : ¬ 4 < j := fun y => z.2 (nI_lt (a := 4) y hj)
  have : j = 0 ∨ j = 1 ∨ j = 2 ∨ j = 3 ∨ j = 4 := by omega
  rcases this with rfl | rfl | rfl | rfl | rfl
  · exact c0 rfl
  · exact c1 rfl
  · exact c2 rfl
  · exact c3 rfl
  · exact c4 rfl
set_option maxHeartbeats 1000000 in
theorem c_P_past (C : mm_ h m o A K bs ws) (hx : ∀ x ∈ li A 5, ∃ n, n < 100000 ∧ x = nI n) (q : Int32) (d : Nat) : PM (d + 4) 246 [.ref m, .int q] h (rq_ h m A K bs ws (o 0) (o 7) (paB q) (paF A q)) := by
  have H0 := C.ob
  unfold mO at H0
  obtain ⟨h1, e1, l1, F1, C1, H1⟩ := C.th 0
  obtain ⟨f, Hf, Rf⟩ := C1.n
  have a1 := Rf.h.1
  have fin : ∀ y, rq_ h m A K bs ws (o 0) (o 7) true y (some (.int y)) h1 := fun y => rq_T (C1.q F1)
  refine en_X12_past rfl rfl ?_
  simp only [w_X12_past_0, w_X12_past_1, w_X12_past_2, w_X12_past_5, w_X12_past_6, w_X12_past_7, w_X12_past_8, w_X12_past_9, pm_1i_c, pm_2i_c, pm_1l_c, pm_2l_c, pm_1a_c, pm_ia_c, pm_iia_c, pm_va_c, pm_cp_c, pm_k0_c, pm_k1_c, pm_k2_c, pm_k3_c, pm_s1_c, pm_s2_c, pm_s3_c, pm_s4_c, pm_ri_c, pm_ra_c, pm_rn_c, pm_rk_i, pm_rk_z, pm_rk_a, pm_vk_i, pm_vk_z, pm_vk_a, pm_cti, pm_ctr, pm_ldi_z, pm_ldi_s, pm_lda_z, pm_lda_s, pm_cat_n, pm_cat_i, pm_cat_r, pm_cat_l, pm_obj, pm_arr, pm_opt, pm_ird, pm_aln, List.getElem?_cons_zero, List.getElem?_cons_succ, List.set_cons_zero, List.set_cons_succ, List.length_cons, List.length_nil, List.length_set, true_and, and_true, Nat.add_zero, Nat.zero_add, Nat.le_refl, Nat.reduceAdd, Nat.reduceLT, Nat.reduceLeDiff, Nat.zero_le, not_false_eq_true, not_true_eq_false, false_implies, implies_true, true_implies, Nat.zero_lt_succ, Nat.lt_add_one, H0, e1, H1, l1]
  refine PM_use (c_M_in q 0 4 (d + 2)) ?_
  rintro v g1 k1 ⟨rfl, rfl⟩
  rw [inB_4]
  cases hq : paB q with
  | false =>
    show W_X12_past _ _ _ _ _ _ _ _ _
    simp only [w_X12_past_12, w_X12_past_15, w_X12_past_16, w_X12_past_19, w_X12_past_20, w_X12_past_21, pm_1i_c, pm_2i_c, pm_1l_c, pm_2l_c, pm_1a_c, pm_ia_c, pm_iia_c, pm_va_c, pm_cp_c, pm_k0_c, pm_k1_c, pm_k2_c, pm_k3_c, pm_s1_c, pm_s2_c, pm_s3_c, pm_s4_c, pm_ri_c, pm_ra_c, pm_rn_c, pm_rk_i, pm_rk_z, pm_rk_a, pm_vk_i, pm_vk_z, pm_vk_a, pm_cti, pm_ctr, pm_ldi_z, pm_ldi_s, pm_lda_z, pm_lda_s, pm_cat_n, pm_cat_i, pm_cat_r, pm_cat_l, pm_obj, pm_arr, pm_opt, pm_ird, pm_aln, List.getElem?_cons_zero, List.getElem?_cons_succ, List.set_cons_zero, List.set_cons_succ, List.length_cons, List.length_nil, List.length_set, true_and, and_true, Nat.add_zero, Nat.zero_add, Nat.le_refl, Nat.reduceAdd, Nat.reduceLT, Nat.reduceLeDiff, Nat.zero_le, not_false_eq_true, not_true_eq_false, false_implies, implies_true, true_implies, Nat.zero_lt_succ, Nat.lt_add_one, pm_tl_n, pm_tl_s, sc_uL, Bool.false_eq_true, if_false, H1, l1]
    refine PM_use (c_P_throwsIf1 C1 1 (d + 2)) ?_
    rintro v g2 k2 ⟨rfl, K1, K2⟩
    show W_X12_past _ _ _ _ _ _ _ _ _
    simp only [w_X12_past_24, w_X12_past_27, w_X12_past_28, pm_1i_c, pm_2i_c, pm_1l_c, pm_2l_c, pm_1a_c, pm_ia_c, pm_iia_c, pm_va_c, pm_cp_c, pm_k0_c, pm_k1_c, pm_k2_c, pm_k3_c, pm_s1_c, pm_s2_c, pm_s3_c, pm_s4_c, pm_ri_c, pm_ra_c, pm_rn_c, pm_rk_i, pm_rk_z, pm_rk_a, pm_vk_i, pm_vk_z, pm_vk_a, pm_cti, pm_ctr, pm_ldi_z, pm_ldi_s, pm_lda_z, pm_lda_s, pm_cat_n, pm_cat_i, pm_cat_r, pm_cat_l, pm_obj, pm_arr, pm_opt, pm_ird, pm_aln, List.getElem?_cons_zero, List.getElem?_cons_succ, List.set_cons_zero, List.set_cons_succ, List.length_cons, List.length_nil, List.length_set, true_and, and_true, Nat.add_zero, Nat.zero_add, Nat.le_refl, Nat.reduceAdd, Nat.reduceLT, Nat.reduceLeDiff, Nat.zero_le, not_false_eq_true, not_true_eq_false, false_implies, implies_true, true_implies, Nat.zero_lt_succ, Nat.lt_add_one, pm_tl_n, pm_tl_s, sc_uL, one0, l1, k2]
    rw [upd_upd] at K1
    exact rq_F (K1.q (F1.tr K2))
  | true =>
    show W_X12_past _ _ _ _ _ _ _ _ _
    simp only [w_X12_past_12, w_X12_past_19, w_X12_past_20, w_X12_past_21, pm_1i_c, pm_2i_c, pm_1l_c, pm_2l_c, pm_1a_c, pm_ia_c, pm_iia_c, pm_va_c, pm_cp_c, pm_k0_c, pm_k1_c, pm_k2_c, pm_k3_c, pm_s1_c, pm_s2_c, pm_s3_c, pm_s4_c, pm_ri_c, pm_ra_c, pm_rn_c, pm_rk_i, pm_rk_z, pm_rk_a, pm_vk_i, pm_vk_z, pm_vk_a, pm_cti, pm_ctr, pm_ldi_z, pm_ldi_s, pm_lda_z, pm_lda_s, pm_cat_n, pm_cat_i, pm_cat_r, pm_cat_l, pm_obj, pm_arr, pm_opt, pm_ird, pm_aln, List.getElem?_cons_zero, List.getElem?_cons_succ, List.set_cons_zero, List.set_cons_succ, List.length_cons, List.length_nil, List.length_set, true_and, and_true, Nat.add_zero, Nat.zero_add, Nat.le_refl, Nat.reduceAdd, Nat.reduceLT, Nat.reduceLeDiff, Nat.zero_le, not_false_eq_true, not_true_eq_false, false_implies, implies_true, true_implies, Nat.zero_lt_succ, Nat.lt_add_one, pm_tl_n, pm_tl_s, sc_uL, if_true, one0, H1, l1]
    refine PM_use (c_P_throwsIf0 C1 1 (d + 2)) ?_
    rintro v g1 k1 ⟨rfl, rfl⟩
    rw [← inB_4] at hq
    obtain ⟨j, j0, j1, rfl⟩ := inB_nI (a := 0) (b := 4) (by omega) (by omega) (v := q) hq
    have : j = 0 ∨ j = 1 ∨ j = 2 ∨ j = 3 ∨ j = 4 := by omega
    rcases this with rfl | rfl | rfl | rfl | rfl
    · show W_X12_past _ _ _ _ _ _ _ _ _
      simp only [w_X12_past_24, w_X12_past_29, w_X12_past_30, w_X12_past_31, w_X12_past_38, w_X12_past_39, w_X12_past_40, w_X12_past_41, w_X12_past_72, w_X12_past_73, pm_1i_c, pm_2i_c, pm_1l_c, pm_2l_c, pm_1a_c, pm_ia_c, pm_iia_c, pm_va_c, pm_cp_c, pm_k0_c, pm_k1_c, pm_k2_c, pm_k3_c, pm_s1_c, pm_s2_c, pm_s3_c, pm_s4_c, pm_ri_c, pm_ra_c, pm_rn_c, pm_rk_i, pm_rk_z, pm_rk_a, pm_vk_i, pm_vk_z, pm_vk_a, pm_cti, pm_ctr, pm_ldi_z, pm_ldi_s, pm_lda_z, pm_lda_s, pm_cat_n, pm_cat_i, pm_cat_r, pm_cat_l, pm_obj, pm_arr, pm_opt, pm_ird, pm_aln, List.getElem?_cons_zero, List.getElem?_cons_succ, List.set_cons_zero, List.set_cons_succ, List.length_cons, List.length_nil, List.length_set, true_and, and_true, Nat.add_zero, Nat.zero_add, Nat.le_refl, Nat.reduceAdd, Nat.reduceLT, Nat.reduceLeDiff, Nat.zero_le, not_false_eq_true, not_true_eq_false, false_implies, implies_true, true_implies, Nat.zero_lt_succ, Nat.lt_add_one, pm_tl_n, pm_tl_s, sc_uL, show nI 0 = 0 from rfl, show ¬ (0 : Int32) = 4 by decide, show ¬ (0 : Int32) = 1 by decide, show ¬ (0 : Int32) = 2 by decide, show ¬ (0 : Int32) = 3 by decide, pm_sw_c, pm_sw_n, Int32.reduceAdd, H1, l1]
      refine PM_use (c_M_unlike C1.md d) ?_
      rintro v g2 k2 ⟨rfl, rfl⟩
      show W_X12_past _ _ _ _ _ _ _ _ _
      simp only [w_X12_past_76, pm_1i_c, pm_2i_c, pm_1l_c, pm_2l_c, pm_1a_c, pm_ia_c, pm_iia_c, pm_va_c, pm_cp_c, pm_k0_c, pm_k1_c, pm_k2_c, pm_k3_c, pm_s1_c, pm_s2_c, pm_s3_c, pm_s4_c, pm_ri_c, pm_ra_c, pm_rn_c, pm_rk_i, pm_rk_z, pm_rk_a, pm_vk_i, pm_vk_z, pm_vk_a, pm_cti, pm_ctr, pm_ldi_z, pm_ldi_s, pm_lda_z, pm_lda_s, pm_cat_n, pm_cat_i, pm_cat_r, pm_cat_l, pm_obj, pm_arr, pm_opt, pm_ird, pm_aln, List.getElem?_cons_zero, List.getElem?_cons_succ, List.set_cons_zero, List.set_cons_succ, List.length_cons, List.length_nil, List.length_set, true_and, and_true, Nat.add_zero, Nat.zero_add, Nat.le_refl, Nat.reduceAdd, Nat.reduceLT, Nat.reduceLeDiff, Nat.zero_le, not_false_eq_true, not_true_eq_false, false_implies, implies_true, true_implies, Nat.zero_lt_succ, Nat.lt_add_one, pm_tl_n, pm_tl_s, sc_uL, l1]
      exact fin _
    · show W_X12_past _ _ _ _ _ _ _ _ _
      simp only [w_X12_past_24, w_X12_past_29, w_X12_past_30, w_X12_past_31, w_X12_past_38, w_X12_past_39, w_X12_past_40, w_X12_past_41, w_X12_past_77, w_X12_past_78, pm_1i_c, pm_2i_c, pm_1l_c, pm_2l_c, pm_1a_c, pm_ia_c, pm_iia_c, pm_va_c, pm_cp_c, pm_k0_c, pm_k1_c, pm_k2_c, pm_k3_c, pm_s1_c, pm_s2_c, pm_s3_c, pm_s4_c, pm_ri_c, pm_ra_c, pm_rn_c, pm_rk_i, pm_rk_z, pm_rk_a, pm_vk_i, pm_vk_z, pm_vk_a, pm_cti, pm_ctr, pm_ldi_z, pm_ldi_s, pm_lda_z, pm_lda_s, pm_cat_n, pm_cat_i, pm_cat_r, pm_cat_l, pm_obj, pm_arr, pm_opt, pm_ird, pm_aln, List.getElem?_cons_zero, List.getElem?_cons_succ, List.set_cons_zero, List.set_cons_succ, List.length_cons, List.length_nil, List.length_set, true_and, and_true, Nat.add_zero, Nat.zero_add, Nat.le_refl, Nat.reduceAdd, Nat.reduceLT, Nat.reduceLeDiff, Nat.zero_le, not_false_eq_true, not_true_eq_false, false_implies, implies_true, true_implies, Nat.zero_lt_succ, Nat.lt_add_one, pm_tl_n, pm_tl_s, sc_uL, show nI 1 = 1 from rfl, show ¬ (1 : Int32) = 4 by decide, show ¬ (1 : Int32) = 0 by decide, show ¬ (1 : Int32) = 2 by decide, show ¬ (1 : Int32) = 3 by decide, pm_sw_c, pm_sw_n, Int32.reduceAdd, H1, l1]
      refine PM_use (c_M_mostAsked C1.md hx d) ?_
      rintro v g2 k2 ⟨rfl, rfl⟩
      show W_X12_past _ _ _ _ _ _ _ _ _
      simp only [w_X12_past_81, pm_1i_c, pm_2i_c, pm_1l_c, pm_2l_c, pm_1a_c, pm_ia_c, pm_iia_c, pm_va_c, pm_cp_c, pm_k0_c, pm_k1_c, pm_k2_c, pm_k3_c, pm_s1_c, pm_s2_c, pm_s3_c, pm_s4_c, pm_ri_c, pm_ra_c, pm_rn_c, pm_rk_i, pm_rk_z, pm_rk_a, pm_vk_i, pm_vk_z, pm_vk_a, pm_cti, pm_ctr, pm_ldi_z, pm_ldi_s, pm_lda_z, pm_lda_s, pm_cat_n, pm_cat_i, pm_cat_r, pm_cat_l, pm_obj, pm_arr, pm_opt, pm_ird, pm_aln, List.getElem?_cons_zero, List.getElem?_cons_succ, List.set_cons_zero, List.set_cons_succ, List.length_cons, List.length_nil, List.length_set, true_and, and_true, Nat.add_zero, Nat.zero_add, Nat.le_refl, Nat.reduceAdd, Nat.reduceLT, Nat.reduceLeDiff, Nat.zero_le, not_false_eq_true, not_true_eq_false, false_implies, implies_true, true_implies, Nat.zero_lt_succ, Nat.lt_add_one, pm_tl_n, pm_tl_s, sc_uL, l1]
      exact fin _
    · have e2 : paF A (nI 2) = nI ((li A 5).count (cmS (li A 5) (li A 5).length).1) := rfl
      rw [e2]
      show W_X12_past _ _ _ _ _ _ _ _ _
      simp only [w_X12_past_24, w_X12_past_29, w_X12_past_30, w_X12_past_31, w_X12_past_38, w_X12_past_39, w_X12_past_40, w_X12_past_41, w_X12_past_82, w_X12_past_83, pm_1i_c, pm_2i_c, pm_1l_c, pm_2l_c, pm_1a_c, pm_ia_c, pm_iia_c, pm_va_c, pm_cp_c, pm_k0_c, pm_k1_c, pm_k2_c, pm_k3_c, pm_s1_c, pm_s2_c, pm_s3_c, pm_s4_c, pm_ri_c, pm_ra_c, pm_rn_c, pm_rk_i, pm_rk_z, pm_rk_a, pm_vk_i, pm_vk_z, pm_vk_a, pm_cti, pm_ctr, pm_ldi_z, pm_ldi_s, pm_lda_z, pm_lda_s, pm_cat_n, pm_cat_i, pm_cat_r, pm_cat_l, pm_obj, pm_arr, pm_opt, pm_ird, pm_aln, List.getElem?_cons_zero, List.getElem?_cons_succ, List.set_cons_zero, List.set_cons_succ, List.length_cons, List.length_nil, List.length_set, true_and, and_true, Nat.add_zero, Nat.zero_add, Nat.le_refl, Nat.reduceAdd, Nat.reduceLT, Nat.reduceLeDiff, Nat.zero_le, not_false_eq_true, not_true_eq_false, false_implies, implies_true, true_implies, Nat.zero_lt_succ, Nat.lt_add_one, pm_tl_n, pm_tl_s, sc_uL, show nI 2 = 2 from rfl, show ¬ (2 : Int32) = 4 by decide, show ¬ (2 : Int32) = 0 by decide, show ¬ (2 : Int32) = 1 by decide, show ¬ (2 : Int32) = 3 by decide, pm_sw_c, pm_sw_n, Int32.reduceAdd, H1, l1]
      refine PM_use (c_M_pastMany C1.md (d + 2)) ?_
      rintro v g2 k2 ⟨rfl, rfl⟩
      by_cases c0 : (li A 5).length = 0
      · have c0' : nI (li A 5).length = 0 := by rw [c0]; rfl
        have l0 : li A 5 = [] := List.length_eq_zero_iff.mp c0
        have e3 : (li A 5).count (cmS (li A 5) (li A 5).length).1 = 0 := by
          rw [l0]
          rfl
        rw [e3]
        show W_X12_past _ _ _ _ _ _ _ _ _
        simp only [w_X12_past_86, w_X12_past_89, w_X12_past_90, w_X12_past_101, pm_1i_c, pm_2i_c, pm_1l_c, pm_2l_c, pm_1a_c, pm_ia_c, pm_iia_c, pm_va_c, pm_cp_c, pm_k0_c, pm_k1_c, pm_k2_c, pm_k3_c, pm_s1_c, pm_s2_c, pm_s3_c, pm_s4_c, pm_ri_c, pm_ra_c, pm_rn_c, pm_rk_i, pm_rk_z, pm_rk_a, pm_vk_i, pm_vk_z, pm_vk_a, pm_cti, pm_ctr, pm_ldi_z, pm_ldi_s, pm_lda_z, pm_lda_s, pm_cat_n, pm_cat_i, pm_cat_r, pm_cat_l, pm_obj, pm_arr, pm_opt, pm_ird, pm_aln, List.getElem?_cons_zero, List.getElem?_cons_succ, List.set_cons_zero, List.set_cons_succ, List.length_cons, List.length_nil, List.length_set, true_and, and_true, Nat.add_zero, Nat.zero_add, Nat.le_refl, Nat.reduceAdd, Nat.reduceLT, Nat.reduceLeDiff, Nat.zero_le, not_false_eq_true, not_true_eq_false, false_implies, implies_true, true_implies, Nat.zero_lt_succ, Nat.lt_add_one, pm_tl_n, pm_tl_s, sc_uL, c0', l1]
        exact fin _
      · have c0' : ¬ nI (li A 5).length = 0 := nI_ne0 (by omega) (by omega)
        show W_X12_past _ _ _ _ _ _ _ _ _
        simp only [w_X12_past_86, w_X12_past_93, w_X12_past_94, w_X12_past_95, pm_1i_c, pm_2i_c, pm_1l_c, pm_2l_c, pm_1a_c, pm_ia_c, pm_iia_c, pm_va_c, pm_cp_c, pm_k0_c, pm_k1_c, pm_k2_c, pm_k3_c, pm_s1_c, pm_s2_c, pm_s3_c, pm_s4_c, pm_ri_c, pm_ra_c, pm_rn_c, pm_rk_i, pm_rk_z, pm_rk_a, pm_vk_i, pm_vk_z, pm_vk_a, pm_cti, pm_ctr, pm_ldi_z, pm_ldi_s, pm_lda_z, pm_lda_s, pm_cat_n, pm_cat_i, pm_cat_r, pm_cat_l, pm_obj, pm_arr, pm_opt, pm_ird, pm_aln, List.getElem?_cons_zero, List.getElem?_cons_succ, List.set_cons_zero, List.set_cons_succ, List.length_cons, List.length_nil, List.length_set, true_and, and_true, Nat.add_zero, Nat.zero_add, Nat.le_refl, Nat.reduceAdd, Nat.reduceLT, Nat.reduceLeDiff, Nat.zero_le, not_false_eq_true, not_true_eq_false, false_implies, implies_true, true_implies, Nat.zero_lt_succ, Nat.lt_add_one, pm_tl_n, pm_tl_s, sc_uL, c0', H1, l1]
        refine PM_use (c_M_mostAsked C1.md hx d) ?_
        rintro v g2 k2 ⟨rfl, rfl⟩
        show W_X12_past _ _ _ _ _ _ _ _ _
        simp only [w_X12_past_98, pm_1i_c, pm_2i_c, pm_1l_c, pm_2l_c, pm_1a_c, pm_ia_c, pm_iia_c, pm_va_c, pm_cp_c, pm_k0_c, pm_k1_c, pm_k2_c, pm_k3_c, pm_s1_c, pm_s2_c, pm_s3_c, pm_s4_c, pm_ri_c, pm_ra_c, pm_rn_c, pm_rk_i, pm_rk_z, pm_rk_a, pm_vk_i, pm_vk_z, pm_vk_a, pm_cti, pm_ctr, pm_ldi_z, pm_ldi_s, pm_lda_z, pm_lda_s, pm_cat_n, pm_cat_i, pm_cat_r, pm_cat_l, pm_obj, pm_arr, pm_opt, pm_ird, pm_aln, List.getElem?_cons_zero, List.getElem?_cons_succ, List.set_cons_zero, List.set_cons_succ, List.length_cons, List.length_nil, List.length_set, true_and, and_true, Nat.add_zero, Nat.zero_add, Nat.le_refl, Nat.reduceAdd, Nat.reduceLT, Nat.reduceLeDiff, Nat.zero_le, not_false_eq_true, not_true_eq_false, false_implies, implies_true, true_implies, Nat.zero_lt_succ, Nat.lt_add_one, pm_tl_n, pm_tl_s, sc_uL, H1, l1]
        refine PM_use (c_M_timesOf C1.md _ (d + 1)) ?_
        rintro v g2 k2 ⟨rfl, rfl⟩
        show W_X12_past _ _ _ _ _ _ _ _ _
        simp only [w_X12_past_101, pm_1i_c, pm_2i_c, pm_1l_c, pm_2l_c, pm_1a_c, pm_ia_c, pm_iia_c, pm_va_c, pm_cp_c, pm_k0_c, pm_k1_c, pm_k2_c, pm_k3_c, pm_s1_c, pm_s2_c, pm_s3_c, pm_s4_c, pm_ri_c, pm_ra_c, pm_rn_c, pm_rk_i, pm_rk_z, pm_rk_a, pm_vk_i, pm_vk_z, pm_vk_a, pm_cti, pm_ctr, pm_ldi_z, pm_ldi_s, pm_lda_z, pm_lda_s, pm_cat_n, pm_cat_i, pm_cat_r, pm_cat_l, pm_obj, pm_arr, pm_opt, pm_ird, pm_aln, List.getElem?_cons_zero, List.getElem?_cons_succ, List.set_cons_zero, List.set_cons_succ, List.length_cons, List.length_nil, List.length_set, true_and, and_true, Nat.add_zero, Nat.zero_add, Nat.le_refl, Nat.reduceAdd, Nat.reduceLT, Nat.reduceLeDiff, Nat.zero_le, not_false_eq_true, not_true_eq_false, false_implies, implies_true, true_implies, Nat.zero_lt_succ, Nat.lt_add_one, pm_tl_n, pm_tl_s, sc_uL, l1]
        exact fin _
    · have e2 : paF A (nI 3) = nI (lgS (li A 5) (li A 5).length).1 := rfl
      rw [e2]
      obtain ⟨L1, L2, L3, ⟨pi, pj, p1, p2, p3, p4⟩, L5⟩ := lgS_un (li A 5) (li A 5).length
      have loop : ∀ z k M, (li A 5).length - k = z → k ≤ (li A 5).length → M ≤ (lgS (li A 5) (li A 5).length).1 → (∀ i j, i < k → i ≤ j → j ≤ (li A 5).length → unl (li A 5) i j → j - i ≤ M) → W_X12_past (d + 3) h.length 0 (rq_ h m A K bs ws (o 0) (o 7) true (nI (lgS (li A 5) (li A 5).length).1)) 104 [some (.ref m), some (.int 3), some (.int (nI M)), some (.int (nI k))] [] g1 0 := by
        intro z
        induction z with
        | zero =>
          intro k M hz hk hM hA
          have : k = (li A 5).length := by omega
          subst this
          have eM : M = (lgS (li A 5) (li A 5).length).1 := by
            by_cases c : pi < (li A 5).length
            · have := hA pi pj c p1 p2 p3
              omega
            · omega
          rw [w_X12_past_104]
          simp only [w_X12_past_105, w_X12_past_106, pm_1i_c, pm_2i_c, pm_1l_c, pm_2l_c, pm_1a_c, pm_ia_c, pm_iia_c, pm_va_c, pm_cp_c, pm_k0_c, pm_k1_c, pm_k2_c, pm_k3_c, pm_s1_c, pm_s2_c, pm_s3_c, pm_s4_c, pm_ri_c, pm_ra_c, pm_rn_c, pm_rk_i, pm_rk_z, pm_rk_a, pm_vk_i, pm_vk_z, pm_vk_a, pm_cti, pm_ctr, pm_ldi_z, pm_ldi_s, pm_lda_z, pm_lda_s, pm_cat_n, pm_cat_i, pm_cat_r, pm_cat_l, pm_obj, pm_arr, pm_opt, pm_ird, pm_aln, List.getElem?_cons_zero, List.getElem?_cons_succ, List.set_cons_zero, List.set_cons_succ, List.length_cons, List.length_nil, List.length_set, true_and, and_true, Nat.add_zero, Nat.zero_add, Nat.le_refl, Nat.reduceAdd, Nat.reduceLT, Nat.reduceLeDiff, Nat.zero_le, not_false_eq_true, not_true_eq_false, false_implies, implies_true, true_implies, Nat.zero_lt_succ, Nat.lt_add_one, H1, l1]
          refine PM_use (c_M_pastMany C1.md (d + 2)) ?_
          rintro v g2 k2 ⟨rfl, rfl⟩
          show W_X12_past _ _ _ _ _ _ _ _ _
          simp only [w_X12_past_109, w_X12_past_128, w_X12_past_129, pm_1i_c, pm_2i_c, pm_1l_c, pm_2l_c, pm_1a_c, pm_ia_c, pm_iia_c, pm_va_c, pm_cp_c, pm_k0_c, pm_k1_c, pm_k2_c, pm_k3_c, pm_s1_c, pm_s2_c, pm_s3_c, pm_s4_c, pm_ri_c, pm_ra_c, pm_rn_c, pm_rk_i, pm_rk_z, pm_rk_a, pm_vk_i, pm_vk_z, pm_vk_a, pm_cti, pm_ctr, pm_ldi_z, pm_ldi_s, pm_lda_z, pm_lda_s, pm_cat_n, pm_cat_i, pm_cat_r, pm_cat_l, pm_obj, pm_arr, pm_opt, pm_ird, pm_aln, List.getElem?_cons_zero, List.getElem?_cons_succ, List.set_cons_zero, List.set_cons_succ, List.length_cons, List.length_nil, List.length_set, true_and, and_true, Nat.add_zero, Nat.zero_add, Nat.le_refl, Nat.reduceAdd, Nat.reduceLT, Nat.reduceLeDiff, Nat.zero_le, not_false_eq_true, not_true_eq_false, false_implies, implies_true, true_implies, Nat.zero_lt_succ, Nat.lt_add_one, pm_tl_n, pm_tl_s, sc_uL, show ¬ nI (li A 5).length < nI (li A 5).length from nI_nlt (by omega) (by omega), l1]
          rw [eM]
          exact fin _
        | succ z ih =>
          intro k M hz hk hM hA
          have hk2 : k < (li A 5).length := by omega
          rw [w_X12_past_104]
          simp only [w_X12_past_105, w_X12_past_106, pm_1i_c, pm_2i_c, pm_1l_c, pm_2l_c, pm_1a_c, pm_ia_c, pm_iia_c, pm_va_c, pm_cp_c, pm_k0_c, pm_k1_c, pm_k2_c, pm_k3_c, pm_s1_c, pm_s2_c, pm_s3_c, pm_s4_c, pm_ri_c, pm_ra_c, pm_rn_c, pm_rk_i, pm_rk_z, pm_rk_a, pm_vk_i, pm_vk_z, pm_vk_a, pm_cti, pm_ctr, pm_ldi_z, pm_ldi_s, pm_lda_z, pm_lda_s, pm_cat_n, pm_cat_i, pm_cat_r, pm_cat_l, pm_obj, pm_arr, pm_opt, pm_ird, pm_aln, List.getElem?_cons_zero, List.getElem?_cons_succ, List.set_cons_zero, List.set_cons_succ, List.length_cons, List.length_nil, List.length_set, true_and, and_true, Nat.add_zero, Nat.zero_add, Nat.le_refl, Nat.reduceAdd, Nat.reduceLT, Nat.reduceLeDiff, Nat.zero_le, not_false_eq_true, not_true_eq_false, false_implies, implies_true, true_implies, Nat.zero_lt_succ, Nat.lt_add_one, H1, l1]
          refine PM_use (c_M_pastMany C1.md (d + 2)) ?_
          rintro v g2 k2 ⟨rfl, rfl⟩
          show W_X12_past _ _ _ _ _ _ _ _ _
          simp only [w_X12_past_109, w_X12_past_112, w_X12_past_113, w_X12_past_114, w_X12_past_115, pm_1i_c, pm_2i_c, pm_1l_c, pm_2l_c, pm_1a_c, pm_ia_c, pm_iia_c, pm_va_c, pm_cp_c, pm_k0_c, pm_k1_c, pm_k2_c, pm_k3_c, pm_s1_c, pm_s2_c, pm_s3_c, pm_s4_c, pm_ri_c, pm_ra_c, pm_rn_c, pm_rk_i, pm_rk_z, pm_rk_a, pm_vk_i, pm_vk_z, pm_vk_a, pm_cti, pm_ctr, pm_ldi_z, pm_ldi_s, pm_lda_z, pm_lda_s, pm_cat_n, pm_cat_i, pm_cat_r, pm_cat_l, pm_obj, pm_arr, pm_opt, pm_ird, pm_aln, List.getElem?_cons_zero, List.getElem?_cons_succ, List.set_cons_zero, List.set_cons_succ, List.length_cons, List.length_nil, List.length_set, true_and, and_true, Nat.add_zero, Nat.zero_add, Nat.le_refl, Nat.reduceAdd, Nat.reduceLT, Nat.reduceLeDiff, Nat.zero_le, not_false_eq_true, not_true_eq_false, false_implies, implies_true, true_implies, Nat.zero_lt_succ, Nat.lt_add_one, pm_tl_n, pm_tl_s, sc_uL, show nI k < nI (li A 5).length from nI_lt hk2 (by omega), H1, l1]
          refine PM_use (c_M_unlikeFrom C1.md (Nat.le_of_lt hk2) (d + 1)) ?_
          rintro v g2 k2 ⟨⟨u, rfl, u1, u2, u3⟩, rfl⟩
          have uL := L5 k (k + u) (by omega) u1 u2
          have nm : (if nI M < nI u then nI u else nI M) = nI (max M u) := nI_max (by omega) (by omega)
          show W_X12_past _ _ _ _ _ _ _ _ _
          simp only [w_X12_past_118, w_X12_past_121, w_X12_past_122, w_X12_past_125, pm_1i_c, pm_2i_c, pm_1l_c, pm_2l_c, pm_1a_c, pm_ia_c, pm_iia_c, pm_va_c, pm_cp_c, pm_k0_c, pm_k1_c, pm_k2_c, pm_k3_c, pm_s1_c, pm_s2_c, pm_s3_c, pm_s4_c, pm_ri_c, pm_ra_c, pm_rn_c, pm_rk_i, pm_rk_z, pm_rk_a, pm_vk_i, pm_vk_z, pm_vk_a, pm_cti, pm_ctr, pm_ldi_z, pm_ldi_s, pm_lda_z, pm_lda_s, pm_cat_n, pm_cat_i, pm_cat_r, pm_cat_l, pm_obj, pm_arr, pm_opt, pm_ird, pm_aln, List.getElem?_cons_zero, List.getElem?_cons_succ, List.set_cons_zero, List.set_cons_succ, List.length_cons, List.length_nil, List.length_set, true_and, and_true, Nat.add_zero, Nat.zero_add, Nat.le_refl, Nat.reduceAdd, Nat.reduceLT, Nat.reduceLeDiff, Nat.zero_le, not_false_eq_true, not_true_eq_false, false_implies, implies_true, true_implies, Nat.zero_lt_succ, Nat.lt_add_one, pm_tl_n, pm_tl_s, sc_uL, nm, nI_1]
          refine ih (k + 1) (max M u) (by omega) (by omega) (by omega) (fun i j h1 h2 h3 h4 => ?_)
          by_cases c : i = k
          · subst c
            have := u3 j h2 h3 h4
            omega
          · have := hA i j (by omega) h2 h3 h4
            omega
      have L := loop _ 0 0 rfl (Nat.zero_le _) (Nat.zero_le _) (fun i j h1 _ _ _ => by omega)
      show W_X12_past _ _ _ _ _ _ _ _ _
      simp only [w_X12_past_24, w_X12_past_29, w_X12_past_30, w_X12_past_31, w_X12_past_38, w_X12_past_39, w_X12_past_40, w_X12_past_41, w_X12_past_102, w_X12_past_103, pm_1i_c, pm_2i_c, pm_1l_c, pm_2l_c, pm_1a_c, pm_ia_c, pm_iia_c, pm_va_c, pm_cp_c, pm_k0_c, pm_k1_c, pm_k2_c, pm_k3_c, pm_s1_c, pm_s2_c, pm_s3_c, pm_s4_c, pm_ri_c, pm_ra_c, pm_rn_c, pm_rk_i, pm_rk_z, pm_rk_a, pm_vk_i, pm_vk_z, pm_vk_a, pm_cti, pm_ctr, pm_ldi_z, pm_ldi_s, pm_lda_z, pm_lda_s, pm_cat_n, pm_cat_i, pm_cat_r, pm_cat_l, pm_obj, pm_arr, pm_opt, pm_ird, pm_aln, List.getElem?_cons_zero, List.getElem?_cons_succ, List.set_cons_zero, List.set_cons_succ, List.length_cons, List.length_nil, List.length_set, true_and, and_true, Nat.add_zero, Nat.zero_add, Nat.le_refl, Nat.reduceAdd, Nat.reduceLT, Nat.reduceLeDiff, Nat.zero_le, not_false_eq_true, not_true_eq_false, false_implies, implies_true, true_implies, Nat.zero_lt_succ, Nat.lt_add_one, pm_tl_n, pm_tl_s, sc_uL, show nI 3 = 3 from rfl, show ¬ (3 : Int32) = 4 by decide, show ¬ (3 : Int32) = 0 by decide, show ¬ (3 : Int32) = 1 by decide, show ¬ (3 : Int32) = 2 by decide, pm_sw_c, pm_sw_n, Int32.reduceAdd, H1, l1]
      exact L
    · have e2 : paF A (nI 4) = wgS (li A 5) (li A 5).length := rfl
      rw [e2]
      obtain ⟨w1, w2⟩ := wgS_nb (li A 5) a1 (li A 5).length (Nat.le_refl _)
      have loop : ∀ z k (M : Int32), (li A 5).length - k = z → k ≤ (li A 5).length → (M.toInt = -1 ∨ ∃ a b, nbr (li A 5) a b ∧ b < (li A 5).length ∧ M.toInt = (b - a - 1 : Nat)) → (∀ a b, nbr (li A 5) a b → a < k → b < (li A 5).length → ((b - a - 1 : Nat) : Int) ≤ M.toInt) → W_X12_past (d + 3) h.length 0 (rq_ h m A K bs ws (o 0) (o 7) true (wgS (li A 5) (li A 5).length)) 132 [some (.ref m), some (.int 4), some (.int M), some (.int (nI k))] [] g1 0 := by
        intro z
        induction z with
        | zero =>
          intro k M hz hk hM hA
          have : k = (li A 5).length := by omega
          subst this
          have eM : M = wgS (li A 5) (li A 5).length := by
            refine Int32.toInt_inj.mp ?_
            have lo1 : -1 ≤ M.toInt := by
              rcases hM with y | ⟨a, b, q1, q2, q3⟩ <;> omega
            have lo2 : -1 ≤ (wgS (li A 5) (li A 5).length).toInt := by
              rcases w1 with y | ⟨a, b, q1, q2, q3⟩ <;> omega
            have r1 : M.toInt ≤ (wgS (li A 5) (li A 5).length).toInt := by
              rcases hM with y | ⟨a, b, q1, q2, q3⟩
              · omega
              · have := w2 a b q1 q2
                omega
            have r2 : (wgS (li A 5) (li A 5).length).toInt ≤ M.toInt := by
              rcases w1 with y | ⟨a, b, q1, q2, q3⟩
              · omega
              · have := hA a b q1 (by have := q1.1; omega) q2
                omega
            omega
          rw [w_X12_past_132]
          simp only [w_X12_past_133, w_X12_past_134, pm_1i_c, pm_2i_c, pm_1l_c, pm_2l_c, pm_1a_c, pm_ia_c, pm_iia_c, pm_va_c, pm_cp_c, pm_k0_c, pm_k1_c, pm_k2_c, pm_k3_c, pm_s1_c, pm_s2_c, pm_s3_c, pm_s4_c, pm_ri_c, pm_ra_c, pm_rn_c, pm_rk_i, pm_rk_z, pm_rk_a, pm_vk_i, pm_vk_z, pm_vk_a, pm_cti, pm_ctr, pm_ldi_z, pm_ldi_s, pm_lda_z, pm_lda_s, pm_cat_n, pm_cat_i, pm_cat_r, pm_cat_l, pm_obj, pm_arr, pm_opt, pm_ird, pm_aln, List.getElem?_cons_zero, List.getElem?_cons_succ, List.set_cons_zero, List.set_cons_succ, List.length_cons, List.length_nil, List.length_set, true_and, and_true, Nat.add_zero, Nat.zero_add, Nat.le_refl, Nat.reduceAdd, Nat.reduceLT, Nat.reduceLeDiff, Nat.zero_le, not_false_eq_true, not_true_eq_false, false_implies, implies_true, true_implies, Nat.zero_lt_succ, Nat.lt_add_one, H1, l1]
          refine PM_use (c_M_pastMany C1.md (d + 2)) ?_
          rintro v g2 k2 ⟨rfl, rfl⟩
          show W_X12_past _ _ _ _ _ _ _ _ _
          simp only [w_X12_past_137, w_X12_past_184, w_X12_past_185, pm_1i_c, pm_2i_c, pm_1l_c, pm_2l_c, pm_1a_c, pm_ia_c, pm_iia_c, pm_va_c, pm_cp_c, pm_k0_c, pm_k1_c, pm_k2_c, pm_k3_c, pm_s1_c, pm_s2_c, pm_s3_c, pm_s4_c, pm_ri_c, pm_ra_c, pm_rn_c, pm_rk_i, pm_rk_z, pm_rk_a, pm_vk_i, pm_vk_z, pm_vk_a, pm_cti, pm_ctr, pm_ldi_z, pm_ldi_s, pm_lda_z, pm_lda_s, pm_cat_n, pm_cat_i, pm_cat_r, pm_cat_l, pm_obj, pm_arr, pm_opt, pm_ird, pm_aln, List.getElem?_cons_zero, List.getElem?_cons_succ, List.set_cons_zero, List.set_cons_succ, List.length_cons, List.length_nil, List.length_set, true_and, and_true, Nat.add_zero, Nat.zero_add, Nat.le_refl, Nat.reduceAdd, Nat.reduceLT, Nat.reduceLeDiff, Nat.zero_le, not_false_eq_true, not_true_eq_false, false_implies, implies_true, true_implies, Nat.zero_lt_succ, Nat.lt_add_one, pm_tl_n, pm_tl_s, sc_uL, show ¬ nI (li A 5).length < nI (li A 5).length from nI_nlt (by omega) (by omega), l1]
          rw [eM]
          exact fin _
        | succ z ih =>
          intro k M hz hk hM hA
          have hk2 : k < (li A 5).length := by omega
          have nl := ndN_le (li A 5) ((li A 5).getD k (-1)) a1 _ (k + 1) rfl
          rw [w_X12_past_132]
          simp only [w_X12_past_133, w_X12_past_134, pm_1i_c, pm_2i_c, pm_1l_c, pm_2l_c, pm_1a_c, pm_ia_c, pm_iia_c, pm_va_c, pm_cp_c, pm_k0_c, pm_k1_c, pm_k2_c, pm_k3_c, pm_s1_c, pm_s2_c, pm_s3_c, pm_s4_c, pm_ri_c, pm_ra_c, pm_rn_c, pm_rk_i, pm_rk_z, pm_rk_a, pm_vk_i, pm_vk_z, pm_vk_a, pm_cti, pm_ctr, pm_ldi_z, pm_ldi_s, pm_lda_z, pm_lda_s, pm_cat_n, pm_cat_i, pm_cat_r, pm_cat_l, pm_obj, pm_arr, pm_opt, pm_ird, pm_aln, List.getElem?_cons_zero, List.getElem?_cons_succ, List.set_cons_zero, List.set_cons_succ, List.length_cons, List.length_nil, List.length_set, true_and, and_true, Nat.add_zero, Nat.zero_add, Nat.le_refl, Nat.reduceAdd, Nat.reduceLT, Nat.reduceLeDiff, Nat.zero_le, not_false_eq_true, not_true_eq_false, false_implies, implies_true, true_implies, Nat.zero_lt_succ, Nat.lt_add_one, H1, l1]
          refine PM_use (c_M_pastMany C1.md (d + 2)) ?_
          rintro v g2 k2 ⟨rfl, rfl⟩
          show W_X12_past _ _ _ _ _ _ _ _ _
          simp only [w_X12_past_137, w_X12_past_140, w_X12_past_141, w_X12_past_142, w_X12_past_143, pm_1i_c, pm_2i_c, pm_1l_c, pm_2l_c, pm_1a_c, pm_ia_c, pm_iia_c, pm_va_c, pm_cp_c, pm_k0_c, pm_k1_c, pm_k2_c, pm_k3_c, pm_s1_c, pm_s2_c, pm_s3_c, pm_s4_c, pm_ri_c, pm_ra_c, pm_rn_c, pm_rk_i, pm_rk_z, pm_rk_a, pm_vk_i, pm_vk_z, pm_vk_a, pm_cti, pm_ctr, pm_ldi_z, pm_ldi_s, pm_lda_z, pm_lda_s, pm_cat_n, pm_cat_i, pm_cat_r, pm_cat_l, pm_obj, pm_arr, pm_opt, pm_ird, pm_aln, List.getElem?_cons_zero, List.getElem?_cons_succ, List.set_cons_zero, List.set_cons_succ, List.length_cons, List.length_nil, List.length_set, true_and, and_true, Nat.add_zero, Nat.zero_add, Nat.le_refl, Nat.reduceAdd, Nat.reduceLT, Nat.reduceLeDiff, Nat.zero_le, not_false_eq_true, not_true_eq_false, false_implies, implies_true, true_implies, Nat.zero_lt_succ, Nat.lt_add_one, pm_tl_n, pm_tl_s, sc_uL, show nI k < nI (li A 5).length from nI_lt hk2 (by omega), H1, l1]
          refine PM_use (c_M_pastAt C1.md hk2 (d + 2)) ?_
          rintro v g2 k2 ⟨rfl, rfl⟩
          show W_X12_past _ _ _ _ _ _ _ _ _
          simp only [w_X12_past_146, w_X12_past_147, pm_1i_c, pm_2i_c, pm_1l_c, pm_2l_c, pm_1a_c, pm_ia_c, pm_iia_c, pm_va_c, pm_cp_c, pm_k0_c, pm_k1_c, pm_k2_c, pm_k3_c, pm_s1_c, pm_s2_c, pm_s3_c, pm_s4_c, pm_ri_c, pm_ra_c, pm_rn_c, pm_rk_i, pm_rk_z, pm_rk_a, pm_vk_i, pm_vk_z, pm_vk_a, pm_cti, pm_ctr, pm_ldi_z, pm_ldi_s, pm_lda_z, pm_lda_s, pm_cat_n, pm_cat_i, pm_cat_r, pm_cat_l, pm_obj, pm_arr, pm_opt, pm_ird, pm_aln, List.getElem?_cons_zero, List.getElem?_cons_succ, List.set_cons_zero, List.set_cons_succ, List.length_cons, List.length_nil, List.length_set, true_and, and_true, Nat.add_zero, Nat.zero_add, Nat.le_refl, Nat.reduceAdd, Nat.reduceLT, Nat.reduceLeDiff, Nat.zero_le, not_false_eq_true, not_true_eq_false, false_implies, implies_true, true_implies, Nat.zero_lt_succ, Nat.lt_add_one, pm_tl_n, pm_tl_s, sc_uL, H1, l1]
          refine PM_use (c_M_nextAsk C1.md _ hk2 (d + 1)) ?_
          rintro v g2 k2 ⟨rfl, rfl⟩
          rcases ndN_1 (li A 5) a1 ((li A 5).getD k (-1)) _ (k + 1) rfl (by omega) with ⟨q1, q2⟩ | ⟨q1, q2, q3, q4⟩
          · have c1' : nI (ndN (li A 5) ((li A 5).getD k (-1)) (k + 1)) = 100 := by rw [q1]; rfl
            show W_X12_past _ _ _ _ _ _ _ _ _
            simp only [w_X12_past_150, w_X12_past_152, w_X12_past_155, w_X12_past_156, w_X12_past_177, w_X12_past_178, w_X12_past_181, pm_1i_c, pm_2i_c, pm_1l_c, pm_2l_c, pm_1a_c, pm_ia_c, pm_iia_c, pm_va_c, pm_cp_c, pm_k0_c, pm_k1_c, pm_k2_c, pm_k3_c, pm_s1_c, pm_s2_c, pm_s3_c, pm_s4_c, pm_ri_c, pm_ra_c, pm_rn_c, pm_rk_i, pm_rk_z, pm_rk_a, pm_vk_i, pm_vk_z, pm_vk_a, pm_cti, pm_ctr, pm_ldi_z, pm_ldi_s, pm_lda_z, pm_lda_s, pm_cat_n, pm_cat_i, pm_cat_r, pm_cat_l, pm_obj, pm_arr, pm_opt, pm_ird, pm_aln, List.getElem?_cons_zero, List.getElem?_cons_succ, List.set_cons_zero, List.set_cons_succ, List.length_cons, List.length_nil, List.length_set, true_and, and_true, Nat.add_zero, Nat.zero_add, Nat.le_refl, Nat.reduceAdd, Nat.reduceLT, Nat.reduceLeDiff, Nat.zero_le, not_false_eq_true, not_true_eq_false, false_implies, implies_true, true_implies, Nat.zero_lt_succ, Nat.lt_add_one, pm_tl_n, pm_tl_s, sc_uL, c1', nI_1]
            refine ih (k + 1) M (by clear hM w1; omega) (by clear hM w1; omega) hM (fun a b hn ha hb => ?_)
            by_cases c : a = k
            · rw [c] at hn
              exact absurd hn.2.1.symm (q2 b (by have := hn.1; omega) hb)
            · exact hA a b hn (by omega) hb
          · obtain ⟨n, hn⟩ : ∃ n, n = ndN (li A 5) ((li A 5).getD k (-1)) (k + 1) := ⟨_, rfl⟩
            rw [← hn] at q1 q2 q3 q4
            have nb : nbr (li A 5) k n := ⟨by omega, q3.symm, fun c h1 h2 => by rw [q3]; exact q4 c (by omega) h2⟩
            have c1' : ¬ nI n = 100 := fun w => by
              have := (nI_inj (a := n) (b := 100) (by omega) (by omega)).mp w
              omega
            have e3 : nI n - nI k - 1 = nI (n - k - 1) := by rw [pk_sub (by omega), nI_one, pk_sub (by omega)]
            rw [← hn]
            show W_X12_past _ _ _ _ _ _ _ _ _
            simp only [w_X12_past_150, w_X12_past_152, w_X12_past_159, w_X12_past_160, w_X12_past_161, w_X12_past_162, w_X12_past_163, pm_1i_c, pm_2i_c, pm_1l_c, pm_2l_c, pm_1a_c, pm_ia_c, pm_iia_c, pm_va_c, pm_cp_c, pm_k0_c, pm_k1_c, pm_k2_c, pm_k3_c, pm_s1_c, pm_s2_c, pm_s3_c, pm_s4_c, pm_ri_c, pm_ra_c, pm_rn_c, pm_rk_i, pm_rk_z, pm_rk_a, pm_vk_i, pm_vk_z, pm_vk_a, pm_cti, pm_ctr, pm_ldi_z, pm_ldi_s, pm_lda_z, pm_lda_s, pm_cat_n, pm_cat_i, pm_cat_r, pm_cat_l, pm_obj, pm_arr, pm_opt, pm_ird, pm_aln, List.getElem?_cons_zero, List.getElem?_cons_succ, List.set_cons_zero, List.set_cons_succ, List.length_cons, List.length_nil, List.length_set, true_and, and_true, Nat.add_zero, Nat.zero_add, Nat.le_refl, Nat.reduceAdd, Nat.reduceLT, Nat.reduceLeDiff, Nat.zero_le, not_false_eq_true, not_true_eq_false, false_implies, implies_true, true_implies, Nat.zero_lt_succ, Nat.lt_add_one, pm_tl_n, pm_tl_s, sc_uL, c1', H1, l1]
            refine PM_use (c_M_pastAt C1.md hk2 (d + 2)) ?_
            rintro v g3 k3 ⟨rfl, rfl⟩
            show W_X12_past _ _ _ _ _ _ _ _ _
            simp only [w_X12_past_166, w_X12_past_167, pm_1i_c, pm_2i_c, pm_1l_c, pm_2l_c, pm_1a_c, pm_ia_c, pm_iia_c, pm_va_c, pm_cp_c, pm_k0_c, pm_k1_c, pm_k2_c, pm_k3_c, pm_s1_c, pm_s2_c, pm_s3_c, pm_s4_c, pm_ri_c, pm_ra_c, pm_rn_c, pm_rk_i, pm_rk_z, pm_rk_a, pm_vk_i, pm_vk_z, pm_vk_a, pm_cti, pm_ctr, pm_ldi_z, pm_ldi_s, pm_lda_z, pm_lda_s, pm_cat_n, pm_cat_i, pm_cat_r, pm_cat_l, pm_obj, pm_arr, pm_opt, pm_ird, pm_aln, List.getElem?_cons_zero, List.getElem?_cons_succ, List.set_cons_zero, List.set_cons_succ, List.length_cons, List.length_nil, List.length_set, true_and, and_true, Nat.add_zero, Nat.zero_add, Nat.le_refl, Nat.reduceAdd, Nat.reduceLT, Nat.reduceLeDiff, Nat.zero_le, not_false_eq_true, not_true_eq_false, false_implies, implies_true, true_implies, Nat.zero_lt_succ, Nat.lt_add_one, pm_tl_n, pm_tl_s, sc_uL, H1, l1]
            refine PM_use (c_M_nextAsk C1.md _ hk2 (d + 1)) ?_
            rintro v g3 k3 ⟨rfl, rfl⟩
            rw [← hn]
            show W_X12_past _ _ _ _ _ _ _ _ _
            simp only [w_X12_past_170, w_X12_past_171, w_X12_past_172, w_X12_past_173, w_X12_past_174, w_X12_past_177, w_X12_past_178, w_X12_past_181, pm_1i_c, pm_2i_c, pm_1l_c, pm_2l_c, pm_1a_c, pm_ia_c, pm_iia_c, pm_va_c, pm_cp_c, pm_k0_c, pm_k1_c, pm_k2_c, pm_k3_c, pm_s1_c, pm_s2_c, pm_s3_c, pm_s4_c, pm_ri_c, pm_ra_c, pm_rn_c, pm_rk_i, pm_rk_z, pm_rk_a, pm_vk_i, pm_vk_z, pm_vk_a, pm_cti, pm_ctr, pm_ldi_z, pm_ldi_s, pm_lda_z, pm_lda_s, pm_cat_n, pm_cat_i, pm_cat_r, pm_cat_l, pm_obj, pm_arr, pm_opt, pm_ird, pm_aln, List.getElem?_cons_zero, List.getElem?_cons_succ, List.set_cons_zero, List.set_cons_succ, List.length_cons, List.length_nil, List.length_set, true_and, and_true, Nat.add_zero, Nat.zero_add, Nat.le_refl, Nat.reduceAdd, Nat.reduceLT, Nat.reduceLeDiff, Nat.zero_le, not_false_eq_true, not_true_eq_false, false_implies, implies_true, true_implies, Nat.zero_lt_succ, Nat.lt_add_one, pm_tl_n, pm_tl_s, sc_uL, e3, nI_1]
            have tI : (nI (n - k - 1)).toInt = ((n - k - 1 : Nat) : Int) := nI_toInt (by omega)
            refine ih (k + 1) _ (by clear hM w1; omega) (by clear hM w1; omega) ?_ (fun a b hn' ha hb => ?_)
            · rw [max_int, tI]
              by_cases c : M.toInt ≤ ((n - k - 1 : Nat) : Int)
              · exact Or.inr ⟨k, n, nb, q2, by omega⟩
              · rcases hM with y | ⟨a, b, y1, y2, y3⟩
                · omega
                · exact Or.inr ⟨a, b, y1, y2, by omega⟩
            · rw [max_int, tI]
              by_cases c : a = k
              · rw [c] at hn' ⊢
                have : b = n := by
                  rcases Nat.lt_trichotomy b n with y | y | y
                  · exact absurd hn'.2.1.symm (q4 b (by have := hn'.1; omega) y)
                  · exact y
                  · exact absurd (q3.trans hn'.2.1) (hn'.2.2 n (by omega) y)
                omega
              · have := hA a b hn' (by omega) hb
                omega
      have L := loop _ 0 (-1) rfl (Nat.zero_le _) (Or.inl rfl) (fun a b _ ha _ => by omega)
      show W_X12_past _ _ _ _ _ _ _ _ _
      simp only [w_X12_past_24, w_X12_past_29, w_X12_past_30, w_X12_past_31, w_X12_past_34, w_X12_past_35, w_X12_past_39, w_X12_past_40, w_X12_past_41, w_X12_past_130, w_X12_past_131, pm_1i_c, pm_2i_c, pm_1l_c, pm_2l_c, pm_1a_c, pm_ia_c, pm_iia_c, pm_va_c, pm_cp_c, pm_k0_c, pm_k1_c, pm_k2_c, pm_k3_c, pm_s1_c, pm_s2_c, pm_s3_c, pm_s4_c, pm_ri_c, pm_ra_c, pm_rn_c, pm_rk_i, pm_rk_z, pm_rk_a, pm_vk_i, pm_vk_z, pm_vk_a, pm_cti, pm_ctr, pm_ldi_z, pm_ldi_s, pm_lda_z, pm_lda_s, pm_cat_n, pm_cat_i, pm_cat_r, pm_cat_l, pm_obj, pm_arr, pm_opt, pm_ird, pm_aln, List.getElem?_cons_zero, List.getElem?_cons_succ, List.set_cons_zero, List.set_cons_succ, List.length_cons, List.length_nil, List.length_set, true_and, and_true, Nat.add_zero, Nat.zero_add, Nat.le_refl, Nat.reduceAdd, Nat.reduceLT, Nat.reduceLeDiff, Nat.zero_le, not_false_eq_true, not_true_eq_false, false_implies, implies_true, true_implies, Nat.zero_lt_succ, Nat.lt_add_one, pm_tl_n, pm_tl_s, sc_uL, show nI 4 = 4 from rfl, show ¬ (4 : Int32) = 0 by decide, show ¬ (4 : Int32) = 1 by decide, show ¬ (4 : Int32) = 2 by decide, show ¬ (4 : Int32) = 3 by decide, pm_sw_c, pm_sw_n, Int32.reduceAdd, H1, l1]
      exact L
end MZ
