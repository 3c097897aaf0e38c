/-! AdmissionDeskModel: needed, twin, feed. -/
section MU
variable {h h' : pmH} {m : Nat} {o : Nat → Int32} {A A' K K' B : AD} {bs ws bs' ws' : List Int32} {ik ft : Int32}
theorem addF_c (V : skV A) (C : cV A) (D : ∃ n s, n < s ∧ 10 ≤ s ∧ s ≤ 20000 ∧ sc A 0 = nI n ∧ sc A 11 = nI s) (key : Int32) : cV (addF A key) := (skV_ad V C D key).2.1
set_option maxHeartbeats 1000000 in
theorem c_P_needed (C : mm_ h m o A K bs ws) (I : mI A) (k q : Int32) (d : Nat) : PM (d + 7) 239 [.ref m, .int k, .int q] h (rq_ h m A K bs ws (o 0) (o 7) (kyB k && kyB q) (neS k q 21 0 A)) := by
  have H0 := C.ob
  unfold mO at H0
  obtain ⟨h1, e1, l1, F1, C1, H1⟩ := C.th 0
  refine en_X12_needed rfl rfl rfl ?_
  simp only [w_X12_needed_0, w_X12_needed_1, w_X12_needed_2, w_X12_needed_5, w_X12_needed_6, w_X12_needed_7, pm_1i_c, pm_2i_c, pm_1l_c, pm_2l_c, pm_1a_c, pm_ia_c, pm_iia_c, pm_va_c, pm_cp_c, pm_k0_c, pm_k1_c, pm_k2_c, pm_k3_c, pm_s1_c, pm_s2_c, pm_s3_c, pm_s4_c, pm_ri_c, pm_ra_c, pm_rn_c, pm_rk_i, pm_rk_z, pm_rk_a, pm_vk_i, pm_vk_z, pm_vk_a, pm_cti, pm_ctr, pm_ldi_z, pm_ldi_s, pm_lda_z, pm_lda_s, pm_cat_n, pm_cat_i, pm_cat_r, pm_cat_l, pm_obj, pm_arr, pm_opt, pm_ird, pm_aln, List.getElem?_cons_zero, List.getElem?_cons_succ, List.set_cons_zero, List.set_cons_succ, List.length_cons, List.length_nil, List.length_set, true_and, and_true, Nat.add_zero, Nat.zero_add, Nat.le_refl, Nat.reduceAdd, Nat.reduceLT, Nat.reduceLeDiff, Nat.zero_le, not_false_eq_true, not_true_eq_false, false_implies, implies_true, true_implies, Nat.zero_lt_succ, Nat.lt_add_one, H0, e1, H1, l1]
  cases hp : kyB k with
  | false =>
    rw [Bool.false_and]
    refine PM_use (c_P_noKey1 C1 hp (d + 4)) ?_
    rintro v g1 k1 ⟨rfl, K1, K2⟩
    show W_X12_needed _ _ _ _ _ _ _ _ _
    simp only [w_X12_needed_10, w_X12_needed_21, w_X12_needed_22, pm_1i_c, pm_2i_c, pm_1l_c, pm_2l_c, pm_1a_c, pm_ia_c, pm_iia_c, pm_va_c, pm_cp_c, pm_k0_c, pm_k1_c, pm_k2_c, pm_k3_c, pm_s1_c, pm_s2_c, pm_s3_c, pm_s4_c, pm_ri_c, pm_ra_c, pm_rn_c, pm_rk_i, pm_rk_z, pm_rk_a, pm_vk_i, pm_vk_z, pm_vk_a, pm_cti, pm_ctr, pm_ldi_z, pm_ldi_s, pm_lda_z, pm_lda_s, pm_cat_n, pm_cat_i, pm_cat_r, pm_cat_l, pm_obj, pm_arr, pm_opt, pm_ird, pm_aln, List.getElem?_cons_zero, List.getElem?_cons_succ, List.set_cons_zero, List.set_cons_succ, List.length_cons, List.length_nil, List.length_set, true_and, and_true, Nat.add_zero, Nat.zero_add, Nat.le_refl, Nat.reduceAdd, Nat.reduceLT, Nat.reduceLeDiff, Nat.zero_le, not_false_eq_true, not_true_eq_false, false_implies, implies_true, true_implies, Nat.zero_lt_succ, Nat.lt_add_one, pm_tl_n, pm_tl_s, sc_uL, one0, l1, k1]
    rw [upd_upd] at K1
    exact rq_F (K1.q (F1.tr K2))
  | true =>
    rw [Bool.true_and]
    refine PM_use (c_P_noKey0 C1 hp (d + 4)) ?_
    rintro v g1 k1 ⟨rfl, rfl⟩
    show W_X12_needed _ _ _ _ _ _ _ _ _
    simp only [w_X12_needed_10, w_X12_needed_13, w_X12_needed_14, w_X12_needed_15, pm_1i_c, pm_2i_c, pm_1l_c, pm_2l_c, pm_1a_c, pm_ia_c, pm_iia_c, pm_va_c, pm_cp_c, pm_k0_c, pm_k1_c, pm_k2_c, pm_k3_c, pm_s1_c, pm_s2_c, pm_s3_c, pm_s4_c, pm_ri_c, pm_ra_c, pm_rn_c, pm_rk_i, pm_rk_z, pm_rk_a, pm_vk_i, pm_vk_z, pm_vk_a, pm_cti, pm_ctr, pm_ldi_z, pm_ldi_s, pm_lda_z, pm_lda_s, pm_cat_n, pm_cat_i, pm_cat_r, pm_cat_l, pm_obj, pm_arr, pm_opt, pm_ird, pm_aln, List.getElem?_cons_zero, List.getElem?_cons_succ, List.set_cons_zero, List.set_cons_succ, List.length_cons, List.length_nil, List.length_set, true_and, and_true, Nat.add_zero, Nat.zero_add, Nat.le_refl, Nat.reduceAdd, Nat.reduceLT, Nat.reduceLeDiff, Nat.zero_le, not_false_eq_true, not_true_eq_false, false_implies, implies_true, true_implies, Nat.zero_lt_succ, Nat.lt_add_one, pm_tl_n, pm_tl_s, sc_uL, H1, l1]
    cases hq : kyB q with
    | false =>
      refine PM_use (c_P_noKey1 C1 hq (d + 4)) ?_
      rintro v g1 k1 ⟨rfl, K1, K2⟩
      show W_X12_needed _ _ _ _ _ _ _ _ _
      simp only [w_X12_needed_18, w_X12_needed_21, w_X12_needed_22, pm_1i_c, pm_2i_c, pm_1l_c, pm_2l_c, pm_1a_c, pm_ia_c, pm_iia_c, pm_va_c, pm_cp_c, pm_k0_c, pm_k1_c, pm_k2_c, pm_k3_c, pm_s1_c, pm_s2_c, pm_s3_c, pm_s4_c, pm_ri_c, pm_ra_c, pm_rn_c, pm_rk_i, pm_rk_z, pm_rk_a, pm_vk_i, pm_vk_z, pm_vk_a, pm_cti, pm_ctr, pm_ldi_z, pm_ldi_s, pm_lda_z, pm_lda_s, pm_cat_n, pm_cat_i, pm_cat_r, pm_cat_l, pm_obj, pm_arr, pm_opt, pm_ird, pm_aln, List.getElem?_cons_zero, List.getElem?_cons_succ, List.set_cons_zero, List.set_cons_succ, List.length_cons, List.length_nil, List.length_set, true_and, and_true, Nat.add_zero, Nat.zero_add, Nat.le_refl, Nat.reduceAdd, Nat.reduceLT, Nat.reduceLeDiff, Nat.zero_le, not_false_eq_true, not_true_eq_false, false_implies, implies_true, true_implies, Nat.zero_lt_succ, Nat.lt_add_one, pm_tl_n, pm_tl_s, sc_uL, one0, l1, k1]
      rw [upd_upd] at K1
      exact rq_F (K1.q (F1.tr K2))
    | true =>
      refine PM_use (c_P_noKey0 C1 hq (d + 4)) ?_
      rintro v g1 k1 ⟨rfl, rfl⟩
      obtain ⟨f, Hf, Rf⟩ := C1.n
      obtain ⟨fa0, Ha⟩ := C1.as
      show W_X12_needed _ _ _ _ _ _ _ _ _
      simp only [w_X12_needed_18, w_X12_needed_23, w_X12_needed_24, w_X12_needed_27, w_X12_needed_28, w_X12_needed_31, pm_1i_c, pm_2i_c, pm_1l_c, pm_2l_c, pm_1a_c, pm_ia_c, pm_iia_c, pm_va_c, pm_cp_c, pm_k0_c, pm_k1_c, pm_k2_c, pm_k3_c, pm_s1_c, pm_s2_c, pm_s3_c, pm_s4_c, pm_ri_c, pm_ra_c, pm_rn_c, pm_rk_i, pm_rk_z, pm_rk_a, pm_vk_i, pm_vk_z, pm_vk_a, pm_cti, pm_ctr, pm_ldi_z, pm_ldi_s, pm_lda_z, pm_lda_s, pm_cat_n, pm_cat_i, pm_cat_r, pm_cat_l, pm_obj, pm_arr, pm_opt, pm_ird, pm_aln, List.getElem?_cons_zero, List.getElem?_cons_succ, List.set_cons_zero, List.set_cons_succ, List.length_cons, List.length_nil, List.length_set, true_and, and_true, Nat.add_zero, Nat.zero_add, Nat.le_refl, Nat.reduceAdd, Nat.reduceLT, Nat.reduceLeDiff, Nat.zero_le, not_false_eq_true, not_true_eq_false, false_implies, implies_true, true_implies, Nat.zero_lt_succ, Nat.lt_add_one, pm_tl_n, pm_tl_s, sc_uL, H1, l1]
      refine PM_use (c_M_copies Hf Ha (by omega) (d + 5)) ?_
      rintro v g2 k2 ⟨rfl, ⟨fa, K1, K2⟩, K3⟩
      have M1 : md_ g2 m (upd o 1 0) A := ⟨(K3 m (by omega)).trans C1.1, f, (K3 _ (by omega)).trans Hf, Rf⟩
      have P1 : pil g2 m := C1.p.keep (K3 _ (by omega))
      show W_X12_needed _ _ _ _ _ _ _ _ _
      simp only [w_X12_needed_34, w_X12_needed_35, pm_1i_c, pm_2i_c, pm_1l_c, pm_2l_c, pm_1a_c, pm_ia_c, pm_iia_c, pm_va_c, pm_cp_c, pm_k0_c, pm_k1_c, pm_k2_c, pm_k3_c, pm_s1_c, pm_s2_c, pm_s3_c, pm_s4_c, pm_ri_c, pm_ra_c, pm_rn_c, pm_rk_i, pm_rk_z, pm_rk_a, pm_vk_i, pm_vk_z, pm_vk_a, pm_cti, pm_ctr, pm_ldi_z, pm_ldi_s, pm_lda_z, pm_lda_s, pm_cat_n, pm_cat_i, pm_cat_r, pm_cat_l, pm_obj, pm_arr, pm_opt, pm_ird, pm_aln, List.getElem?_cons_zero, List.getElem?_cons_succ, List.set_cons_zero, List.set_cons_succ, List.length_cons, List.length_nil, List.length_set, true_and, and_true, Nat.add_zero, Nat.zero_add, Nat.le_refl, Nat.reduceAdd, Nat.reduceLT, Nat.reduceLeDiff, Nat.zero_le, not_false_eq_true, not_true_eq_false, false_implies, implies_true, true_implies, Nat.zero_lt_succ, Nat.lt_add_one, pm_tl_n, pm_tl_s, sc_uL]
      -- back
      have back : ∀ (n : Nat) (y : Int32) (B : AD) (g : pmH), md_ g m (upd o 1 0) B → pil g m → g[m + 3]? = some (.inl (0, 2195, .inl fa)) → (∀ i, i ≠ m + 1 → i ≠ m + 3 → i ≠ m + 7 → g[i]? = g1[i]?) → g.length = g1.length → n ≤ 21 → y = (if n = 21 then -1 else nI n) → W_X12_needed (d + 6) (h.length + 0) 0 (rq_ h m A K bs ws (o 0) (o 7) true y) 62 [some (.ref m), some (.int k), some (.int q), some (.int (nI n))] [] g 0 := by
        intro n y B g MB P ga F l hn hy
        obtain ⟨c0, cf, c1, cR⟩ := MB
        have c0' : g[m]? = some (.inr (12, [.ref (m + 1), .ref (m + 2), .ref (m + 3), .int (o 0), .int 0, .ref (m + 4), .int (o 2), .ref (m + 5), .int (o 3), .int (o 4), .int (o 5), .int (o 6), .int (o 7), .int (o 8), .int (o 9), .int (o 10), .ref (m + 6), .ref (m + 7), .ref (m + 8), .int (o 11), .ref (m + 9), .ref (m + 10), .int (o 12)])) := c0
        simp only [w_X12_needed_62, w_X12_needed_63, w_X12_needed_66, w_X12_needed_67, w_X12_needed_70, pm_1i_c, pm_2i_c, pm_1l_c, pm_2l_c, pm_1a_c, pm_ia_c, pm_iia_c, pm_va_c, pm_cp_c, pm_k0_c, pm_k1_c, pm_k2_c, pm_k3_c, pm_s1_c, pm_s2_c, pm_s3_c, pm_s4_c, pm_ri_c, pm_ra_c, pm_rn_c, pm_rk_i, pm_rk_z, pm_rk_a, pm_vk_i, pm_vk_z, pm_vk_a, pm_cti, pm_ctr, pm_ldi_z, pm_ldi_s, pm_lda_z, pm_lda_s, pm_cat_n, pm_cat_i, pm_cat_r, pm_cat_l, pm_obj, pm_arr, pm_opt, pm_ird, pm_aln, List.getElem?_cons_zero, List.getElem?_cons_succ, List.set_cons_zero, List.set_cons_succ, List.length_cons, List.length_nil, List.length_set, true_and, and_true, Nat.add_zero, Nat.zero_add, Nat.le_refl, Nat.reduceAdd, Nat.reduceLT, Nat.reduceLeDiff, Nat.zero_le, not_false_eq_true, not_true_eq_false, false_implies, implies_true, true_implies, Nat.zero_lt_succ, Nat.lt_add_one, c0', l1, l]
        refine PM_use (c_M_copies ga c1 (by omega) (d + 5)) ?_
        rintro v g9 k9 ⟨rfl, ⟨fz, Z1, Z2⟩, Z3⟩
        obtain ⟨C2, F2⟩ := C1.u4 (h' := g9) (A' := A) ((Z3 m (by omega)).trans c0) ⟨fz, Z1, (Rf.cg K2).cg Z2⟩ (P.keep (Z3 _ (by omega))) ⟨fa, (Z3 _ (by omega)).trans ga⟩ (fun i x y w => (Z3 i x).trans (F i x y w))
        subst hy
        by_cases c : n = 21
        · subst c
          rw [if_pos rfl]
          show W_X12_needed _ _ _ _ _ _ _ _ _
          simp only [w_X12_needed_73, w_X12_needed_74, w_X12_needed_76, w_X12_needed_79, w_X12_needed_80, w_X12_needed_83, w_X12_needed_84, pm_1i_c, pm_2i_c, pm_1l_c, pm_2l_c, pm_1a_c, pm_ia_c, pm_iia_c, pm_va_c, pm_cp_c, pm_k0_c, pm_k1_c, pm_k2_c, pm_k3_c, pm_s1_c, pm_s2_c, pm_s3_c, pm_s4_c, pm_ri_c, pm_ra_c, pm_rn_c, pm_rk_i, pm_rk_z, pm_rk_a, pm_vk_i, pm_vk_z, pm_vk_a, pm_cti, pm_ctr, pm_ldi_z, pm_ldi_s, pm_lda_z, pm_lda_s, pm_cat_n, pm_cat_i, pm_cat_r, pm_cat_l, pm_obj, pm_arr, pm_opt, pm_ird, pm_aln, List.getElem?_cons_zero, List.getElem?_cons_succ, List.set_cons_zero, List.set_cons_succ, List.length_cons, List.length_nil, List.length_set, true_and, and_true, Nat.add_zero, Nat.zero_add, Nat.le_refl, Nat.reduceAdd, Nat.reduceLT, Nat.reduceLeDiff, Nat.zero_le, not_false_eq_true, not_true_eq_false, false_implies, implies_true, true_implies, Nat.zero_lt_succ, Nat.lt_add_one, pm_tl_n, pm_tl_s, sc_uL, show (20 : Int32) < nI 21 by decide, l1, l, k9]
          exact rq_T (C2.q (F1.tr F2))
        · have e4 : ¬ (20 : Int32) < nI n := nI_nlt (b := n) (a := 20) (by omega) (by omega)
          rw [if_neg c]
          show W_X12_needed _ _ _ _ _ _ _ _ _
          simp only [w_X12_needed_73, w_X12_needed_74, w_X12_needed_76, w_X12_needed_83, w_X12_needed_84, pm_1i_c, pm_2i_c, pm_1l_c, pm_2l_c, pm_1a_c, pm_ia_c, pm_iia_c, pm_va_c, pm_cp_c, pm_k0_c, pm_k1_c, pm_k2_c, pm_k3_c, pm_s1_c, pm_s2_c, pm_s3_c, pm_s4_c, pm_ri_c, pm_ra_c, pm_rn_c, pm_rk_i, pm_rk_z, pm_rk_a, pm_vk_i, pm_vk_z, pm_vk_a, pm_cti, pm_ctr, pm_ldi_z, pm_ldi_s, pm_lda_z, pm_lda_s, pm_cat_n, pm_cat_i, pm_cat_r, pm_cat_l, pm_obj, pm_arr, pm_opt, pm_ird, pm_aln, List.getElem?_cons_zero, List.getElem?_cons_succ, List.set_cons_zero, List.set_cons_succ, List.length_cons, List.length_nil, List.length_set, true_and, and_true, Nat.add_zero, Nat.zero_add, Nat.le_refl, Nat.reduceAdd, Nat.reduceLT, Nat.reduceLeDiff, Nat.zero_le, not_false_eq_true, not_true_eq_false, false_implies, implies_true, true_implies, Nat.zero_lt_succ, Nat.lt_add_one, pm_tl_n, pm_tl_s, sc_uL, e4, l1, l, k9]
          exact rq_T (C2.q (F1.tr F2))
      have loop : ∀ (j n : Nat) (B : AD) (g : pmH), n + j = 21 → md_ g m (upd o 1 0) B → pil g m → skV B → cV B → (∃ n s, n < s ∧ 10 ≤ s ∧ s ≤ 20000 ∧ sc B 0 = nI n ∧ sc B 11 = nI s) → g[m + 3]? = some (.inl (0, 2195, .inl fa)) → (∀ i, i ≠ m + 1 → i ≠ m + 3 → i ≠ m + 7 → g[i]? = g1[i]?) → g.length = g1.length → neS k q j n B = neS k q 21 0 A → W_X12_needed (d + 6) (h.length + 0) 0 (rq_ h m A K bs ws (o 0) (o 7) true (neS k q 21 0 A)) 36 [some (.ref m), some (.int k), some (.int q), some (.int (nI n))] [] g 0 := by
        intro j
        induction j with
        | zero =>
          intro n B g hn MB P V Cc D ga F l e
          have : n = 21 := by omega
          subst this
          rw [w_X12_needed_36]
          simp only [w_X12_needed_37, w_X12_needed_39, pm_1i_c, pm_2i_c, pm_1l_c, pm_2l_c, pm_1a_c, pm_ia_c, pm_iia_c, pm_va_c, pm_cp_c, pm_k0_c, pm_k1_c, pm_k2_c, pm_k3_c, pm_s1_c, pm_s2_c, pm_s3_c, pm_s4_c, pm_ri_c, pm_ra_c, pm_rn_c, pm_rk_i, pm_rk_z, pm_rk_a, pm_vk_i, pm_vk_z, pm_vk_a, pm_cti, pm_ctr, pm_ldi_z, pm_ldi_s, pm_lda_z, pm_lda_s, pm_cat_n, pm_cat_i, pm_cat_r, pm_cat_l, pm_obj, pm_arr, pm_opt, pm_ird, pm_aln, List.getElem?_cons_zero, List.getElem?_cons_succ, List.set_cons_zero, List.set_cons_succ, List.length_cons, List.length_nil, List.length_set, true_and, and_true, Nat.add_zero, Nat.zero_add, Nat.le_refl, Nat.reduceAdd, Nat.reduceLT, Nat.reduceLeDiff, Nat.zero_le, not_false_eq_true, not_true_eq_false, false_implies, implies_true, true_implies, Nat.zero_lt_succ, Nat.lt_add_one, show (20 : Int32) < nI 21 by decide]
          exact back 21 _ B g MB P ga F l (by omega) (by rw [if_pos rfl, ← e]; rfl)
        | succ j ih =>
          intro n B g hn MB P V Cc D ga F l e
          rw [neS_s] at e
          have c0' : g[m]? = some (.inr (12, [.ref (m + 1), .ref (m + 2), .ref (m + 3), .int (o 0), .int 0, .ref (m + 4), .int (o 2), .ref (m + 5), .int (o 3), .int (o 4), .int (o 5), .int (o 6), .int (o 7), .int (o 8), .int (o 9), .int (o 10), .ref (m + 6), .ref (m + 7), .ref (m + 8), .int (o 11), .ref (m + 9), .ref (m + 10), .int (o 12)])) := MB.1
          have e4 : ¬ (20 : Int32) < nI n := nI_nlt (b := n) (a := 20) (by omega) (by omega)
          rw [w_X12_needed_36]
          simp only [w_X12_needed_37, w_X12_needed_39, w_X12_needed_42, w_X12_needed_43, w_X12_needed_44, w_X12_needed_45, pm_1i_c, pm_2i_c, pm_1l_c, pm_2l_c, pm_1a_c, pm_ia_c, pm_iia_c, pm_va_c, pm_cp_c, pm_k0_c, pm_k1_c, pm_k2_c, pm_k3_c, pm_s1_c, pm_s2_c, pm_s3_c, pm_s4_c, pm_ri_c, pm_ra_c, pm_rn_c, pm_rk_i, pm_rk_z, pm_rk_a, pm_vk_i, pm_vk_z, pm_vk_a, pm_cti, pm_ctr, pm_ldi_z, pm_ldi_s, pm_lda_z, pm_lda_s, pm_cat_n, pm_cat_i, pm_cat_r, pm_cat_l, pm_obj, pm_arr, pm_opt, pm_ird, pm_aln, List.getElem?_cons_zero, List.getElem?_cons_succ, List.set_cons_zero, List.set_cons_succ, List.length_cons, List.length_nil, List.length_set, true_and, and_true, Nat.add_zero, Nat.zero_add, Nat.le_refl, Nat.reduceAdd, Nat.reduceLT, Nat.reduceLeDiff, Nat.zero_le, not_false_eq_true, not_true_eq_false, false_implies, implies_true, true_implies, Nat.zero_lt_succ, Nat.lt_add_one, e4, c0', l1, l]
          refine PM_use (c_M_doesWin MB P V.1 k q d) ?_
          rintro v g3 k3 ⟨rfl, N1, N2, N3⟩
          have q0 : g3[m]? = g[m]? := N3 m (by omega)
          have ga3 : g3[m + 3]? = some (.inl (0, 2195, .inl fa)) := (N3 _ (by omega)).trans ga
          cases hb : beF B k q with
          | true =>
            rw [hb, if_pos rfl] at e
            show W_X12_needed _ _ _ _ _ _ _ _ _
            simp only [w_X12_needed_48, pm_1i_c, pm_2i_c, pm_1l_c, pm_2l_c, pm_1a_c, pm_ia_c, pm_iia_c, pm_va_c, pm_cp_c, pm_k0_c, pm_k1_c, pm_k2_c, pm_k3_c, pm_s1_c, pm_s2_c, pm_s3_c, pm_s4_c, pm_ri_c, pm_ra_c, pm_rn_c, pm_rk_i, pm_rk_z, pm_rk_a, pm_vk_i, pm_vk_z, pm_vk_a, pm_cti, pm_ctr, pm_ldi_z, pm_ldi_s, pm_lda_z, pm_lda_s, pm_cat_n, pm_cat_i, pm_cat_r, pm_cat_l, pm_obj, pm_arr, pm_opt, pm_ird, pm_aln, List.getElem?_cons_zero, List.getElem?_cons_succ, List.set_cons_zero, List.set_cons_succ, List.length_cons, List.length_nil, List.length_set, true_and, and_true, Nat.add_zero, Nat.zero_add, Nat.le_refl, Nat.reduceAdd, Nat.reduceLT, Nat.reduceLeDiff, Nat.zero_le, not_false_eq_true, not_true_eq_false, false_implies, implies_true, true_implies, Nat.zero_lt_succ, Nat.lt_add_one, pm_tl_n, pm_tl_s, sc_uL, if_true, one0]
            exact back n _ B g3 N1 N2 ga3 (fun i x y w => (N3 i w).trans (F i x y w)) (by omega) (by omega) (by rw [if_neg (by omega)]; exact e.symm)
          | false =>
            rw [hb, if_neg (by decide)] at e
            show W_X12_needed _ _ _ _ _ _ _ _ _
            simp only [w_X12_needed_48, w_X12_needed_51, w_X12_needed_52, w_X12_needed_53, pm_1i_c, pm_2i_c, pm_1l_c, pm_2l_c, pm_1a_c, pm_ia_c, pm_iia_c, pm_va_c, pm_cp_c, pm_k0_c, pm_k1_c, pm_k2_c, pm_k3_c, pm_s1_c, pm_s2_c, pm_s3_c, pm_s4_c, pm_ri_c, pm_ra_c, pm_rn_c, pm_rk_i, pm_rk_z, pm_rk_a, pm_vk_i, pm_vk_z, pm_vk_a, pm_cti, pm_ctr, pm_ldi_z, pm_ldi_s, pm_lda_z, pm_lda_s, pm_cat_n, pm_cat_i, pm_cat_r, pm_cat_l, pm_obj, pm_arr, pm_opt, pm_ird, pm_aln, List.getElem?_cons_zero, List.getElem?_cons_succ, List.set_cons_zero, List.set_cons_succ, List.length_cons, List.length_nil, List.length_set, true_and, and_true, Nat.add_zero, Nat.zero_add, Nat.le_refl, Nat.reduceAdd, Nat.reduceLT, Nat.reduceLeDiff, Nat.zero_le, not_false_eq_true, not_true_eq_false, false_implies, implies_true, true_implies, Nat.zero_lt_succ, Nat.lt_add_one, pm_tl_n, pm_tl_s, sc_uL, Bool.false_eq_true, if_false, q0, c0', l1, l, k3]
            refine PM_use (c_M_counts N1 V Cc k (d + 2)) ?_
            rintro v g4 k4 ⟨rfl, O1, O2⟩
            show W_X12_needed _ _ _ _ _ _ _ _ _
            simp only [w_X12_needed_56, w_X12_needed_59, pm_1i_c, pm_2i_c, pm_1l_c, pm_2l_c, pm_1a_c, pm_ia_c, pm_iia_c, pm_va_c, pm_cp_c, pm_k0_c, pm_k1_c, pm_k2_c, pm_k3_c, pm_s1_c, pm_s2_c, pm_s3_c, pm_s4_c, pm_ri_c, pm_ra_c, pm_rn_c, pm_rk_i, pm_rk_z, pm_rk_a, pm_vk_i, pm_vk_z, pm_vk_a, pm_cti, pm_ctr, pm_ldi_z, pm_ldi_s, pm_lda_z, pm_lda_s, pm_cat_n, pm_cat_i, pm_cat_r, pm_cat_l, pm_obj, pm_arr, pm_opt, pm_ird, pm_aln, List.getElem?_cons_zero, List.getElem?_cons_succ, List.set_cons_zero, List.set_cons_succ, List.length_cons, List.length_nil, List.length_set, true_and, and_true, Nat.add_zero, Nat.zero_add, Nat.le_refl, Nat.reduceAdd, Nat.reduceLT, Nat.reduceLeDiff, Nat.zero_le, not_false_eq_true, not_true_eq_false, false_implies, implies_true, true_implies, Nat.zero_lt_succ, Nat.lt_add_one, pm_tl_n, pm_tl_s, sc_uL, nI_1]
            obtain ⟨V', C', D'⟩ := skV_ad V Cc D k
            exact ih (n + 1) (addF B k) g4 (by omega) O1 (N2.t1 O2) V' C' D' ((O2 _ (by omega)).trans ga3) (fun i x y w => (O2 i x).trans ((N3 i w).trans (F i x y w))) (by omega) e
      exact loop 21 0 A g2 rfl M1 P1 I.sk I.c I.ad K1 (fun i x y w => K3 i y) (by omega) rfl
theorem shrF_le (A : AD) (k q : Int32) : ∀ r, ∃ n, n ≤ r ∧ shrF A k q r = nI n
  | 0 => ⟨0, Nat.le_refl _, rfl⟩
  | r + 1 => by
    obtain ⟨n, n1, n2⟩ := shrF_le A k q r
    have e : shrF A k q (r + 1) = if plA A k r = plA A q r then shrF A k q r + 1 else shrF A k q r := rfl
    rw [e, n2]
    split
    · exact ⟨n + 1, by omega, nI_1 n⟩
    · exact ⟨n, by omega, rfl⟩
theorem tw_ge (A : AD) (key : Int32) : ∀ q, (twS A key q).2 = -1 ∨ ∃ n, n ≤ 4 ∧ (twS A key q).2 = nI n
  | 0 => Or.inl rfl
  | q + 1 => by
    rw [twS_s]
    split
    · unfold twN
      split
      · exact Or.inl rfl
      · exact Or.inr (shrF_le A key (nI q) 4)
    · exact tw_ge A key q
theorem tw_nlt (A : AD) (key : Int32) (q : Nat) : ¬ (twS A key q).2 < -1 := by
  rcases tw_ge A key q with z | ⟨n, n1, z⟩
  · rw [z]
    decide
  · rw [z]
    intro y
    have := Int32.lt_iff_toInt_lt.mp y
    rw [nI_toInt (by omega), show (-1 : Int32).toInt = -1 from rfl] at this
    omega
set_option maxHeartbeats 1000000 in
theorem c_P_twin (C : mm_ h m o A K bs ws) (W : wdV A) (key : Int32) (d : Nat) : PM (d + 3) 240 [.ref m, .int key] h (rq_ h m A K bs ws (o 0) (o 7) (kyB key) (twS A key 1000).1) := by
  have H0 := C.ob
  unfold mO at H0
  obtain ⟨h1, e1, l1, F1, C1, H1⟩ := C.th 0
  refine en_X12_twin rfl rfl ?_
  simp only [w_X12_twin_0, w_X12_twin_1, w_X12_twin_2, w_X12_twin_5, w_X12_twin_6, w_X12_twin_7, pm_1i_c, pm_2i_c, pm_1l_c, pm_2l_c, pm_1a_c, pm_ia_c, pm_iia_c, pm_va_c, pm_cp_c, pm_k0_c, pm_k1_c, pm_k2_c, pm_k3_c, pm_s1_c, pm_s2_c, pm_s3_c, pm_s4_c, pm_ri_c, pm_ra_c, pm_rn_c, pm_rk_i, pm_rk_z, pm_rk_a, pm_vk_i, pm_vk_z, pm_vk_a, pm_cti, pm_ctr, pm_ldi_z, pm_ldi_s, pm_lda_z, pm_lda_s, pm_cat_n, pm_cat_i, pm_cat_r, pm_cat_l, pm_obj, pm_arr, pm_opt, pm_ird, pm_aln, List.getElem?_cons_zero, List.getElem?_cons_succ, List.set_cons_zero, List.set_cons_succ, List.length_cons, List.length_nil, List.length_set, true_and, and_true, Nat.add_zero, Nat.zero_add, Nat.le_refl, Nat.reduceAdd, Nat.reduceLT, Nat.reduceLeDiff, Nat.zero_le, not_false_eq_true, not_true_eq_false, false_implies, implies_true, true_implies, Nat.zero_lt_succ, Nat.lt_add_one, H0, e1, H1, l1]
  cases hp : kyB key with
  | false =>
    refine PM_use (c_P_noKey1 C1 hp d) ?_
    rintro v g1 k1 ⟨rfl, K1, K2⟩
    show W_X12_twin _ _ _ _ _ _ _ _ _
    simp only [w_X12_twin_10, w_X12_twin_13, w_X12_twin_14, pm_1i_c, pm_2i_c, pm_1l_c, pm_2l_c, pm_1a_c, pm_ia_c, pm_iia_c, pm_va_c, pm_cp_c, pm_k0_c, pm_k1_c, pm_k2_c, pm_k3_c, pm_s1_c, pm_s2_c, pm_s3_c, pm_s4_c, pm_ri_c, pm_ra_c, pm_rn_c, pm_rk_i, pm_rk_z, pm_rk_a, pm_vk_i, pm_vk_z, pm_vk_a, pm_cti, pm_ctr, pm_ldi_z, pm_ldi_s, pm_lda_z, pm_lda_s, pm_cat_n, pm_cat_i, pm_cat_r, pm_cat_l, pm_obj, pm_arr, pm_opt, pm_ird, pm_aln, List.getElem?_cons_zero, List.getElem?_cons_succ, List.set_cons_zero, List.set_cons_succ, List.length_cons, List.length_nil, List.length_set, true_and, and_true, Nat.add_zero, Nat.zero_add, Nat.le_refl, Nat.reduceAdd, Nat.reduceLT, Nat.reduceLeDiff, Nat.zero_le, not_false_eq_true, not_true_eq_false, false_implies, implies_true, true_implies, Nat.zero_lt_succ, Nat.lt_add_one, pm_tl_n, pm_tl_s, sc_uL, one0, l1, k1]
    rw [upd_upd] at K1
    exact rq_F (K1.q (F1.tr K2))
  | true =>
    refine PM_use (c_P_noKey0 C1 hp d) ?_
    rintro v g1 k1 ⟨rfl, rfl⟩
    show W_X12_twin _ _ _ _ _ _ _ _ _
    simp only [w_X12_twin_10, w_X12_twin_15, w_X12_twin_16, w_X12_twin_17, w_X12_twin_18, w_X12_twin_19, w_X12_twin_20, pm_1i_c, pm_2i_c, pm_1l_c, pm_2l_c, pm_1a_c, pm_ia_c, pm_iia_c, pm_va_c, pm_cp_c, pm_k0_c, pm_k1_c, pm_k2_c, pm_k3_c, pm_s1_c, pm_s2_c, pm_s3_c, pm_s4_c, pm_ri_c, pm_ra_c, pm_rn_c, pm_rk_i, pm_rk_z, pm_rk_a, pm_vk_i, pm_vk_z, pm_vk_a, pm_cti, pm_ctr, pm_ldi_z, pm_ldi_s, pm_lda_z, pm_lda_s, pm_cat_n, pm_cat_i, pm_cat_r, pm_cat_l, pm_obj, pm_arr, pm_opt, pm_ird, pm_aln, List.getElem?_cons_zero, List.getElem?_cons_succ, List.set_cons_zero, List.set_cons_succ, List.length_cons, List.length_nil, List.length_set, true_and, and_true, Nat.add_zero, Nat.zero_add, Nat.le_refl, Nat.reduceAdd, Nat.reduceLT, Nat.reduceLeDiff, Nat.zero_le, not_false_eq_true, not_true_eq_false, false_implies, implies_true, true_implies, Nat.zero_lt_succ, Nat.lt_add_one, pm_tl_n, pm_tl_s, sc_uL]
    have inner : ∀ (q : Nat) (x2 x3 : Int32), (∀ x6, W_X12_twin (d + 2) (h.length + 0) 0 (rq_ h m A K bs ws (o 0) (o 7) true (twS A key 1000).1) 85 [some (.ref m), some (.int key), some (.int x2), some (.int x3), some (.int (nI q)), some (.int (shrF A key (nI q) 4)), x6] [] g1 0) → ∀ z r, 4 - r = z → r ≤ 4 → W_X12_twin (d + 2) (h.length + 0) 0 (rq_ h m A K bs ws (o 0) (o 7) true (twS A key 1000).1) 45 [some (.ref m), some (.int key), some (.int x2), some (.int x3), some (.int (nI q)), some (.int (shrF A key (nI q) r)), some (.int (nI r))] [] g1 0 := by
      intro q x2 x3 kont z
      induction z with
      | zero =>
        intro r hz hr
        have : r = 4 := by omega
        subst this
        rw [w_X12_twin_45]
        simp only [w_X12_twin_47, w_X12_twin_48, pm_1i_c, pm_2i_c, pm_1l_c, pm_2l_c, pm_1a_c, pm_ia_c, pm_iia_c, pm_va_c, pm_cp_c, pm_k0_c, pm_k1_c, pm_k2_c, pm_k3_c, pm_s1_c, pm_s2_c, pm_s3_c, pm_s4_c, pm_ri_c, pm_ra_c, pm_rn_c, pm_rk_i, pm_rk_z, pm_rk_a, pm_vk_i, pm_vk_z, pm_vk_a, pm_cti, pm_ctr, pm_ldi_z, pm_ldi_s, pm_lda_z, pm_lda_s, pm_cat_n, pm_cat_i, pm_cat_r, pm_cat_l, pm_obj, pm_arr, pm_opt, pm_ird, pm_aln, List.getElem?_cons_zero, List.getElem?_cons_succ, List.set_cons_zero, List.set_cons_succ, List.length_cons, List.length_nil, List.length_set, true_and, and_true, Nat.add_zero, Nat.zero_add, Nat.le_refl, Nat.reduceAdd, Nat.reduceLT, Nat.reduceLeDiff, Nat.zero_le, not_false_eq_true, not_true_eq_false, false_implies, implies_true, true_implies, Nat.zero_lt_succ, Nat.lt_add_one, show ¬ nI 4 < 4 by decide]
        exact kont _
      | succ z ih =>
        intro r hz hr
        have e4 : nI r < 4 := nI_lt (b := 4) (by omega) (by omega)
        have N := ih (r + 1) (by omega) (by omega)
        have es : shrF A key (nI q) (r + 1) = if plA A key r = plA A (nI q) r then shrF A key (nI q) r + 1 else shrF A key (nI q) r := rfl
        rw [es] at N
        rw [w_X12_twin_45]
        simp only [w_X12_twin_47, w_X12_twin_48, w_X12_twin_51, w_X12_twin_53, w_X12_twin_54, w_X12_twin_55, w_X12_twin_57, pm_1i_c, pm_2i_c, pm_1l_c, pm_2l_c, pm_1a_c, pm_ia_c, pm_iia_c, pm_va_c, pm_cp_c, pm_k0_c, pm_k1_c, pm_k2_c, pm_k3_c, pm_s1_c, pm_s2_c, pm_s3_c, pm_s4_c, pm_ri_c, pm_ra_c, pm_rn_c, pm_rk_i, pm_rk_z, pm_rk_a, pm_vk_i, pm_vk_z, pm_vk_a, pm_cti, pm_ctr, pm_ldi_z, pm_ldi_s, pm_lda_z, pm_lda_s, pm_cat_n, pm_cat_i, pm_cat_r, pm_cat_l, pm_obj, pm_arr, pm_opt, pm_ird, pm_aln, List.getElem?_cons_zero, List.getElem?_cons_succ, List.set_cons_zero, List.set_cons_succ, List.length_cons, List.length_nil, List.length_set, true_and, and_true, Nat.add_zero, Nat.zero_add, Nat.le_refl, Nat.reduceAdd, Nat.reduceLT, Nat.reduceLeDiff, Nat.zero_le, not_false_eq_true, not_true_eq_false, false_implies, implies_true, true_implies, Nat.zero_lt_succ, Nat.lt_add_one, e4, H1, l1]
        refine PM_use (c_M_placeOf C1.md W key (show r < 4 by omega) d) ?_
        rintro v g2 k2 ⟨rfl, rfl⟩
        show W_X12_twin _ _ _ _ _ _ _ _ _
        simp only [w_X12_twin_60, w_X12_twin_61, w_X12_twin_63, w_X12_twin_65, pm_1i_c, pm_2i_c, pm_1l_c, pm_2l_c, pm_1a_c, pm_ia_c, pm_iia_c, pm_va_c, pm_cp_c, pm_k0_c, pm_k1_c, pm_k2_c, pm_k3_c, pm_s1_c, pm_s2_c, pm_s3_c, pm_s4_c, pm_ri_c, pm_ra_c, pm_rn_c, pm_rk_i, pm_rk_z, pm_rk_a, pm_vk_i, pm_vk_z, pm_vk_a, pm_cti, pm_ctr, pm_ldi_z, pm_ldi_s, pm_lda_z, pm_lda_s, pm_cat_n, pm_cat_i, pm_cat_r, pm_cat_l, pm_obj, pm_arr, pm_opt, pm_ird, pm_aln, List.getElem?_cons_zero, List.getElem?_cons_succ, List.set_cons_zero, List.set_cons_succ, List.length_cons, List.length_nil, List.length_set, true_and, and_true, Nat.add_zero, Nat.zero_add, Nat.le_refl, Nat.reduceAdd, Nat.reduceLT, Nat.reduceLeDiff, Nat.zero_le, not_false_eq_true, not_true_eq_false, false_implies, implies_true, true_implies, Nat.zero_lt_succ, Nat.lt_add_one, pm_tl_n, pm_tl_s, sc_uL, H1, l1]
        refine PM_use (c_M_placeOf C1.md W (nI q) (show r < 4 by omega) d) ?_
        rintro v g3 k3 ⟨rfl, rfl⟩
        by_cases c : plA A key r = plA A (nI q) r
        · rw [if_pos c] at N
          show W_X12_twin _ _ _ _ _ _ _ _ _
          simp only [w_X12_twin_68, w_X12_twin_71, w_X12_twin_72, w_X12_twin_75, w_X12_twin_76, w_X12_twin_77, w_X12_twin_79, w_X12_twin_82, pm_1i_c, pm_2i_c, pm_1l_c, pm_2l_c, pm_1a_c, pm_ia_c, pm_iia_c, pm_va_c, pm_cp_c, pm_k0_c, pm_k1_c, pm_k2_c, pm_k3_c, pm_s1_c, pm_s2_c, pm_s3_c, pm_s4_c, pm_ri_c, pm_ra_c, pm_rn_c, pm_rk_i, pm_rk_z, pm_rk_a, pm_vk_i, pm_vk_z, pm_vk_a, pm_cti, pm_ctr, pm_ldi_z, pm_ldi_s, pm_lda_z, pm_lda_s, pm_cat_n, pm_cat_i, pm_cat_r, pm_cat_l, pm_obj, pm_arr, pm_opt, pm_ird, pm_aln, List.getElem?_cons_zero, List.getElem?_cons_succ, List.set_cons_zero, List.set_cons_succ, List.length_cons, List.length_nil, List.length_set, true_and, and_true, Nat.add_zero, Nat.zero_add, Nat.le_refl, Nat.reduceAdd, Nat.reduceLT, Nat.reduceLeDiff, Nat.zero_le, not_false_eq_true, not_true_eq_false, false_implies, implies_true, true_implies, Nat.zero_lt_succ, Nat.lt_add_one, pm_tl_n, pm_tl_s, sc_uL, c, nI_1]
          exact N
        · rw [if_neg c] at N
          show W_X12_twin _ _ _ _ _ _ _ _ _
          simp only [w_X12_twin_68, w_X12_twin_71, w_X12_twin_72, w_X12_twin_75, w_X12_twin_76, w_X12_twin_77, w_X12_twin_79, w_X12_twin_82, pm_1i_c, pm_2i_c, pm_1l_c, pm_2l_c, pm_1a_c, pm_ia_c, pm_iia_c, pm_va_c, pm_cp_c, pm_k0_c, pm_k1_c, pm_k2_c, pm_k3_c, pm_s1_c, pm_s2_c, pm_s3_c, pm_s4_c, pm_ri_c, pm_ra_c, pm_rn_c, pm_rk_i, pm_rk_z, pm_rk_a, pm_vk_i, pm_vk_z, pm_vk_a, pm_cti, pm_ctr, pm_ldi_z, pm_ldi_s, pm_lda_z, pm_lda_s, pm_cat_n, pm_cat_i, pm_cat_r, pm_cat_l, pm_obj, pm_arr, pm_opt, pm_ird, pm_aln, List.getElem?_cons_zero, List.getElem?_cons_succ, List.set_cons_zero, List.set_cons_succ, List.length_cons, List.length_nil, List.length_set, true_and, and_true, Nat.add_zero, Nat.zero_add, Nat.le_refl, Nat.reduceAdd, Nat.reduceLT, Nat.reduceLeDiff, Nat.zero_le, not_false_eq_true, not_true_eq_false, false_implies, implies_true, true_implies, Nat.zero_lt_succ, Nat.lt_add_one, pm_tl_n, pm_tl_s, sc_uL, c, nI_1, Int32.add_zero]
          exact N
    have outer : ∀ z q, 1000 - q = z → q ≤ 1000 → ∀ (x5 x6 : Option Value), W_X12_twin (d + 2) (h.length + 0) 0 (rq_ h m A K bs ws (o 0) (o 7) true (twS A key 1000).1) 22 [some (.ref m), some (.int key), some (.int (twS A key q).1), some (.int (twS A key q).2), some (.int (nI q)), x5, x6] [] g1 0 := by
      intro z
      induction z with
      | zero =>
        intro q hz hq x5 x6
        have : q = 1000 := by omega
        subst this
        rw [w_X12_twin_22]
        simp only [w_X12_twin_24, w_X12_twin_27, w_X12_twin_106, w_X12_twin_107, pm_1i_c, pm_2i_c, pm_1l_c, pm_2l_c, pm_1a_c, pm_ia_c, pm_iia_c, pm_va_c, pm_cp_c, pm_k0_c, pm_k1_c, pm_k2_c, pm_k3_c, pm_s1_c, pm_s2_c, pm_s3_c, pm_s4_c, pm_ri_c, pm_ra_c, pm_rn_c, pm_rk_i, pm_rk_z, pm_rk_a, pm_vk_i, pm_vk_z, pm_vk_a, pm_cti, pm_ctr, pm_ldi_z, pm_ldi_s, pm_lda_z, pm_lda_s, pm_cat_n, pm_cat_i, pm_cat_r, pm_cat_l, pm_obj, pm_arr, pm_opt, pm_ird, pm_aln, List.getElem?_cons_zero, List.getElem?_cons_succ, List.set_cons_zero, List.set_cons_succ, List.length_cons, List.length_nil, List.length_set, true_and, and_true, Nat.add_zero, Nat.zero_add, Nat.le_refl, Nat.reduceAdd, Nat.reduceLT, Nat.reduceLeDiff, Nat.zero_le, not_false_eq_true, not_true_eq_false, false_implies, implies_true, true_implies, Nat.zero_lt_succ, Nat.lt_add_one, show ¬ nI 1000 < 1000 by decide, l1]
        exact rq_T (C1.q F1)
      | succ z ih =>
        intro q hz hq x5 x6
        have e4 : nI q < 1000 := nI_lt (b := 1000) (by omega) (by omega)
        have ts := twS_s A key q
        rw [w_X12_twin_22]
        by_cases ck : nI q = key
        · have tn : twN A key q = -1 := if_pos ck
          rw [tn, if_neg (tw_nlt A key q)] at ts
          have N := ih (q + 1) (by omega) (by omega) x5 x6
          rw [ts] at N
          simp only [w_X12_twin_24, w_X12_twin_27, w_X12_twin_30, w_X12_twin_32, w_X12_twin_33, w_X12_twin_36, w_X12_twin_100, w_X12_twin_103, pm_1i_c, pm_2i_c, pm_1l_c, pm_2l_c, pm_1a_c, pm_ia_c, pm_iia_c, pm_va_c, pm_cp_c, pm_k0_c, pm_k1_c, pm_k2_c, pm_k3_c, pm_s1_c, pm_s2_c, pm_s3_c, pm_s4_c, pm_ri_c, pm_ra_c, pm_rn_c, pm_rk_i, pm_rk_z, pm_rk_a, pm_vk_i, pm_vk_z, pm_vk_a, pm_cti, pm_ctr, pm_ldi_z, pm_ldi_s, pm_lda_z, pm_lda_s, pm_cat_n, pm_cat_i, pm_cat_r, pm_cat_l, pm_obj, pm_arr, pm_opt, pm_ird, pm_aln, List.getElem?_cons_zero, List.getElem?_cons_succ, List.set_cons_zero, List.set_cons_succ, List.length_cons, List.length_nil, List.length_set, true_and, and_true, Nat.add_zero, Nat.zero_add, Nat.le_refl, Nat.reduceAdd, Nat.reduceLT, Nat.reduceLeDiff, Nat.zero_le, not_false_eq_true, not_true_eq_false, false_implies, implies_true, true_implies, Nat.zero_lt_succ, Nat.lt_add_one, e4, ck]
          rw [← ck, nI_1]
          rw [← ck] at N
          exact ⟨fun z => absurd e4 z, fun _ => N⟩
        · have tn : twN A key q = shrF A key (nI q) 4 := if_neg ck
          rw [tn] at ts
          simp only [w_X12_twin_24, w_X12_twin_27, w_X12_twin_30, w_X12_twin_32, w_X12_twin_33, w_X12_twin_36, w_X12_twin_39, w_X12_twin_40, w_X12_twin_42, w_X12_twin_43, pm_1i_c, pm_2i_c, pm_1l_c, pm_2l_c, pm_1a_c, pm_ia_c, pm_iia_c, pm_va_c, pm_cp_c, pm_k0_c, pm_k1_c, pm_k2_c, pm_k3_c, pm_s1_c, pm_s2_c, pm_s3_c, pm_s4_c, pm_ri_c, pm_ra_c, pm_rn_c, pm_rk_i, pm_rk_z, pm_rk_a, pm_vk_i, pm_vk_z, pm_vk_a, pm_cti, pm_ctr, pm_ldi_z, pm_ldi_s, pm_lda_z, pm_lda_s, pm_cat_n, pm_cat_i, pm_cat_r, pm_cat_l, pm_obj, pm_arr, pm_opt, pm_ird, pm_aln, List.getElem?_cons_zero, List.getElem?_cons_succ, List.set_cons_zero, List.set_cons_succ, List.length_cons, List.length_nil, List.length_set, true_and, and_true, Nat.add_zero, Nat.zero_add, Nat.le_refl, Nat.reduceAdd, Nat.reduceLT, Nat.reduceLeDiff, Nat.zero_le, not_false_eq_true, not_true_eq_false, false_implies, implies_true, true_implies, Nat.zero_lt_succ, Nat.lt_add_one, e4, ck]
          refine inner q _ _ (fun x6 => ?_) 4 0 rfl (by omega)
          by_cases c : (twS A key q).2 < shrF A key (nI q) 4
          · rw [if_pos c] at ts
            have N := ih (q + 1) (by omega) (by omega) (some (.int (shrF A key (nI q) 4))) x6
            rw [ts] at N
            simp only [w_X12_twin_85, w_X12_twin_87, w_X12_twin_88, w_X12_twin_91, w_X12_twin_94, w_X12_twin_96, w_X12_twin_97, w_X12_twin_99, w_X12_twin_100, w_X12_twin_103, pm_1i_c, pm_2i_c, pm_1l_c, pm_2l_c, pm_1a_c, pm_ia_c, pm_iia_c, pm_va_c, pm_cp_c, pm_k0_c, pm_k1_c, pm_k2_c, pm_k3_c, pm_s1_c, pm_s2_c, pm_s3_c, pm_s4_c, pm_ri_c, pm_ra_c, pm_rn_c, pm_rk_i, pm_rk_z, pm_rk_a, pm_vk_i, pm_vk_z, pm_vk_a, pm_cti, pm_ctr, pm_ldi_z, pm_ldi_s, pm_lda_z, pm_lda_s, pm_cat_n, pm_cat_i, pm_cat_r, pm_cat_l, pm_obj, pm_arr, pm_opt, pm_ird, pm_aln, List.getElem?_cons_zero, List.getElem?_cons_succ, List.set_cons_zero, List.set_cons_succ, List.length_cons, List.length_nil, List.length_set, true_and, and_true, Nat.add_zero, Nat.zero_add, Nat.le_refl, Nat.reduceAdd, Nat.reduceLT, Nat.reduceLeDiff, Nat.zero_le, not_false_eq_true, not_true_eq_false, false_implies, implies_true, true_implies, Nat.zero_lt_succ, Nat.lt_add_one, c, nI_1]
            exact N
          · rw [if_neg c] at ts
            have N := ih (q + 1) (by omega) (by omega) (some (.int (shrF A key (nI q) 4))) x6
            rw [ts] at N
            simp only [w_X12_twin_85, w_X12_twin_87, w_X12_twin_88, w_X12_twin_91, w_X12_twin_94, w_X12_twin_96, w_X12_twin_97, w_X12_twin_99, w_X12_twin_100, w_X12_twin_103, pm_1i_c, pm_2i_c, pm_1l_c, pm_2l_c, pm_1a_c, pm_ia_c, pm_iia_c, pm_va_c, pm_cp_c, pm_k0_c, pm_k1_c, pm_k2_c, pm_k3_c, pm_s1_c, pm_s2_c, pm_s3_c, pm_s4_c, pm_ri_c, pm_ra_c, pm_rn_c, pm_rk_i, pm_rk_z, pm_rk_a, pm_vk_i, pm_vk_z, pm_vk_a, pm_cti, pm_ctr, pm_ldi_z, pm_ldi_s, pm_lda_z, pm_lda_s, pm_cat_n, pm_cat_i, pm_cat_r, pm_cat_l, pm_obj, pm_arr, pm_opt, pm_ird, pm_aln, List.getElem?_cons_zero, List.getElem?_cons_succ, List.set_cons_zero, List.set_cons_succ, List.length_cons, List.length_nil, List.length_set, true_and, and_true, Nat.add_zero, Nat.zero_add, Nat.le_refl, Nat.reduceAdd, Nat.reduceLT, Nat.reduceLeDiff, Nat.zero_le, not_false_eq_true, not_true_eq_false, false_implies, implies_true, true_implies, Nat.zero_lt_succ, Nat.lt_add_one, c, nI_1]
            exact N
    exact outer 1000 0 rfl (by omega) none none
end MU
