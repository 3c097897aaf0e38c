/-! AdmissionDeskModel: a part of a law, against the class's. -/
/-- behind a piece of a law: the class at s1, the model at p', n', fa', cs' -/
def Rl (bs : List Int32) (s s1 : LZ) (cs : List Int32) (p p' n' : Nat) (fa' : Int32) (cs' : List Int32) : Prop := sm_ bs 4 s1.1 p' fa' ∧ p ≤ p' ∧ cs'.length + p ≤ cs.length + p' ∧ (fa' = -1 → p < p' ∧ s.1.1 < s1.1.1 ∧ n' = s1.2.1 ∧ n' ≤ 60 ∧ ∃ e e' z, s1.2.2 = s.2.2 ++ e ∧ cs' = cs ++ e' ∧ n' = s.2.1 + z ∧ FrP false e e' z)
theorem kd_nd {bs : List Int32} {dm : Int32} {p ix : Nat} (H : byts bs) (R : RT bs dm p ix) (hd : ¬ (skp bs p < bs.length ∧ isD (bs.getD (skp bs p) (-1)) = true)) : ¬ (cuF bs dm).1.getD ix (-1) = 267 ∧ (isVf ((cuF bs dm).1.getD ix (-1)) = true → ∃ i, i < 8 ∧ (cuF bs dm).1.getD ix (-1) = nI (256 + i)) := by
  by_cases c : skp bs p < bs.length
  · obtain ⟨v, hv, e⟩ := byts_at H c
    have cd : isD (bs.getD (skp bs p) (-1)) = false := by
      cases y : isD (bs.getD (skp bs p) (-1)) with
      | true => exact absurd ⟨c, y⟩ hd
      | false => rfl
    have key : ∀ w, w ≠ 267 → w < 300 → ¬ nI w = 267 ∧ (isVf (nI w) = true → ∃ i, i < 8 ∧ nI w = nI (256 + i)) := fun w w1 w2 => by
      refine ⟨fun z => w1 ((nI_inj (b := 267) (by omega) (by omega)).mp z), fun z => ?_⟩
      unfold isVf at z
      rw [decide_eq_true_eq, show (256 : Int32) = nI 256 from rfl, show (264 : Int32) = nI 264 from rfl, nI_ltI (by omega) (by omega), nI_ltI (by omega) (by omega)] at z
      exact ⟨w - 256, by omega, congrArg nI (by omega)⟩
    cases cl : isL (bs.getD (skp bs p) (-1)) with
    | true =>
      obtain ⟨a1, a2, a3, a4, a5⟩ := RT_word R c cd cl
      obtain ⟨w, w1, w2, w3, w4⟩ := woG_big bs (skp bs p) (beR isL bs (skp bs p)) 11 0 (by omega)
      have w3 : woF bs (skp bs p) (beR isL bs (skp bs p)) = nI w := w3
      rw [a2, w3]
      exact key w w4 (by omega)
    | false =>
      obtain ⟨a1, a2, a3, a4, a5⟩ := RT_sign R c cd cl
      rw [a2, e]
      exact key v (by omega) (by omega)
  · have se : skp bs p = bs.length := by
      have := (skp_le R.1).2
      omega
    rw [(RT_end R se).2]
    exact ⟨by decide, fun z => absurd z (by decide)⟩
section ML
variable {h0 h h' : pmH} {m : Nat} {o : Nat → Int32} {bs : List Int32} {p b dp n : Nat} {fa : Int32} {cs ks : List Int32} {s : LZ}
set_option maxHeartbeats 2000000 in
theorem c_Y_part (P : pr_ h0 h m o bs p b dp n fa cs ks) (T : tap_ h0 m bs) (S : sm_ bs 4 s.1 p fa) (hf : fa = -1) (hn : n = s.2.1) (hn2 : n ≤ 60) (hc : cs.length ≤ p) (d : Nat) : PM (d + 6) 172 [.ref m] h (fun x h' => x = none ∧ ∃ p' b' n' fa' cs', pr_ h0 h' m o bs p' b' dp n' fa' cs' ks ∧ ((pBad (cuF bs 4).1 s ∧ ¬ fa' = -1 ∧ Rl bs s (lFa s) cs p p' n' fa' cs') ∨ (¬ pBad (cuF bs 4).1 s ∧ fa' = -1 ∧ Rl bs s (rsA (cuF bs 4).1 (cuF bs 4).2.2 (-1) s) cs p p' n' fa' cs'))) := by
  refine en_X12_part rfl ?_
  have H0 := P.c0
  have L4 := T.1
  have kp := skp_le (bs := bs) S.1
  have kk := skp_skp (bs := bs) S.1
  have sf := S.ff.mpr hf
  have kiE : kiF (cuF bs 4).1 s.1 = (cuF bs 4).1.getD s.1.1 (-1) := by
    unfold kiF
    rw [if_pos sf]
  simp only [w_X12_part_0, w_X12_part_1, pm_1i_c, pm_2i_c, pm_1l_c, pm_2l_c, pm_1a_c, pm_ia_c, pm_iia_c, pm_va_c, pm_cp_c, pm_k0_c, pm_k1_c, pm_k2_c, pm_k3_c, pm_s1_c, pm_s2_c, pm_s3_c, pm_s4_c, pm_ri_c, pm_ra_c, pm_rn_c, pm_rk_i, pm_rk_z, pm_rk_a, pm_vk_i, pm_vk_z, pm_vk_a, pm_cti, pm_ctr, pm_ldi_z, pm_ldi_s, pm_lda_z, pm_lda_s, pm_cat_n, pm_cat_i, pm_cat_r, pm_cat_l, pm_obj, pm_arr, pm_opt, pm_ird, pm_aln, List.getElem?_cons_zero, List.getElem?_cons_succ, List.set_cons_zero, List.set_cons_succ, List.length_cons, List.length_nil, List.length_set, true_and, and_true, Nat.add_zero, Nat.zero_add, Nat.le_refl, Nat.reduceAdd, Nat.reduceLT, Nat.reduceLeDiff, Nat.zero_le, not_false_eq_true, not_true_eq_false, false_implies, implies_true, true_implies, Nat.zero_lt_succ, Nat.lt_add_one, H0]
  refine PM_use (c_Y_hasFailed P (d + 4)) ?_
  rintro x hA lA ⟨rfl, rfl⟩
  simp only [if_pos hf]
  show W_X12_part _ _ _ _ _ _ _ _ _
  simp only [w_X12_part_4, w_X12_part_8, w_X12_part_9, pm_1i_c, pm_2i_c, pm_1l_c, pm_2l_c, pm_1a_c, pm_ia_c, pm_iia_c, pm_va_c, pm_cp_c, pm_k0_c, pm_k1_c, pm_k2_c, pm_k3_c, pm_s1_c, pm_s2_c, pm_s3_c, pm_s4_c, pm_ri_c, pm_ra_c, pm_rn_c, pm_rk_i, pm_rk_z, pm_rk_a, pm_vk_i, pm_vk_z, pm_vk_a, pm_cti, pm_ctr, pm_ldi_z, pm_ldi_s, pm_lda_z, pm_lda_s, pm_cat_n, pm_cat_i, pm_cat_r, pm_cat_l, pm_obj, pm_arr, pm_opt, pm_ird, pm_aln, List.getElem?_cons_zero, List.getElem?_cons_succ, List.set_cons_zero, List.set_cons_succ, List.length_cons, List.length_nil, List.length_set, true_and, and_true, Nat.add_zero, Nat.zero_add, Nat.le_refl, Nat.reduceAdd, Nat.reduceLT, Nat.reduceLeDiff, Nat.zero_le, not_false_eq_true, not_true_eq_false, false_implies, implies_true, true_implies, Nat.zero_lt_succ, Nat.lt_add_one, pm_tl_n, pm_tl_s, sc_uL, H0]
  refine PM_use (c_Y_blanks P T S.1 (d + 3)) ?_
  rintro x h1 l1 ⟨rfl, P1⟩
  have H1 := P1.c0
  have S1 := S.sk
  -- what failing at the token comes to
  have fl : ∀ p' cs' n', p ≤ p' → p' ≤ bs.length → cs'.length + p ≤ cs.length + p' → Rl bs s (lFa s) cs p p' n' (nI (skp bs p)) cs' := fun p' cs' n' e2 e3 e4 => by
    have K := S1.fl L4
    rw [if_pos hf, kk] at K
    obtain ⟨-, K2⟩ := K
    refine ⟨⟨e3, ?_⟩, e2, e4, fun z => absurd z (nI_ne1 (by omega))⟩
    rcases K2 with ⟨-, k2, -⟩ | k2
    · exact absurd k2 (nI_ne1 (by omega))
    · exact Or.inr k2
  have kiK := kd_nd T.2.1 (S.rt hf)
  by_cases c60 : n = 60
  · have c60' : nI n = 60 := by rw [c60]; rfl
    show W_X12_part _ _ _ _ _ _ _ _ _
    simp only [w_X12_part_12, w_X12_part_13, w_X12_part_16, w_X12_part_18, w_X12_part_21, w_X12_part_22, w_X12_part_23, w_X12_part_26, pm_1i_c, pm_2i_c, pm_1l_c, pm_2l_c, pm_1a_c, pm_ia_c, pm_iia_c, pm_va_c, pm_cp_c, pm_k0_c, pm_k1_c, pm_k2_c, pm_k3_c, pm_s1_c, pm_s2_c, pm_s3_c, pm_s4_c, pm_ri_c, pm_ra_c, pm_rn_c, pm_rk_i, pm_rk_z, pm_rk_a, pm_vk_i, pm_vk_z, pm_vk_a, pm_cti, pm_ctr, pm_ldi_z, pm_ldi_s, pm_lda_z, pm_lda_s, pm_cat_n, pm_cat_i, pm_cat_r, pm_cat_l, pm_obj, pm_arr, pm_opt, pm_ird, pm_aln, List.getElem?_cons_zero, List.getElem?_cons_succ, List.set_cons_zero, List.set_cons_succ, List.length_cons, List.length_nil, List.length_set, true_and, and_true, Nat.add_zero, Nat.zero_add, Nat.le_refl, Nat.reduceAdd, Nat.reduceLT, Nat.reduceLeDiff, Nat.zero_le, not_false_eq_true, not_true_eq_false, false_implies, implies_true, true_implies, Nat.zero_lt_succ, Nat.lt_add_one, pm_tl_n, pm_tl_s, sc_uL, H1, l1, c60']
    refine PM_use (c_Y_failsAt P1 (nI (skp bs p)) (d + 4)) ?_
    rintro x h3 l3 ⟨rfl, P3⟩
    rw [if_pos hf] at P3
    show W_X12_part _ _ _ _ _ _ _ _ _
    simp only [w_X12_part_29, pm_1i_c, pm_2i_c, pm_1l_c, pm_2l_c, pm_1a_c, pm_ia_c, pm_iia_c, pm_va_c, pm_cp_c, pm_k0_c, pm_k1_c, pm_k2_c, pm_k3_c, pm_s1_c, pm_s2_c, pm_s3_c, pm_s4_c, pm_ri_c, pm_ra_c, pm_rn_c, pm_rk_i, pm_rk_z, pm_rk_a, pm_vk_i, pm_vk_z, pm_vk_a, pm_cti, pm_ctr, pm_ldi_z, pm_ldi_s, pm_lda_z, pm_lda_s, pm_cat_n, pm_cat_i, pm_cat_r, pm_cat_l, pm_obj, pm_arr, pm_opt, pm_ird, pm_aln, List.getElem?_cons_zero, List.getElem?_cons_succ, List.set_cons_zero, List.set_cons_succ, List.length_cons, List.length_nil, List.length_set, true_and, and_true, Nat.add_zero, Nat.zero_add, Nat.le_refl, Nat.reduceAdd, Nat.reduceLT, Nat.reduceLeDiff, Nat.zero_le, not_false_eq_true, not_true_eq_false, false_implies, implies_true, true_implies, Nat.zero_lt_succ, Nat.lt_add_one, pm_tl_n, pm_tl_s, sc_uL, l3, l1]
    exact ⟨_, _, _, _, _, P3, Or.inl ⟨Or.inr (by omega), nI_ne1 (by omega), fl _ _ _ kp.1 kp.2 (by omega)⟩⟩
  · have c60' : ¬ nI n = 60 := fun z => c60 ((nI_inj (b := 60) (by omega) (by omega)).mp z)
    obtain ⟨h2, E, l2, P2⟩ := P1.uf (skp bs p) (skp bs p) dp (n + 1) fa
    have l2' : h2.length = hA.length := l2.trans l1
    show W_X12_part _ _ _ _ _ _ _ _ _
    simp only [w_X12_part_12, w_X12_part_13, w_X12_part_16, w_X12_part_18, w_X12_part_21, w_X12_part_22, w_X12_part_23, w_X12_part_26, w_X12_part_29, w_X12_part_30, w_X12_part_31, w_X12_part_32, w_X12_part_35, w_X12_part_36, w_X12_part_37, pm_1i_c, pm_2i_c, pm_1l_c, pm_2l_c, pm_1a_c, pm_ia_c, pm_iia_c, pm_va_c, pm_cp_c, pm_k0_c, pm_k1_c, pm_k2_c, pm_k3_c, pm_s1_c, pm_s2_c, pm_s3_c, pm_s4_c, pm_ri_c, pm_ra_c, pm_rn_c, pm_rk_i, pm_rk_z, pm_rk_a, pm_vk_i, pm_vk_z, pm_vk_a, pm_cti, pm_ctr, pm_ldi_z, pm_ldi_s, pm_lda_z, pm_lda_s, pm_cat_n, pm_cat_i, pm_cat_r, pm_cat_l, pm_obj, pm_arr, pm_opt, pm_ird, pm_aln, List.getElem?_cons_zero, List.getElem?_cons_succ, List.set_cons_zero, List.set_cons_succ, List.length_cons, List.length_nil, List.length_set, true_and, and_true, Nat.add_zero, Nat.zero_add, Nat.le_refl, Nat.reduceAdd, Nat.reduceLT, Nat.reduceLeDiff, Nat.zero_le, not_false_eq_true, not_true_eq_false, false_implies, implies_true, true_implies, Nat.zero_lt_succ, Nat.lt_add_one, pm_tl_n, pm_tl_s, sc_uL, H1, l1, c60', nI_1]
    rw [E]
    have H2 := P2.c0
    simp only [w_X12_part_40, w_X12_part_41, pm_1i_c, pm_2i_c, pm_1l_c, pm_2l_c, pm_1a_c, pm_ia_c, pm_iia_c, pm_va_c, pm_cp_c, pm_k0_c, pm_k1_c, pm_k2_c, pm_k3_c, pm_s1_c, pm_s2_c, pm_s3_c, pm_s4_c, pm_ri_c, pm_ra_c, pm_rn_c, pm_rk_i, pm_rk_z, pm_rk_a, pm_vk_i, pm_vk_z, pm_vk_a, pm_cti, pm_ctr, pm_ldi_z, pm_ldi_s, pm_lda_z, pm_lda_s, pm_cat_n, pm_cat_i, pm_cat_r, pm_cat_l, pm_obj, pm_arr, pm_opt, pm_ird, pm_aln, List.getElem?_cons_zero, List.getElem?_cons_succ, List.set_cons_zero, List.set_cons_succ, List.length_cons, List.length_nil, List.length_set, true_and, and_true, Nat.add_zero, Nat.zero_add, Nat.le_refl, Nat.reduceAdd, Nat.reduceLT, Nat.reduceLeDiff, Nat.zero_le, not_false_eq_true, not_true_eq_false, false_implies, implies_true, true_implies, Nat.zero_lt_succ, Nat.lt_add_one, H2, l2']
    refine PM_use (c_Y_isNumber P2 T kp.2 (d + 2)) ?_
    rintro x h3 l3 ⟨rfl, P3⟩
    rw [kk] at P3
    rw [kk, decide_eq_true hf, Bool.true_and]
    have H3 := P3.c0
    have ad := atV_d T.2.1 (skp bs p)
    by_cases cd : atV bs (skp bs p) 48 57 = true
    · -- a number
      obtain ⟨cl, cd2⟩ := ad.mp cd
      rw [if_pos cd]
      show W_X12_part _ _ _ _ _ _ _ _ _
      simp only [w_X12_part_44, w_X12_part_47, w_X12_part_48, w_X12_part_51, w_X12_part_52, w_X12_part_53, w_X12_part_54, w_X12_part_57, pm_1i_c, pm_2i_c, pm_1l_c, pm_2l_c, pm_1a_c, pm_ia_c, pm_iia_c, pm_va_c, pm_cp_c, pm_k0_c, pm_k1_c, pm_k2_c, pm_k3_c, pm_s1_c, pm_s2_c, pm_s3_c, pm_s4_c, pm_ri_c, pm_ra_c, pm_rn_c, pm_rk_i, pm_rk_z, pm_rk_a, pm_vk_i, pm_vk_z, pm_vk_a, pm_cti, pm_ctr, pm_ldi_z, pm_ldi_s, pm_lda_z, pm_lda_s, pm_cat_n, pm_cat_i, pm_cat_r, pm_cat_l, pm_obj, pm_arr, pm_opt, pm_ird, pm_aln, List.getElem?_cons_zero, List.getElem?_cons_succ, List.set_cons_zero, List.set_cons_succ, List.length_cons, List.length_nil, List.length_set, true_and, and_true, Nat.add_zero, Nat.zero_add, Nat.le_refl, Nat.reduceAdd, Nat.reduceLT, Nat.reduceLeDiff, Nat.zero_le, not_false_eq_true, not_true_eq_false, false_implies, implies_true, true_implies, Nat.zero_lt_succ, Nat.lt_add_one, pm_tl_n, pm_tl_s, sc_uL, H3, l3, l2', show ¬ (1 : Int32) = 0 by decide]
      refine PM_use (c_Y_number P3 T kp.2 hf (many := 4) (by omega) 0 9999 (d + 2)) ?_
      rintro x h4 l4 ⟨y, rfl, y1, P4⟩
      rw [kk] at y1 P4
      have l4' : h4.length = hA.length := l4.trans (l3.trans l2')
      obtain ⟨b1, b2, b3, b4⟩ := beR_stop isD (bs.length - skp bs p) (skp bs p) rfl kp.2
      have be := beR_lt isD cl cd2
      have H4 := P4.c0
      obtain ⟨a1, a2, a3, a4, a5, a6⟩ := RT_num (S.rt hf) cl cd2
      show W_X12_part _ _ _ _ _ _ _ _ _
      simp only [w_X12_part_60, w_X12_part_61, pm_1i_c, pm_2i_c, pm_1l_c, pm_2l_c, pm_1a_c, pm_ia_c, pm_iia_c, pm_va_c, pm_cp_c, pm_k0_c, pm_k1_c, pm_k2_c, pm_k3_c, pm_s1_c, pm_s2_c, pm_s3_c, pm_s4_c, pm_ri_c, pm_ra_c, pm_rn_c, pm_rk_i, pm_rk_z, pm_rk_a, pm_vk_i, pm_vk_z, pm_vk_a, pm_cti, pm_ctr, pm_ldi_z, pm_ldi_s, pm_lda_z, pm_lda_s, pm_cat_n, pm_cat_i, pm_cat_r, pm_cat_l, pm_obj, pm_arr, pm_opt, pm_ird, pm_aln, List.getElem?_cons_zero, List.getElem?_cons_succ, List.set_cons_zero, List.set_cons_succ, List.length_cons, List.length_nil, List.length_set, true_and, and_true, Nat.add_zero, Nat.zero_add, Nat.le_refl, Nat.reduceAdd, Nat.reduceLT, Nat.reduceLeDiff, Nat.zero_le, not_false_eq_true, not_true_eq_false, false_implies, implies_true, true_implies, Nat.zero_lt_succ, Nat.lt_add_one, pm_tl_n, pm_tl_s, sc_uL, H4, l4']
      refine PM_use (c_Y_codes P4 (1000 + y) (by omega) (d + 4)) ?_
      rintro x h5 l5 ⟨rfl, P5⟩
      show W_X12_part _ _ _ _ _ _ _ _ _
      simp only [w_X12_part_64, pm_1i_c, pm_2i_c, pm_1l_c, pm_2l_c, pm_1a_c, pm_ia_c, pm_iia_c, pm_va_c, pm_cp_c, pm_k0_c, pm_k1_c, pm_k2_c, pm_k3_c, pm_s1_c, pm_s2_c, pm_s3_c, pm_s4_c, pm_ri_c, pm_ra_c, pm_rn_c, pm_rk_i, pm_rk_z, pm_rk_a, pm_vk_i, pm_vk_z, pm_vk_a, pm_cti, pm_ctr, pm_ldi_z, pm_ldi_s, pm_lda_z, pm_lda_s, pm_cat_n, pm_cat_i, pm_cat_r, pm_cat_l, pm_obj, pm_arr, pm_opt, pm_ird, pm_aln, List.getElem?_cons_zero, List.getElem?_cons_succ, List.set_cons_zero, List.set_cons_succ, List.length_cons, List.length_nil, List.length_set, true_and, and_true, Nat.add_zero, Nat.zero_add, Nat.le_refl, Nat.reduceAdd, Nat.reduceLT, Nat.reduceLeDiff, Nat.zero_le, not_false_eq_true, not_true_eq_false, false_implies, implies_true, true_implies, Nat.zero_lt_succ, Nat.lt_add_one, pm_tl_n, pm_tl_s, sc_uL, l5, l4']
      refine ⟨_, _, _, _, _, P5, ?_⟩
      unfold nmB
      rw [kk]
      have lc : (cs ++ [1000 + y]).length = cs.length + 1 := by rw [List.length_append]; rfl
      by_cases c4 : beR isD bs (skp bs p) - skp bs p ≤ 4
      · obtain ⟨v, v1, v2⟩ := nuG_ok (bs := bs) (beR isD bs (skp bs p) - skp bs p) (skp bs p) 0 (fun j x y => b3 j x (by omega))
        have v3 : nuF bs (skp bs p) (beR isD bs (skp bs p)) = nI v := v2
        have v4 : v < 10000 := by
          have : (10 : Nat) ^ (beR isD bs (skp bs p) - skp bs p) ≤ 10 ^ 4 := Nat.pow_le_pow_right (by omega) c4
          omega
        have c4' : ¬ (4 : Int32) < nI (beR isD bs (skp bs p) - skp bs p) := nI_nlt (a := 4) (by omega) (by omega)
        rw [if_neg c4'] at a2 a5
        have iv : inB (nI v) 0 9999 = true := by
          unfold inB
          rw [decide_eq_true_eq]
          exact ⟨nI_nlt (b := 0) (by omega) (by omega), nI_nlt (a := 9999) (by omega) (by omega)⟩
        rw [v3, iv, decide_eq_true ⟨by omega, c4⟩, Bool.and_self, if_pos rfl]
        have kt : taB (cuF bs 4).1 267 s.1 = true := by
          unfold taB
          exact decide_eq_true ⟨sf, a2⟩
        have nv : isVf (kiF (cuF bs 4).1 s.1) = false := by
          rw [kiE, a2]
          rfl
        have er : rsA (cuF bs 4).1 (cuF bs 4).2.2 (-1) s = ((s.1.1 + 1, s.1.2), s.2.1 + 1, s.2.2 ++ [16 + nI v]) := by
          have e1 : nnV (cuF bs 4).1 (cuF bs 4).2.2 s.1 = nI v := by
            unfold nnV
            rw [if_pos kt, a5, v3]
          have e2 : neF (cuF bs 4).1 267 s.1 = (s.1.1 + 1, s.1.2) := by
            unfold neF
            rw [if_pos kt]
          unfold rsA
          rw [nv]
          show (lSt (16 + nnV (cuF bs 4).1 (cuF bs 4).2.2 s.1) (lNd (cuF bs 4).1 267 (lPa s))) = _
          rw [e1]
          show ((neF (cuF bs 4).1 267 s.1, s.2.1 + 1, s.2.2 ++ [16 + nI v]) : LZ) = _
          rw [e2]
        refine Or.inr ⟨fun z => ?_, rfl, ?_⟩
        · rcases z with z | z
          · rw [kiE] at z
            exact z.2 a2
          · omega
        · rw [er]
          refine ⟨⟨by omega, Or.inl ⟨sf, rfl, a6⟩⟩, by omega, by omega, fun _ => ⟨by omega, Nat.lt_succ_self _, by rw [hn], by omega, [16 + nI v], [1000 + y], 1, rfl, rfl, by rw [hn], ?_⟩⟩
          rw [y1 c4, v3]
          exact FrP_num v4
      · have c4' : (4 : Int32) < nI (beR isD bs (skp bs p) - skp bs p) := nI_lt (a := 4) (by omega) (by omega)
        rw [if_pos c4'] at a2
        rw [decide_eq_false (fun z => c4 z.2), Bool.false_and, if_neg (by decide)]
        refine Or.inl ⟨Or.inl ?_, nI_ne1 (by omega), fl _ _ _ (by omega) b2 (by omega)⟩
        rw [kiE, a2]
        exact ⟨rfl, by decide⟩
    · rw [if_neg cd]
      show W_X12_part _ _ _ _ _ _ _ _ _
      simp only [w_X12_part_44, w_X12_part_65, w_X12_part_66, pm_1i_c, pm_2i_c, pm_1l_c, pm_2l_c, pm_1a_c, pm_ia_c, pm_iia_c, pm_va_c, pm_cp_c, pm_k0_c, pm_k1_c, pm_k2_c, pm_k3_c, pm_s1_c, pm_s2_c, pm_s3_c, pm_s4_c, pm_ri_c, pm_ra_c, pm_rn_c, pm_rk_i, pm_rk_z, pm_rk_a, pm_vk_i, pm_vk_z, pm_vk_a, pm_cti, pm_ctr, pm_ldi_z, pm_ldi_s, pm_lda_z, pm_lda_s, pm_cat_n, pm_cat_i, pm_cat_r, pm_cat_l, pm_obj, pm_arr, pm_opt, pm_ird, pm_aln, List.getElem?_cons_zero, List.getElem?_cons_succ, List.set_cons_zero, List.set_cons_succ, List.length_cons, List.length_nil, List.length_set, true_and, and_true, Nat.add_zero, Nat.zero_add, Nat.le_refl, Nat.reduceAdd, Nat.reduceLT, Nat.reduceLeDiff, Nat.zero_le, not_false_eq_true, not_true_eq_false, false_implies, implies_true, true_implies, Nat.zero_lt_succ, Nat.lt_add_one, pm_tl_n, pm_tl_s, sc_uL, H3, l3, l2']
      refine PM_use (c_Y_fact P3 T S1 hf d) ?_
      rintro x h4 l4 ⟨y, p4, b4, rfl, P4, le4, K⟩
      have l4' : h4.length = hA.length := l4.trans (l3.trans l2')
      have H4 := P4.c0
      obtain ⟨k267, kv⟩ := kiK (fun z => cd (ad.mpr z))
      rcases K with ⟨i, i8, rfl, tb, S4, lt4⟩ | ⟨rfl, tb, S4, eb, ep⟩
      · have y1 : ¬ nI i = -1 := nI_ne1 (by omega)
        show W_X12_part _ _ _ _ _ _ _ _ _
        simp only [w_X12_part_69, w_X12_part_70, w_X12_part_71, w_X12_part_72, w_X12_part_86, w_X12_part_87, w_X12_part_88, pm_1i_c, pm_2i_c, pm_1l_c, pm_2l_c, pm_1a_c, pm_ia_c, pm_iia_c, pm_va_c, pm_cp_c, pm_k0_c, pm_k1_c, pm_k2_c, pm_k3_c, pm_s1_c, pm_s2_c, pm_s3_c, pm_s4_c, pm_ri_c, pm_ra_c, pm_rn_c, pm_rk_i, pm_rk_z, pm_rk_a, pm_vk_i, pm_vk_z, pm_vk_a, pm_cti, pm_ctr, pm_ldi_z, pm_ldi_s, pm_lda_z, pm_lda_s, pm_cat_n, pm_cat_i, pm_cat_r, pm_cat_l, pm_obj, pm_arr, pm_opt, pm_ird, pm_aln, List.getElem?_cons_zero, List.getElem?_cons_succ, List.set_cons_zero, List.set_cons_succ, List.length_cons, List.length_nil, List.length_set, true_and, and_true, Nat.add_zero, Nat.zero_add, Nat.le_refl, Nat.reduceAdd, Nat.reduceLT, Nat.reduceLeDiff, Nat.zero_le, not_false_eq_true, not_true_eq_false, false_implies, implies_true, true_implies, Nat.zero_lt_succ, Nat.lt_add_one, pm_tl_n, pm_tl_s, sc_uL, H4, l4', y1]
        refine PM_use (c_Y_codes P4 (nI i) (by omega) (d + 4)) ?_
        rintro x h5 l5 ⟨rfl, P5⟩
        show W_X12_part _ _ _ _ _ _ _ _ _
        simp only [w_X12_part_91, pm_1i_c, pm_2i_c, pm_1l_c, pm_2l_c, pm_1a_c, pm_ia_c, pm_iia_c, pm_va_c, pm_cp_c, pm_k0_c, pm_k1_c, pm_k2_c, pm_k3_c, pm_s1_c, pm_s2_c, pm_s3_c, pm_s4_c, pm_ri_c, pm_ra_c, pm_rn_c, pm_rk_i, pm_rk_z, pm_rk_a, pm_vk_i, pm_vk_z, pm_vk_a, pm_cti, pm_ctr, pm_ldi_z, pm_ldi_s, pm_lda_z, pm_lda_s, pm_cat_n, pm_cat_i, pm_cat_r, pm_cat_l, pm_obj, pm_arr, pm_opt, pm_ird, pm_aln, List.getElem?_cons_zero, List.getElem?_cons_succ, List.set_cons_zero, List.set_cons_succ, List.length_cons, List.length_nil, List.length_set, true_and, and_true, Nat.add_zero, Nat.zero_add, Nat.le_refl, Nat.reduceAdd, Nat.reduceLT, Nat.reduceLeDiff, Nat.zero_le, not_false_eq_true, not_true_eq_false, false_implies, implies_true, true_implies, Nat.zero_lt_succ, Nat.lt_add_one, pm_tl_n, pm_tl_s, sc_uL, l5, l4']
        have tb2 := tb
        unfold taB at tb2
        rw [decide_eq_true_eq] at tb2
        have ke : kiF (cuF bs 4).1 s.1 = nI (256 + i) := by rw [kiE, tb2.2]
        have vf : isVf (nI (256 + i)) = true := by
          unfold isVf
          exact decide_eq_true ⟨nI_nlt (b := 256) (by omega) (by omega), nI_lt (b := 264) (by omega) (by omega)⟩
        have km : nI (256 + i) - 256 = nI i := by
          rw [show (256 : Int32) = nI 256 from rfl, pk_sub (by omega)]
          exact congrArg nI (by omega)
        have er : rsA (cuF bs 4).1 (cuF bs 4).2.2 (-1) s = ((s.1.1 + 1, s.1.2), s.2.1 + 1, s.2.2 ++ [nI i]) := by
          have e2 : neF (cuF bs 4).1 (nI (256 + i)) s.1 = (s.1.1 + 1, s.1.2) := by
            unfold neF
            rw [if_pos tb]
          unfold rsA
          rw [ke, vf]
          show (lSt (nI (256 + i) - 256) (lNd (cuF bs 4).1 (nI (256 + i)) (lPa s))) = _
          rw [km]
          show ((neF (cuF bs 4).1 (nI (256 + i)) s.1, s.2.1 + 1, s.2.2 ++ [nI i]) : LZ) = _
          rw [e2]
        have lc : (cs ++ [nI i]).length = cs.length + 1 := by rw [List.length_append]; rfl
        have et : taF (cuF bs 4).1 (nI (256 + i)) s.1 = (s.1.1 + 1, s.1.2) := by
          unfold taF
          rw [if_pos tb]
        rw [et] at S4
        refine ⟨_, _, _, _, _, P5, Or.inr ⟨fun z => ?_, hf, ?_⟩⟩
        · rcases z with z | z
          · rw [ke, vf] at z
            exact absurd z.1 (by decide)
          · omega
        · rw [er]
          exact ⟨S4, by omega, by omega, fun _ => ⟨by omega, Nat.lt_succ_self _, by rw [hn], by omega, [nI i], [nI i], 1, rfl, rfl, by rw [hn], FrP_fact i8⟩⟩
      · show W_X12_part _ _ _ _ _ _ _ _ _
        simp only [w_X12_part_69, w_X12_part_70, w_X12_part_71, w_X12_part_72, w_X12_part_75, w_X12_part_76, w_X12_part_77, w_X12_part_80, pm_1i_c, pm_2i_c, pm_1l_c, pm_2l_c, pm_1a_c, pm_ia_c, pm_iia_c, pm_va_c, pm_cp_c, pm_k0_c, pm_k1_c, pm_k2_c, pm_k3_c, pm_s1_c, pm_s2_c, pm_s3_c, pm_s4_c, pm_ri_c, pm_ra_c, pm_rn_c, pm_rk_i, pm_rk_z, pm_rk_a, pm_vk_i, pm_vk_z, pm_vk_a, pm_cti, pm_ctr, pm_ldi_z, pm_ldi_s, pm_lda_z, pm_lda_s, pm_cat_n, pm_cat_i, pm_cat_r, pm_cat_l, pm_obj, pm_arr, pm_opt, pm_ird, pm_aln, List.getElem?_cons_zero, List.getElem?_cons_succ, List.set_cons_zero, List.set_cons_succ, List.length_cons, List.length_nil, List.length_set, true_and, and_true, Nat.add_zero, Nat.zero_add, Nat.le_refl, Nat.reduceAdd, Nat.reduceLT, Nat.reduceLeDiff, Nat.zero_le, not_false_eq_true, not_true_eq_false, false_implies, implies_true, true_implies, Nat.zero_lt_succ, Nat.lt_add_one, pm_tl_n, pm_tl_s, sc_uL, H4, l4']
        refine PM_use (c_Y_failsAt P4 (nI b4) (d + 4)) ?_
        rintro x h5 l5 ⟨rfl, P5⟩
        rw [if_pos hf, eb, ep, kk] at P5
        show W_X12_part _ _ _ _ _ _ _ _ _
        simp only [w_X12_part_83, w_X12_part_91, pm_1i_c, pm_2i_c, pm_1l_c, pm_2l_c, pm_1a_c, pm_ia_c, pm_iia_c, pm_va_c, pm_cp_c, pm_k0_c, pm_k1_c, pm_k2_c, pm_k3_c, pm_s1_c, pm_s2_c, pm_s3_c, pm_s4_c, pm_ri_c, pm_ra_c, pm_rn_c, pm_rk_i, pm_rk_z, pm_rk_a, pm_vk_i, pm_vk_z, pm_vk_a, pm_cti, pm_ctr, pm_ldi_z, pm_ldi_s, pm_lda_z, pm_lda_s, pm_cat_n, pm_cat_i, pm_cat_r, pm_cat_l, pm_obj, pm_arr, pm_opt, pm_ird, pm_aln, List.getElem?_cons_zero, List.getElem?_cons_succ, List.set_cons_zero, List.set_cons_succ, List.length_cons, List.length_nil, List.length_set, true_and, and_true, Nat.add_zero, Nat.zero_add, Nat.le_refl, Nat.reduceAdd, Nat.reduceLT, Nat.reduceLeDiff, Nat.zero_le, not_false_eq_true, not_true_eq_false, false_implies, implies_true, true_implies, Nat.zero_lt_succ, Nat.lt_add_one, pm_tl_n, pm_tl_s, sc_uL, l5, l4']
        refine ⟨_, _, _, _, _, P5, Or.inl ⟨Or.inl ?_, nI_ne1 (by omega), fl _ _ _ kp.1 kp.2 (by omega)⟩⟩
        rw [kiE]
        refine ⟨?_, k267⟩
        cases z : isVf ((cuF bs 4).1.getD s.1.1 (-1)) with
        | false => rfl
        | true =>
          obtain ⟨i, i8, ei⟩ := kv z
          have := tb i i8
          unfold taB at this
          rw [decide_eq_false_iff_not] at this
          exact absurd ⟨sf, ei⟩ this
end ML
