/-! AdmissionDeskModel: fitting the parts. -/
section MI
variable {h h' : pmH} {m : Nat} {o : Nat → Int32} {A A' : AD}
theorem colS_s (B : AD) (n : Nat) : colS B (n + 1) = if (colS B n).2.1 = -1 ∨ colE B n < (colS B n).2.2 then ((colP B n).1, nI (colP B n).2, colE B n) else colS B n := rfl
theorem colP_ok (B : AD) {t : Nat} (ht : t < (li B 2).length + (li B 3).length) : (colP B t).2 < (li B (colP B t).1).length ∧ ((colP B t).1 = 2 ∨ (colP B t).1 = 3) := by
  unfold colP
  by_cases c : t < (li B 2).length
  · rw [if_pos c]
    exact ⟨show (li B 2).length - 1 - t < (li B 2).length by omega, Or.inl rfl⟩
  · rw [if_neg c]
    exact ⟨show (li B 2).length + (li B 3).length - 1 - t < (li B 3).length by omega, Or.inr rfl⟩
theorem colS_ok (B : AD) : ∀ t, 0 < t → t ≤ (li B 2).length + (li B 3).length → ((colS B t).1 = 2 ∨ (colS B t).1 = 3) ∧ ∃ k, k < (li B (colS B t).1).length ∧ (colS B t).2.1 = nI k
  | 0, h0, _ => absurd h0 (Nat.lt_irrefl _)
  | t + 1, _, ht => by
    obtain ⟨p1, p2⟩ := colP_ok B (show t < (li B 2).length + (li B 3).length by omega)
    rw [colS_s]
    split
    · exact ⟨p2, _, p1, rfl⟩
    · rename_i c
      cases t with
      | zero => exact absurd (Or.inl rfl) c
      | succ t => exact colS_ok B (t + 1) (by omega) (by omega)
/-- the three numbers of the search, as the model holds them -/
def coX (B : AD) (t : Nat) : Int32 := if (colS B t).2.1 = -1 then -1 else nI (colS B t).1
def coY (B : AD) (t : Nat) : Int32 := if (colS B t).2.1 = -1 then 0 else (colS B t).2.1
theorem coX_m (B : AD) (t : Nat) (ht : t ≤ (li B 2).length + (li B 3).length) : coX B t = -1 ↔ (colS B t).2.1 = -1 := by
  unfold coX
  by_cases c : (colS B t).2.1 = -1
  · rw [if_pos c]
    exact ⟨fun _ => c, fun _ => rfl⟩
  · rw [if_neg c]
    refine ⟨fun e => ?_, fun e => absurd e c⟩
    cases t with
    | zero => exact rfl
    | succ t =>
      obtain ⟨q, -⟩ := colS_ok B (t + 1) (by omega) ht
      rcases q with q | q <;> rw [q] at e <;> exact absurd e (by decide)
theorem drpF_e (B : AD) {q k : Nat} (e1 : (colS B ((li B 2).length + (li B 3).length)).1 = q) (e2 : (colS B ((li B 2).length + (li B 3).length)).2.1 = nI k) (hk : k < 2 ^ 31) : drpF B = gnF (uL B q ((li B q).eraseIdx k)) ((li B q).getD k (-1)) := by
  unfold drpF drpG
  rw [e1, e2, if_neg (nI_pos hk), nI_clamp hk, rw_getN hk]
set_option maxHeartbeats 2000000 in
theorem c_M_fits (H : md_ h m o A) (W : wdV A) (V : shV A) (ht : tot A ≤ 64) (d : Nat) : PM (d + 5) 205 [.ref m] h (fun v h' => v = none ∧ md_ h' m o (fitF A) ∧ fr1 h h' (m + 1)) := by
  have scan : ∀ (B : AD) (g : pmH), md_ g m o B → wdV B → (li B 2).length + (li B 3).length ≤ 64 → ∀ (Nx : Nat) (Q : pmQ), Nx = g.length → ∀ p, (p = 2 ∨ p = 3) → (∀ (x5 x6 : Option Value) (p' : Nat), p' = p + 1 → W_X12_fits (d + 4) Nx 0 Q 72 [some (.ref m), some (.int (coX B (if p = 2 then (li B 2).length else (li B 2).length + (li B 3).length))), some (.int (coY B (if p = 2 then (li B 2).length else (li B 2).length + (li B 3).length))), some (.int (colS B (if p = 2 then (li B 2).length else (li B 2).length + (li B 3).length)).2.2), some (.int (nI p')), x5, x6] [] g 0) → ∀ r, r ≤ (li B p).length → ∀ (x6 : Option Value) (t : Nat), t + r = (if p = 2 then (li B 2).length else (li B 2).length + (li B 3).length) → W_X12_fits (d + 4) Nx 0 Q 88 [some (.ref m), some (.int (coX B t)), some (.int (coY B t)), some (.int (colS B t).2.2), some (.int (nI p)), some (.int (nI r - 1)), x6] [] g 0 := by
    intro B g HB WB hB Nx Q hNx p hp kont r
    subst hNx
    have H0 := HB.1
    unfold mO at H0
    have p1 : 1 ≤ p := by omega
    have p3 : p ≤ 3 := by omega
    induction r with
    | zero =>
      intro _ x6 t htr
      have e1 : nI 0 - 1 < 0 := by decide
      rw [w_X12_fits_88]
      simp only [w_X12_fits_90, w_X12_fits_136, w_X12_fits_139, pm_1i_c, pm_2i_c, pm_1l_c, pm_2l_c, pm_1a_c, pm_ia_c, pm_iia_c, pm_va_c, pm_cp_c, pm_k0_c, pm_k1_c, pm_k2_c, pm_k3_c, pm_s1_c, pm_s2_c, pm_s3_c, pm_s4_c, pm_ri_c, pm_ra_c, pm_rn_c, pm_rk_i, pm_rk_z, pm_rk_a, pm_vk_i, pm_vk_z, pm_vk_a, pm_cti, pm_ctr, pm_ldi_z, pm_ldi_s, pm_lda_z, pm_lda_s, pm_cat_n, pm_cat_i, pm_cat_r, pm_cat_l, pm_obj, pm_arr, pm_opt, pm_ird, pm_aln, List.getElem?_cons_zero, List.getElem?_cons_succ, List.set_cons_zero, List.set_cons_succ, List.length_cons, List.length_nil, List.length_set, true_and, and_true, Nat.add_zero, Nat.zero_add, Nat.le_refl, Nat.reduceAdd, Nat.reduceLT, Nat.reduceLeDiff, Nat.zero_le, not_false_eq_true, not_true_eq_false, false_implies, implies_true, true_implies, Nat.zero_lt_succ, Nat.lt_add_one, e1, nI_1]
      have := kont (some (.int (nI 0 - 1))) x6 (p + 1) rfl
      rw [← htr] at this
      exact this
    | succ r ih =>
      intro hr x6 t htr
      have e0 : nI (r + 1) - 1 = nI r := nI_pred r
      have lp : (li B p).length ≤ 64 := by rcases hp with e | e <;> rw [e] <;> omega
      have e1 : ¬ nI r < 0 := nI_pos (by omega)
      have e2 : nI r + -1 = nI r - 1 := nIinc _
      have tl : t < (li B 2).length + (li B 3).length := by
        rcases hp with e | e
        · rw [e, if_pos rfl] at htr
          omega
        · rw [e, if_neg (by omega)] at htr
          omega
      have cP : colP B t = (p, r) := by
        unfold colP
        rcases hp with e | e
        · rw [e, if_pos rfl] at htr
          rw [if_pos (by omega), e]
          congr 1
          omega
        · rw [e, if_neg (by omega)] at htr
          rw [e] at hr
          rw [if_neg (by omega), e]
          congr 1
          omega
      have cE : colE B t = estF B ((li B p).getD r (-1)) := by
        unfold colE
        rw [cP]
      have cS := colS_s B t
      rw [cP] at cS
      have I := ih (by omega) (some (.int (colE B t))) (t + 1) (by omega)
      rw [w_X12_fits_88]
      rw [e0]
      simp only [w_X12_fits_90, w_X12_fits_93, w_X12_fits_94, w_X12_fits_95, w_X12_fits_97, w_X12_fits_99, pm_1i_c, pm_2i_c, pm_1l_c, pm_2l_c, pm_1a_c, pm_ia_c, pm_iia_c, pm_va_c, pm_cp_c, pm_k0_c, pm_k1_c, pm_k2_c, pm_k3_c, pm_s1_c, pm_s2_c, pm_s3_c, pm_s4_c, pm_ri_c, pm_ra_c, pm_rn_c, pm_rk_i, pm_rk_z, pm_rk_a, pm_vk_i, pm_vk_z, pm_vk_a, pm_cti, pm_ctr, pm_ldi_z, pm_ldi_s, pm_lda_z, pm_lda_s, pm_cat_n, pm_cat_i, pm_cat_r, pm_cat_l, pm_obj, pm_arr, pm_opt, pm_ird, pm_aln, List.getElem?_cons_zero, List.getElem?_cons_succ, List.set_cons_zero, List.set_cons_succ, List.length_cons, List.length_nil, List.length_set, true_and, and_true, Nat.add_zero, Nat.zero_add, Nat.le_refl, Nat.reduceAdd, Nat.reduceLT, Nat.reduceLeDiff, Nat.zero_le, not_false_eq_true, not_true_eq_false, false_implies, implies_true, true_implies, Nat.zero_lt_succ, Nat.lt_add_one, e1, H0]
      refine PM_use (c_M_keyAt HB p1 p3 (show r < (li B p).length by omega) (d + 2)) ?_
      rintro x g1 k1 ⟨rfl, rfl⟩
      show W_X12_fits _ _ _ _ _ _ _ _ _
      simp only [w_X12_fits_102, pm_1i_c, pm_2i_c, pm_1l_c, pm_2l_c, pm_1a_c, pm_ia_c, pm_iia_c, pm_va_c, pm_cp_c, pm_k0_c, pm_k1_c, pm_k2_c, pm_k3_c, pm_s1_c, pm_s2_c, pm_s3_c, pm_s4_c, pm_ri_c, pm_ra_c, pm_rn_c, pm_rk_i, pm_rk_z, pm_rk_a, pm_vk_i, pm_vk_z, pm_vk_a, pm_cti, pm_ctr, pm_ldi_z, pm_ldi_s, pm_lda_z, pm_lda_s, pm_cat_n, pm_cat_i, pm_cat_r, pm_cat_l, pm_obj, pm_arr, pm_opt, pm_ird, pm_aln, List.getElem?_cons_zero, List.getElem?_cons_succ, List.set_cons_zero, List.set_cons_succ, List.length_cons, List.length_nil, List.length_set, true_and, and_true, Nat.add_zero, Nat.zero_add, Nat.le_refl, Nat.reduceAdd, Nat.reduceLT, Nat.reduceLeDiff, Nat.zero_le, not_false_eq_true, not_true_eq_false, false_implies, implies_true, true_implies, Nat.zero_lt_succ, Nat.lt_add_one, pm_tl_n, pm_tl_s, sc_uL, H0]
      refine PM_use (c_M_estimateOf HB WB ((li B p).getD r (-1)) d) ?_
      rintro x g1 k2 ⟨rfl, rfl⟩
      rw [← cE]
      have mm := coX_m B t (by omega)
      by_cases c1 : coX B t = -1
      · rw [if_pos (Or.inl (mm.mp c1))] at cS
        have x1 : coX B (t + 1) = nI p := by
          unfold coX
          rw [cS]
          exact if_neg (nI_ne1 (by omega))
        have x2 : coY B (t + 1) = nI r := by
          unfold coY
          rw [cS]
          exact if_neg (nI_ne1 (by omega))
        rw [x1, x2, cS] at I
        show W_X12_fits _ _ _ _ _ _ _ _ _
        simp only [w_X12_fits_105, w_X12_fits_107, w_X12_fits_108, w_X12_fits_109, w_X12_fits_112, w_X12_fits_114, w_X12_fits_115, w_X12_fits_118, w_X12_fits_121, w_X12_fits_123, w_X12_fits_124, w_X12_fits_126, w_X12_fits_127, w_X12_fits_129, w_X12_fits_130, w_X12_fits_133, pm_1i_c, pm_2i_c, pm_1l_c, pm_2l_c, pm_1a_c, pm_ia_c, pm_iia_c, pm_va_c, pm_cp_c, pm_k0_c, pm_k1_c, pm_k2_c, pm_k3_c, pm_s1_c, pm_s2_c, pm_s3_c, pm_s4_c, pm_ri_c, pm_ra_c, pm_rn_c, pm_rk_i, pm_rk_z, pm_rk_a, pm_vk_i, pm_vk_z, pm_vk_a, pm_cti, pm_ctr, pm_ldi_z, pm_ldi_s, pm_lda_z, pm_lda_s, pm_cat_n, pm_cat_i, pm_cat_r, pm_cat_l, pm_obj, pm_arr, pm_opt, pm_ird, pm_aln, List.getElem?_cons_zero, List.getElem?_cons_succ, List.set_cons_zero, List.set_cons_succ, List.length_cons, List.length_nil, List.length_set, true_and, and_true, Nat.add_zero, Nat.zero_add, Nat.le_refl, Nat.reduceAdd, Nat.reduceLT, Nat.reduceLeDiff, Nat.zero_le, not_false_eq_true, not_true_eq_false, false_implies, implies_true, true_implies, Nat.zero_lt_succ, Nat.lt_add_one, pm_tl_n, pm_tl_s, sc_uL, c1, e2]
        exact I
      · have c1' : ¬ (colS B t).2.1 = -1 := fun z => c1 (mm.mpr z)
        by_cases c2 : colE B t < (colS B t).2.2
        · rw [if_pos (Or.inr c2)] at cS
          have x1 : coX B (t + 1) = nI p := by
            unfold coX
            rw [cS]
            exact if_neg (nI_ne1 (by omega))
          have x2 : coY B (t + 1) = nI r := by
            unfold coY
            rw [cS]
            exact if_neg (nI_ne1 (by omega))
          rw [x1, x2, cS] at I
          show W_X12_fits _ _ _ _ _ _ _ _ _
          simp only [w_X12_fits_105, w_X12_fits_107, w_X12_fits_108, w_X12_fits_109, w_X12_fits_112, w_X12_fits_114, w_X12_fits_115, w_X12_fits_118, w_X12_fits_121, w_X12_fits_123, w_X12_fits_124, w_X12_fits_126, w_X12_fits_127, w_X12_fits_129, w_X12_fits_130, w_X12_fits_133, pm_1i_c, pm_2i_c, pm_1l_c, pm_2l_c, pm_1a_c, pm_ia_c, pm_iia_c, pm_va_c, pm_cp_c, pm_k0_c, pm_k1_c, pm_k2_c, pm_k3_c, pm_s1_c, pm_s2_c, pm_s3_c, pm_s4_c, pm_ri_c, pm_ra_c, pm_rn_c, pm_rk_i, pm_rk_z, pm_rk_a, pm_vk_i, pm_vk_z, pm_vk_a, pm_cti, pm_ctr, pm_ldi_z, pm_ldi_s, pm_lda_z, pm_lda_s, pm_cat_n, pm_cat_i, pm_cat_r, pm_cat_l, pm_obj, pm_arr, pm_opt, pm_ird, pm_aln, List.getElem?_cons_zero, List.getElem?_cons_succ, List.set_cons_zero, List.set_cons_succ, List.length_cons, List.length_nil, List.length_set, true_and, and_true, Nat.add_zero, Nat.zero_add, Nat.le_refl, Nat.reduceAdd, Nat.reduceLT, Nat.reduceLeDiff, Nat.zero_le, not_false_eq_true, not_true_eq_false, false_implies, implies_true, true_implies, Nat.zero_lt_succ, Nat.lt_add_one, pm_tl_n, pm_tl_s, sc_uL, c1, c2, e2]
          exact I
        · rw [if_neg (fun z => z.elim c1' c2)] at cS
          have x1 : coX B (t + 1) = coX B t := by
            unfold coX
            rw [cS]
          have x2 : coY B (t + 1) = coY B t := by
            unfold coY
            rw [cS]
          rw [x1, x2, cS] at I
          show W_X12_fits _ _ _ _ _ _ _ _ _
          simp only [w_X12_fits_105, w_X12_fits_107, w_X12_fits_108, w_X12_fits_109, w_X12_fits_112, w_X12_fits_114, w_X12_fits_115, w_X12_fits_118, w_X12_fits_121, w_X12_fits_123, w_X12_fits_124, w_X12_fits_126, w_X12_fits_127, w_X12_fits_129, w_X12_fits_130, w_X12_fits_133, pm_1i_c, pm_2i_c, pm_1l_c, pm_2l_c, pm_1a_c, pm_ia_c, pm_iia_c, pm_va_c, pm_cp_c, pm_k0_c, pm_k1_c, pm_k2_c, pm_k3_c, pm_s1_c, pm_s2_c, pm_s3_c, pm_s4_c, pm_ri_c, pm_ra_c, pm_rn_c, pm_rk_i, pm_rk_z, pm_rk_a, pm_vk_i, pm_vk_z, pm_vk_a, pm_cti, pm_ctr, pm_ldi_z, pm_ldi_s, pm_lda_z, pm_lda_s, pm_cat_n, pm_cat_i, pm_cat_r, pm_cat_l, pm_obj, pm_arr, pm_opt, pm_ird, pm_aln, List.getElem?_cons_zero, List.getElem?_cons_succ, List.set_cons_zero, List.set_cons_succ, List.length_cons, List.length_nil, List.length_set, true_and, and_true, Nat.add_zero, Nat.zero_add, Nat.le_refl, Nat.reduceAdd, Nat.reduceLT, Nat.reduceLeDiff, Nat.zero_le, not_false_eq_true, not_true_eq_false, false_implies, implies_true, true_implies, Nat.zero_lt_succ, Nat.lt_add_one, pm_tl_n, pm_tl_s, sc_uL, c1, c2, e2]
          exact I
  have loop3 : ∀ n (B : AD) (g : pmH) (x1 x2 x3 x4 x5 x6 : Option Value), md_ g m o B → wdV B → shV B → (li B 2).length + (li B 3).length ≤ n → (li B 2).length + (li B 3).length ≤ 64 → g.length = h.length → fr1 h g (m + 1) → W_X12_fits (d + 4) (h.length + 0) 0 (fun v h' => v = none ∧ md_ h' m o (fit3 n B) ∧ fr1 h h' (m + 1)) 52 [some (.ref m), x1, x2, x3, x4, x5, x6] [] g 0 := by
    intro n
    induction n with
    | zero =>
      intro B g x1 x2 x3 x4 x5 x6 M WB VB hn hn2 hg hf
      have b := VB.b
      have H0 := M.1
      unfold mO at H0
      have es : nI (li B 2).length + nI (li B 3).length = nI ((li B 2).length + (li B 3).length) := nI_add _ _
      have c : ¬ nI (mN B) < nI ((li B 2).length + (li B 3).length) := nI_nlt (by omega) (by omega)
      rw [w_X12_fits_52]
      simp only [w_X12_fits_53, pm_1i_c, pm_2i_c, pm_1l_c, pm_2l_c, pm_1a_c, pm_ia_c, pm_iia_c, pm_va_c, pm_cp_c, pm_k0_c, pm_k1_c, pm_k2_c, pm_k3_c, pm_s1_c, pm_s2_c, pm_s3_c, pm_s4_c, pm_ri_c, pm_ra_c, pm_rn_c, pm_rk_i, pm_rk_z, pm_rk_a, pm_vk_i, pm_vk_z, pm_vk_a, pm_cti, pm_ctr, pm_ldi_z, pm_ldi_s, pm_lda_z, pm_lda_s, pm_cat_n, pm_cat_i, pm_cat_r, pm_cat_l, pm_obj, pm_arr, pm_opt, pm_ird, pm_aln, List.getElem?_cons_zero, List.getElem?_cons_succ, List.set_cons_zero, List.set_cons_succ, List.length_cons, List.length_nil, List.length_set, true_and, and_true, Nat.add_zero, Nat.zero_add, Nat.le_refl, Nat.reduceAdd, Nat.reduceLT, Nat.reduceLeDiff, Nat.zero_le, not_false_eq_true, not_true_eq_false, false_implies, implies_true, true_implies, Nat.zero_lt_succ, Nat.lt_add_one, H0, hg]
      refine PM_use (c_M_mainMany M (d + 1)) ?_
      rintro x g1 k1 ⟨rfl, rfl⟩
      show W_X12_fits _ _ _ _ _ _ _ _ _
      simp only [w_X12_fits_56, w_X12_fits_57, pm_1i_c, pm_2i_c, pm_1l_c, pm_2l_c, pm_1a_c, pm_ia_c, pm_iia_c, pm_va_c, pm_cp_c, pm_k0_c, pm_k1_c, pm_k2_c, pm_k3_c, pm_s1_c, pm_s2_c, pm_s3_c, pm_s4_c, pm_ri_c, pm_ra_c, pm_rn_c, pm_rk_i, pm_rk_z, pm_rk_a, pm_vk_i, pm_vk_z, pm_vk_a, pm_cti, pm_ctr, pm_ldi_z, pm_ldi_s, pm_lda_z, pm_lda_s, pm_cat_n, pm_cat_i, pm_cat_r, pm_cat_l, pm_obj, pm_arr, pm_opt, pm_ird, pm_aln, List.getElem?_cons_zero, List.getElem?_cons_succ, List.set_cons_zero, List.set_cons_succ, List.length_cons, List.length_nil, List.length_set, true_and, and_true, Nat.add_zero, Nat.zero_add, Nat.le_refl, Nat.reduceAdd, Nat.reduceLT, Nat.reduceLeDiff, Nat.zero_le, not_false_eq_true, not_true_eq_false, false_implies, implies_true, true_implies, Nat.zero_lt_succ, Nat.lt_add_one, pm_tl_n, pm_tl_s, sc_uL, H0, hg]
      refine PM_use (c_M_mainFor M (d + 2)) ?_
      rintro x g1 k1 ⟨rfl, rfl⟩
      rw [VB.mm]
      show W_X12_fits _ _ _ _ _ _ _ _ _
      simp only [w_X12_fits_60, w_X12_fits_155, pm_1i_c, pm_2i_c, pm_1l_c, pm_2l_c, pm_1a_c, pm_ia_c, pm_iia_c, pm_va_c, pm_cp_c, pm_k0_c, pm_k1_c, pm_k2_c, pm_k3_c, pm_s1_c, pm_s2_c, pm_s3_c, pm_s4_c, pm_ri_c, pm_ra_c, pm_rn_c, pm_rk_i, pm_rk_z, pm_rk_a, pm_vk_i, pm_vk_z, pm_vk_a, pm_cti, pm_ctr, pm_ldi_z, pm_ldi_s, pm_lda_z, pm_lda_s, pm_cat_n, pm_cat_i, pm_cat_r, pm_cat_l, pm_obj, pm_arr, pm_opt, pm_ird, pm_aln, List.getElem?_cons_zero, List.getElem?_cons_succ, List.set_cons_zero, List.set_cons_succ, List.length_cons, List.length_nil, List.length_set, true_and, and_true, Nat.add_zero, Nat.zero_add, Nat.le_refl, Nat.reduceAdd, Nat.reduceLT, Nat.reduceLeDiff, Nat.zero_le, not_false_eq_true, not_true_eq_false, false_implies, implies_true, true_implies, Nat.zero_lt_succ, Nat.lt_add_one, pm_tl_n, pm_tl_s, sc_uL, es, c, hg]
      exact ⟨M, hf⟩
    | succ n ih =>
      intro B g x1 x2 x3 x4 x5 x6 M WB VB hn hn2 hg hf
      have b := VB.b
      have H0 := M.1
      unfold mO at H0
      have es : nI (li B 2).length + nI (li B 3).length = nI ((li B 2).length + (li B 3).length) := nI_add _ _
      rw [w_X12_fits_52]
      simp only [w_X12_fits_53, pm_1i_c, pm_2i_c, pm_1l_c, pm_2l_c, pm_1a_c, pm_ia_c, pm_iia_c, pm_va_c, pm_cp_c, pm_k0_c, pm_k1_c, pm_k2_c, pm_k3_c, pm_s1_c, pm_s2_c, pm_s3_c, pm_s4_c, pm_ri_c, pm_ra_c, pm_rn_c, pm_rk_i, pm_rk_z, pm_rk_a, pm_vk_i, pm_vk_z, pm_vk_a, pm_cti, pm_ctr, pm_ldi_z, pm_ldi_s, pm_lda_z, pm_lda_s, pm_cat_n, pm_cat_i, pm_cat_r, pm_cat_l, pm_obj, pm_arr, pm_opt, pm_ird, pm_aln, List.getElem?_cons_zero, List.getElem?_cons_succ, List.set_cons_zero, List.set_cons_succ, List.length_cons, List.length_nil, List.length_set, true_and, and_true, Nat.add_zero, Nat.zero_add, Nat.le_refl, Nat.reduceAdd, Nat.reduceLT, Nat.reduceLeDiff, Nat.zero_le, not_false_eq_true, not_true_eq_false, false_implies, implies_true, true_implies, Nat.zero_lt_succ, Nat.lt_add_one, H0, hg]
      refine PM_use (c_M_mainMany M (d + 1)) ?_
      rintro x g1 k1 ⟨rfl, rfl⟩
      show W_X12_fits _ _ _ _ _ _ _ _ _
      simp only [w_X12_fits_56, w_X12_fits_57, pm_1i_c, pm_2i_c, pm_1l_c, pm_2l_c, pm_1a_c, pm_ia_c, pm_iia_c, pm_va_c, pm_cp_c, pm_k0_c, pm_k1_c, pm_k2_c, pm_k3_c, pm_s1_c, pm_s2_c, pm_s3_c, pm_s4_c, pm_ri_c, pm_ra_c, pm_rn_c, pm_rk_i, pm_rk_z, pm_rk_a, pm_vk_i, pm_vk_z, pm_vk_a, pm_cti, pm_ctr, pm_ldi_z, pm_ldi_s, pm_lda_z, pm_lda_s, pm_cat_n, pm_cat_i, pm_cat_r, pm_cat_l, pm_obj, pm_arr, pm_opt, pm_ird, pm_aln, List.getElem?_cons_zero, List.getElem?_cons_succ, List.set_cons_zero, List.set_cons_succ, List.length_cons, List.length_nil, List.length_set, true_and, and_true, Nat.add_zero, Nat.zero_add, Nat.le_refl, Nat.reduceAdd, Nat.reduceLT, Nat.reduceLeDiff, Nat.zero_le, not_false_eq_true, not_true_eq_false, false_implies, implies_true, true_implies, Nat.zero_lt_succ, Nat.lt_add_one, pm_tl_n, pm_tl_s, sc_uL, H0, hg]
      refine PM_use (c_M_mainFor M (d + 2)) ?_
      rintro x g1 k1 ⟨rfl, rfl⟩
      have ef : fit3 (n + 1) B = if mfI (sc B 8) (sc B 9) < nI (li B 2).length + nI (li B 3).length then fit3 n (drpF B) else B := rfl
      rw [ef, VB.mm, es]
      by_cases c : nI (mN B) < nI ((li B 2).length + (li B 3).length)
      · rw [if_pos c]
        have cn_ : mN B < (li B 2).length + (li B 3).length := (nI_ltI (by omega) (by omega)).mp c
        obtain ⟨q23, k, hk, ek⟩ := colS_ok B ((li B 2).length + (li B 3).length) (by omega) (Nat.le_refl _)
        obtain ⟨q, hq⟩ : ∃ q, (colS B ((li B 2).length + (li B 3).length)).1 = q := ⟨_, rfl⟩
        rw [hq] at q23 hk
        have lq : (li B q).length ≤ 64 := by rcases q23 with e | e <;> rw [e] <;> omega
        have ed := drpF_e B hq ek (by omega)
        have eX : coX B ((li B 2).length + (li B 3).length) = nI q := by
          unfold coX
          rw [ek, if_neg (nI_ne1 (by omega)), hq]
        have eY : coY B ((li B 2).length + (li B 3).length) = nI k := by
          unfold coY
          rw [ek, if_neg (nI_ne1 (by omega))]
        have last : ∀ (x5 x6 : Option Value), W_X12_fits (d + 4) (h.length + 0) 0 (fun v h' => v = none ∧ md_ h' m o (fit3 n (drpF B)) ∧ fr1 h h' (m + 1)) 72 [some (.ref m), some (.int (coX B ((li B 2).length + (li B 3).length))), some (.int (coY B ((li B 2).length + (li B 3).length))), some (.int (colS B ((li B 2).length + (li B 3).length)).2.2), some (.int (nI 4)), x5, x6] [] g1 0 := by
          intro x5 x6
          have e4 : (3 : Int32) < nI 4 := by decide
          rw [w_X12_fits_72, eX, eY]
          simp only [w_X12_fits_74, w_X12_fits_75, w_X12_fits_142, w_X12_fits_143, w_X12_fits_144, w_X12_fits_145, w_X12_fits_146, pm_1i_c, pm_2i_c, pm_1l_c, pm_2l_c, pm_1a_c, pm_ia_c, pm_iia_c, pm_va_c, pm_cp_c, pm_k0_c, pm_k1_c, pm_k2_c, pm_k3_c, pm_s1_c, pm_s2_c, pm_s3_c, pm_s4_c, pm_ri_c, pm_ra_c, pm_rn_c, pm_rk_i, pm_rk_z, pm_rk_a, pm_vk_i, pm_vk_z, pm_vk_a, pm_cti, pm_ctr, pm_ldi_z, pm_ldi_s, pm_lda_z, pm_lda_s, pm_cat_n, pm_cat_i, pm_cat_r, pm_cat_l, pm_obj, pm_arr, pm_opt, pm_ird, pm_aln, List.getElem?_cons_zero, List.getElem?_cons_succ, List.set_cons_zero, List.set_cons_succ, List.length_cons, List.length_nil, List.length_set, true_and, and_true, Nat.add_zero, Nat.zero_add, Nat.le_refl, Nat.reduceAdd, Nat.reduceLT, Nat.reduceLeDiff, Nat.zero_le, not_false_eq_true, not_true_eq_false, false_implies, implies_true, true_implies, Nat.zero_lt_succ, Nat.lt_add_one, e4, H0, hg]
          refine PM_use (c_M_takesOut M (p := q) (by omega) (by omega) hk (d + 2)) ?_
          rintro x g2 k2 ⟨rfl, K2, F2⟩
          have N0 := K2.1
          unfold mO at N0
          show W_X12_fits _ _ _ _ _ _ _ _ _
          simp only [w_X12_fits_149, pm_1i_c, pm_2i_c, pm_1l_c, pm_2l_c, pm_1a_c, pm_ia_c, pm_iia_c, pm_va_c, pm_cp_c, pm_k0_c, pm_k1_c, pm_k2_c, pm_k3_c, pm_s1_c, pm_s2_c, pm_s3_c, pm_s4_c, pm_ri_c, pm_ra_c, pm_rn_c, pm_rk_i, pm_rk_z, pm_rk_a, pm_vk_i, pm_vk_z, pm_vk_a, pm_cti, pm_ctr, pm_ldi_z, pm_ldi_s, pm_lda_z, pm_lda_s, pm_cat_n, pm_cat_i, pm_cat_r, pm_cat_l, pm_obj, pm_arr, pm_opt, pm_ird, pm_aln, List.getElem?_cons_zero, List.getElem?_cons_succ, List.set_cons_zero, List.set_cons_succ, List.length_cons, List.length_nil, List.length_set, true_and, and_true, Nat.add_zero, Nat.zero_add, Nat.le_refl, Nat.reduceAdd, Nat.reduceLT, Nat.reduceLeDiff, Nat.zero_le, not_false_eq_true, not_true_eq_false, false_implies, implies_true, true_implies, Nat.zero_lt_succ, Nat.lt_add_one, pm_tl_n, pm_tl_s, sc_uL, N0, k2, hg]
          refine PM_use (c_M_goesOut K2 ((li B q).getD k (-1)) (d + 3)) ?_
          rintro x g3 k3 ⟨rfl, K3, F3⟩
          show W_X12_fits _ _ _ _ _ _ _ _ _
          simp only [w_X12_fits_152, pm_1i_c, pm_2i_c, pm_1l_c, pm_2l_c, pm_1a_c, pm_ia_c, pm_iia_c, pm_va_c, pm_cp_c, pm_k0_c, pm_k1_c, pm_k2_c, pm_k3_c, pm_s1_c, pm_s2_c, pm_s3_c, pm_s4_c, pm_ri_c, pm_ra_c, pm_rn_c, pm_rk_i, pm_rk_z, pm_rk_a, pm_vk_i, pm_vk_z, pm_vk_a, pm_cti, pm_ctr, pm_ldi_z, pm_ldi_s, pm_lda_z, pm_lda_s, pm_cat_n, pm_cat_i, pm_cat_r, pm_cat_l, pm_obj, pm_arr, pm_opt, pm_ird, pm_aln, List.getElem?_cons_zero, List.getElem?_cons_succ, List.set_cons_zero, List.set_cons_succ, List.length_cons, List.length_nil, List.length_set, true_and, and_true, Nat.add_zero, Nat.zero_add, Nat.le_refl, Nat.reduceAdd, Nat.reduceLT, Nat.reduceLeDiff, Nat.zero_le, not_false_eq_true, not_true_eq_false, false_implies, implies_true, true_implies, Nat.zero_lt_succ, Nat.lt_add_one, pm_tl_n, pm_tl_s, sc_uL, k2, k3, hg]
          rw [← ed] at K3
          have le : ((li B q).eraseIdx k).length = (li B q).length - 1 := List.length_eraseIdx_of_lt hk
          have l23 : (li (drpF B) 2).length + (li (drpF B) 3).length + 1 = (li B 2).length + (li B 3).length := by
            rw [ed]
            rcases q23 with e | e
            · rw [e] at le hk ⊢
              show ((li B 2).eraseIdx k).length + (li B 3).length + 1 = _
              omega
            · rw [e] at le hk ⊢
              show (li B 2).length + ((li B 3).eraseIdx k).length + 1 = _
              omega
          refine ih (drpF B) g3 _ _ _ _ _ _ K3 ?_ ?_ (by omega) (by omega) (by omega) ((hf.tr F2).tr F3)
          · rw [ed]
            exact WB
          · rw [ed]
            exact VB
        have s3 : ∀ (x5 x6 : Option Value), W_X12_fits (d + 4) (h.length + 0) 0 (fun v h' => v = none ∧ md_ h' m o (fit3 n (drpF B)) ∧ fr1 h h' (m + 1)) 72 [some (.ref m), some (.int (coX B (li B 2).length)), some (.int (coY B (li B 2).length)), some (.int (colS B (li B 2).length).2.2), some (.int (nI 3)), x5, x6] [] g1 0 := by
          intro x5 x6
          have e3 : ¬ (3 : Int32) < nI 3 := by decide
          rw [w_X12_fits_72]
          simp only [w_X12_fits_74, w_X12_fits_75, w_X12_fits_78, w_X12_fits_79, w_X12_fits_81, pm_1i_c, pm_2i_c, pm_1l_c, pm_2l_c, pm_1a_c, pm_ia_c, pm_iia_c, pm_va_c, pm_cp_c, pm_k0_c, pm_k1_c, pm_k2_c, pm_k3_c, pm_s1_c, pm_s2_c, pm_s3_c, pm_s4_c, pm_ri_c, pm_ra_c, pm_rn_c, pm_rk_i, pm_rk_z, pm_rk_a, pm_vk_i, pm_vk_z, pm_vk_a, pm_cti, pm_ctr, pm_ldi_z, pm_ldi_s, pm_lda_z, pm_lda_s, pm_cat_n, pm_cat_i, pm_cat_r, pm_cat_l, pm_obj, pm_arr, pm_opt, pm_ird, pm_aln, List.getElem?_cons_zero, List.getElem?_cons_succ, List.set_cons_zero, List.set_cons_succ, List.length_cons, List.length_nil, List.length_set, true_and, and_true, Nat.add_zero, Nat.zero_add, Nat.le_refl, Nat.reduceAdd, Nat.reduceLT, Nat.reduceLeDiff, Nat.zero_le, not_false_eq_true, not_true_eq_false, false_implies, implies_true, true_implies, Nat.zero_lt_succ, Nat.lt_add_one, e3, H0, hg]
          refine PM_use (c_M_many M (p := 3) (by omega) (by omega) (d + 2)) ?_
          rintro x g2 k2 ⟨rfl, rfl⟩
          show W_X12_fits _ _ _ _ _ _ _ _ _
          simp only [w_X12_fits_84, w_X12_fits_85, w_X12_fits_86, pm_1i_c, pm_2i_c, pm_1l_c, pm_2l_c, pm_1a_c, pm_ia_c, pm_iia_c, pm_va_c, pm_cp_c, pm_k0_c, pm_k1_c, pm_k2_c, pm_k3_c, pm_s1_c, pm_s2_c, pm_s3_c, pm_s4_c, pm_ri_c, pm_ra_c, pm_rn_c, pm_rk_i, pm_rk_z, pm_rk_a, pm_vk_i, pm_vk_z, pm_vk_a, pm_cti, pm_ctr, pm_ldi_z, pm_ldi_s, pm_lda_z, pm_lda_s, pm_cat_n, pm_cat_i, pm_cat_r, pm_cat_l, pm_obj, pm_arr, pm_opt, pm_ird, pm_aln, List.getElem?_cons_zero, List.getElem?_cons_succ, List.set_cons_zero, List.set_cons_succ, List.length_cons, List.length_nil, List.length_set, true_and, and_true, Nat.add_zero, Nat.zero_add, Nat.le_refl, Nat.reduceAdd, Nat.reduceLT, Nat.reduceLeDiff, Nat.zero_le, not_false_eq_true, not_true_eq_false, false_implies, implies_true, true_implies, Nat.zero_lt_succ, Nat.lt_add_one, pm_tl_n, pm_tl_s, sc_uL]
          refine scan B g2 M WB hn2 (h.length + 0) _ (by omega) 3 (Or.inr rfl) (fun x5 x6 p' hp' => ?_) (li B 3).length (Nat.le_refl _) _ (li B 2).length (by rw [if_neg (by omega)])
          subst hp'
          exact last x5 x6
        have e2 : ¬ (3 : Int32) < 2 := by decide
        have z0 : coX B 0 = -1 := rfl
        have z1 : coY B 0 = 0 := rfl
        have z2 : (colS B 0).2.2 = 0 := rfl
        show W_X12_fits _ _ _ _ _ _ _ _ _
        simp only [w_X12_fits_60, w_X12_fits_63, w_X12_fits_64, w_X12_fits_65, w_X12_fits_66, w_X12_fits_67, w_X12_fits_68, w_X12_fits_69, w_X12_fits_70, pm_1i_c, pm_2i_c, pm_1l_c, pm_2l_c, pm_1a_c, pm_ia_c, pm_iia_c, pm_va_c, pm_cp_c, pm_k0_c, pm_k1_c, pm_k2_c, pm_k3_c, pm_s1_c, pm_s2_c, pm_s3_c, pm_s4_c, pm_ri_c, pm_ra_c, pm_rn_c, pm_rk_i, pm_rk_z, pm_rk_a, pm_vk_i, pm_vk_z, pm_vk_a, pm_cti, pm_ctr, pm_ldi_z, pm_ldi_s, pm_lda_z, pm_lda_s, pm_cat_n, pm_cat_i, pm_cat_r, pm_cat_l, pm_obj, pm_arr, pm_opt, pm_ird, pm_aln, List.getElem?_cons_zero, List.getElem?_cons_succ, List.set_cons_zero, List.set_cons_succ, List.length_cons, List.length_nil, List.length_set, true_and, and_true, Nat.add_zero, Nat.zero_add, Nat.le_refl, Nat.reduceAdd, Nat.reduceLT, Nat.reduceLeDiff, Nat.zero_le, not_false_eq_true, not_true_eq_false, false_implies, implies_true, true_implies, Nat.zero_lt_succ, Nat.lt_add_one, pm_tl_n, pm_tl_s, sc_uL, c, hg]
        rw [w_X12_fits_72]
        simp only [w_X12_fits_74, w_X12_fits_75, w_X12_fits_78, w_X12_fits_79, w_X12_fits_81, pm_1i_c, pm_2i_c, pm_1l_c, pm_2l_c, pm_1a_c, pm_ia_c, pm_iia_c, pm_va_c, pm_cp_c, pm_k0_c, pm_k1_c, pm_k2_c, pm_k3_c, pm_s1_c, pm_s2_c, pm_s3_c, pm_s4_c, pm_ri_c, pm_ra_c, pm_rn_c, pm_rk_i, pm_rk_z, pm_rk_a, pm_vk_i, pm_vk_z, pm_vk_a, pm_cti, pm_ctr, pm_ldi_z, pm_ldi_s, pm_lda_z, pm_lda_s, pm_cat_n, pm_cat_i, pm_cat_r, pm_cat_l, pm_obj, pm_arr, pm_opt, pm_ird, pm_aln, List.getElem?_cons_zero, List.getElem?_cons_succ, List.set_cons_zero, List.set_cons_succ, List.length_cons, List.length_nil, List.length_set, true_and, and_true, Nat.add_zero, Nat.zero_add, Nat.le_refl, Nat.reduceAdd, Nat.reduceLT, Nat.reduceLeDiff, Nat.zero_le, not_false_eq_true, not_true_eq_false, false_implies, implies_true, true_implies, Nat.zero_lt_succ, Nat.lt_add_one, e2, H0, hg]
        refine PM_use (c_M_many M (p := 2) (by omega) (by omega) (d + 2)) ?_
        rintro x g2 k2 ⟨rfl, rfl⟩
        show W_X12_fits _ _ _ _ _ _ _ _ _
        simp only [w_X12_fits_84, w_X12_fits_85, w_X12_fits_86, pm_1i_c, pm_2i_c, pm_1l_c, pm_2l_c, pm_1a_c, pm_ia_c, pm_iia_c, pm_va_c, pm_cp_c, pm_k0_c, pm_k1_c, pm_k2_c, pm_k3_c, pm_s1_c, pm_s2_c, pm_s3_c, pm_s4_c, pm_ri_c, pm_ra_c, pm_rn_c, pm_rk_i, pm_rk_z, pm_rk_a, pm_vk_i, pm_vk_z, pm_vk_a, pm_cti, pm_ctr, pm_ldi_z, pm_ldi_s, pm_lda_z, pm_lda_s, pm_cat_n, pm_cat_i, pm_cat_r, pm_cat_l, pm_obj, pm_arr, pm_opt, pm_ird, pm_aln, List.getElem?_cons_zero, List.getElem?_cons_succ, List.set_cons_zero, List.set_cons_succ, List.length_cons, List.length_nil, List.length_set, true_and, and_true, Nat.add_zero, Nat.zero_add, Nat.le_refl, Nat.reduceAdd, Nat.reduceLT, Nat.reduceLeDiff, Nat.zero_le, not_false_eq_true, not_true_eq_false, false_implies, implies_true, true_implies, Nat.zero_lt_succ, Nat.lt_add_one, pm_tl_n, pm_tl_s, sc_uL]
        have S := scan B g2 M WB hn2 (h.length + 0) (fun v h' => v = none ∧ md_ h' m o (fit3 n (drpF B)) ∧ fr1 h h' (m + 1)) (by omega) 2 (Or.inl rfl) (fun x5 x6 p' hp' => by
          subst hp'
          exact s3 x5 x6) (li B 2).length (Nat.le_refl _) x6 0 (by rw [if_pos rfl, Nat.zero_add])
        exact S
      · rw [if_neg c]
        show W_X12_fits _ _ _ _ _ _ _ _ _
        simp only [w_X12_fits_60, w_X12_fits_155, pm_1i_c, pm_2i_c, pm_1l_c, pm_2l_c, pm_1a_c, pm_ia_c, pm_iia_c, pm_va_c, pm_cp_c, pm_k0_c, pm_k1_c, pm_k2_c, pm_k3_c, pm_s1_c, pm_s2_c, pm_s3_c, pm_s4_c, pm_ri_c, pm_ra_c, pm_rn_c, pm_rk_i, pm_rk_z, pm_rk_a, pm_vk_i, pm_vk_z, pm_vk_a, pm_cti, pm_ctr, pm_ldi_z, pm_ldi_s, pm_lda_z, pm_lda_s, pm_cat_n, pm_cat_i, pm_cat_r, pm_cat_l, pm_obj, pm_arr, pm_opt, pm_ird, pm_aln, List.getElem?_cons_zero, List.getElem?_cons_succ, List.set_cons_zero, List.set_cons_succ, List.length_cons, List.length_nil, List.length_set, true_and, and_true, Nat.add_zero, Nat.zero_add, Nat.le_refl, Nat.reduceAdd, Nat.reduceLT, Nat.reduceLeDiff, Nat.zero_le, not_false_eq_true, not_true_eq_false, false_implies, implies_true, true_implies, Nat.zero_lt_succ, Nat.lt_add_one, pm_tl_n, pm_tl_s, sc_uL, c, hg]
        exact ⟨M, hf⟩
  have loop2 : ∀ n (B : AD) (g : pmH), md_ g m o B → wdV B → shV B → (li B 1).length ≤ n → tot B ≤ 64 → g.length = h.length → fr1 h g (m + 1) → W_X12_fits (d + 4) (h.length + 0) 0 (fun v h' => v = none ∧ md_ h' m o (fit3 65 (fit2 n B)) ∧ fr1 h h' (m + 1)) 26 [some (.ref m), none, none, none, none, none, none] [] g 0 := by
    intro n
    induction n with
    | zero =>
      intro B g M WB VB hn hn2 hg hf
      have b := VB.b
      unfold tot at hn2
      have H0 := M.1
      unfold mO at H0
      have c : ¬ nI (wN B) < nI (li B 1).length := nI_nlt (by omega) (by omega)
      have K := loop3 65 B g none none none none none none M WB VB (by omega) (by omega) hg hf
      rw [w_X12_fits_26]
      simp only [w_X12_fits_27, w_X12_fits_28, pm_1i_c, pm_2i_c, pm_1l_c, pm_2l_c, pm_1a_c, pm_ia_c, pm_iia_c, pm_va_c, pm_cp_c, pm_k0_c, pm_k1_c, pm_k2_c, pm_k3_c, pm_s1_c, pm_s2_c, pm_s3_c, pm_s4_c, pm_ri_c, pm_ra_c, pm_rn_c, pm_rk_i, pm_rk_z, pm_rk_a, pm_vk_i, pm_vk_z, pm_vk_a, pm_cti, pm_ctr, pm_ldi_z, pm_ldi_s, pm_lda_z, pm_lda_s, pm_cat_n, pm_cat_i, pm_cat_r, pm_cat_l, pm_obj, pm_arr, pm_opt, pm_ird, pm_aln, List.getElem?_cons_zero, List.getElem?_cons_succ, List.set_cons_zero, List.set_cons_succ, List.length_cons, List.length_nil, List.length_set, true_and, and_true, Nat.add_zero, Nat.zero_add, Nat.le_refl, Nat.reduceAdd, Nat.reduceLT, Nat.reduceLeDiff, Nat.zero_le, not_false_eq_true, not_true_eq_false, false_implies, implies_true, true_implies, Nat.zero_lt_succ, Nat.lt_add_one, H0, hg]
      refine PM_use (c_M_many M (p := 1) (by omega) (by omega) (d + 2)) ?_
      rintro x g1 k1 ⟨rfl, rfl⟩
      show W_X12_fits _ _ _ _ _ _ _ _ _
      simp only [w_X12_fits_31, w_X12_fits_32, w_X12_fits_33, pm_1i_c, pm_2i_c, pm_1l_c, pm_2l_c, pm_1a_c, pm_ia_c, pm_iia_c, pm_va_c, pm_cp_c, pm_k0_c, pm_k1_c, pm_k2_c, pm_k3_c, pm_s1_c, pm_s2_c, pm_s3_c, pm_s4_c, pm_ri_c, pm_ra_c, pm_rn_c, pm_rk_i, pm_rk_z, pm_rk_a, pm_vk_i, pm_vk_z, pm_vk_a, pm_cti, pm_ctr, pm_ldi_z, pm_ldi_s, pm_lda_z, pm_lda_s, pm_cat_n, pm_cat_i, pm_cat_r, pm_cat_l, pm_obj, pm_arr, pm_opt, pm_ird, pm_aln, List.getElem?_cons_zero, List.getElem?_cons_succ, List.set_cons_zero, List.set_cons_succ, List.length_cons, List.length_nil, List.length_set, true_and, and_true, Nat.add_zero, Nat.zero_add, Nat.le_refl, Nat.reduceAdd, Nat.reduceLT, Nat.reduceLeDiff, Nat.zero_le, not_false_eq_true, not_true_eq_false, false_implies, implies_true, true_implies, Nat.zero_lt_succ, Nat.lt_add_one, pm_tl_n, pm_tl_s, sc_uL, H0, hg]
      refine PM_use (c_M_isFor M 1 (d + 3)) ?_
      rintro x g1 k1 ⟨rfl, rfl⟩
      rw [VB.p1]
      show W_X12_fits _ _ _ _ _ _ _ _ _
      simp only [w_X12_fits_36, pm_1i_c, pm_2i_c, pm_1l_c, pm_2l_c, pm_1a_c, pm_ia_c, pm_iia_c, pm_va_c, pm_cp_c, pm_k0_c, pm_k1_c, pm_k2_c, pm_k3_c, pm_s1_c, pm_s2_c, pm_s3_c, pm_s4_c, pm_ri_c, pm_ra_c, pm_rn_c, pm_rk_i, pm_rk_z, pm_rk_a, pm_vk_i, pm_vk_z, pm_vk_a, pm_cti, pm_ctr, pm_ldi_z, pm_ldi_s, pm_lda_z, pm_lda_s, pm_cat_n, pm_cat_i, pm_cat_r, pm_cat_l, pm_obj, pm_arr, pm_opt, pm_ird, pm_aln, List.getElem?_cons_zero, List.getElem?_cons_succ, List.set_cons_zero, List.set_cons_succ, List.length_cons, List.length_nil, List.length_set, true_and, and_true, Nat.add_zero, Nat.zero_add, Nat.le_refl, Nat.reduceAdd, Nat.reduceLT, Nat.reduceLeDiff, Nat.zero_le, not_false_eq_true, not_true_eq_false, false_implies, implies_true, true_implies, Nat.zero_lt_succ, Nat.lt_add_one, pm_tl_n, pm_tl_s, sc_uL, c]
      exact K
    | succ n ih =>
      intro B g M WB VB hn hn2 hg hf
      have b := VB.b
      have ht2 := hn2
      unfold tot at hn2
      have H0 := M.1
      unfold mO at H0
      have ef : fit2 (n + 1) B = if wfI (sc B 8) (sc B 9) < nI (li B 1).length then fit2 n (mvD B 1) else B := rfl
      rw [ef, VB.w]
      rw [w_X12_fits_26]
      simp only [w_X12_fits_27, w_X12_fits_28, pm_1i_c, pm_2i_c, pm_1l_c, pm_2l_c, pm_1a_c, pm_ia_c, pm_iia_c, pm_va_c, pm_cp_c, pm_k0_c, pm_k1_c, pm_k2_c, pm_k3_c, pm_s1_c, pm_s2_c, pm_s3_c, pm_s4_c, pm_ri_c, pm_ra_c, pm_rn_c, pm_rk_i, pm_rk_z, pm_rk_a, pm_vk_i, pm_vk_z, pm_vk_a, pm_cti, pm_ctr, pm_ldi_z, pm_ldi_s, pm_lda_z, pm_lda_s, pm_cat_n, pm_cat_i, pm_cat_r, pm_cat_l, pm_obj, pm_arr, pm_opt, pm_ird, pm_aln, List.getElem?_cons_zero, List.getElem?_cons_succ, List.set_cons_zero, List.set_cons_succ, List.length_cons, List.length_nil, List.length_set, true_and, and_true, Nat.add_zero, Nat.zero_add, Nat.le_refl, Nat.reduceAdd, Nat.reduceLT, Nat.reduceLeDiff, Nat.zero_le, not_false_eq_true, not_true_eq_false, false_implies, implies_true, true_implies, Nat.zero_lt_succ, Nat.lt_add_one, H0, hg]
      refine PM_use (c_M_many M (p := 1) (by omega) (by omega) (d + 2)) ?_
      rintro x g1 k1 ⟨rfl, rfl⟩
      show W_X12_fits _ _ _ _ _ _ _ _ _
      simp only [w_X12_fits_31, w_X12_fits_32, w_X12_fits_33, pm_1i_c, pm_2i_c, pm_1l_c, pm_2l_c, pm_1a_c, pm_ia_c, pm_iia_c, pm_va_c, pm_cp_c, pm_k0_c, pm_k1_c, pm_k2_c, pm_k3_c, pm_s1_c, pm_s2_c, pm_s3_c, pm_s4_c, pm_ri_c, pm_ra_c, pm_rn_c, pm_rk_i, pm_rk_z, pm_rk_a, pm_vk_i, pm_vk_z, pm_vk_a, pm_cti, pm_ctr, pm_ldi_z, pm_ldi_s, pm_lda_z, pm_lda_s, pm_cat_n, pm_cat_i, pm_cat_r, pm_cat_l, pm_obj, pm_arr, pm_opt, pm_ird, pm_aln, List.getElem?_cons_zero, List.getElem?_cons_succ, List.set_cons_zero, List.set_cons_succ, List.length_cons, List.length_nil, List.length_set, true_and, and_true, Nat.add_zero, Nat.zero_add, Nat.le_refl, Nat.reduceAdd, Nat.reduceLT, Nat.reduceLeDiff, Nat.zero_le, not_false_eq_true, not_true_eq_false, false_implies, implies_true, true_implies, Nat.zero_lt_succ, Nat.lt_add_one, pm_tl_n, pm_tl_s, sc_uL, H0, hg]
      refine PM_use (c_M_isFor M 1 (d + 3)) ?_
      rintro x g1 k1 ⟨rfl, rfl⟩
      rw [VB.p1]
      by_cases c : nI (wN B) < nI (li B 1).length
      · rw [if_pos c]
        have cn_ : wN B < (li B 1).length := (nI_ltI (by omega) (by omega)).mp c
        show W_X12_fits _ _ _ _ _ _ _ _ _
        simp only [w_X12_fits_36, w_X12_fits_39, w_X12_fits_40, w_X12_fits_41, w_X12_fits_42, w_X12_fits_43, pm_1i_c, pm_2i_c, pm_1l_c, pm_2l_c, pm_1a_c, pm_ia_c, pm_iia_c, pm_va_c, pm_cp_c, pm_k0_c, pm_k1_c, pm_k2_c, pm_k3_c, pm_s1_c, pm_s2_c, pm_s3_c, pm_s4_c, pm_ri_c, pm_ra_c, pm_rn_c, pm_rk_i, pm_rk_z, pm_rk_a, pm_vk_i, pm_vk_z, pm_vk_a, pm_cti, pm_ctr, pm_ldi_z, pm_ldi_s, pm_lda_z, pm_lda_s, pm_cat_n, pm_cat_i, pm_cat_r, pm_cat_l, pm_obj, pm_arr, pm_opt, pm_ird, pm_aln, List.getElem?_cons_zero, List.getElem?_cons_succ, List.set_cons_zero, List.set_cons_succ, List.length_cons, List.length_nil, List.length_set, true_and, and_true, Nat.add_zero, Nat.zero_add, Nat.le_refl, Nat.reduceAdd, Nat.reduceLT, Nat.reduceLeDiff, Nat.zero_le, not_false_eq_true, not_true_eq_false, false_implies, implies_true, true_implies, Nat.zero_lt_succ, Nat.lt_add_one, pm_tl_n, pm_tl_s, sc_uL, c, H0, hg]
        refine PM_use (c_M_takesLast M (p := 1) (by omega) (by omega) (by omega) (d + 1)) ?_
        rintro x g2 k2 ⟨rfl, K2, F2⟩
        have N0 := K2.1
        unfold mO at N0
        show W_X12_fits _ _ _ _ _ _ _ _ _
        simp only [w_X12_fits_46, pm_1i_c, pm_2i_c, pm_1l_c, pm_2l_c, pm_1a_c, pm_ia_c, pm_iia_c, pm_va_c, pm_cp_c, pm_k0_c, pm_k1_c, pm_k2_c, pm_k3_c, pm_s1_c, pm_s2_c, pm_s3_c, pm_s4_c, pm_ri_c, pm_ra_c, pm_rn_c, pm_rk_i, pm_rk_z, pm_rk_a, pm_vk_i, pm_vk_z, pm_vk_a, pm_cti, pm_ctr, pm_ldi_z, pm_ldi_s, pm_lda_z, pm_lda_s, pm_cat_n, pm_cat_i, pm_cat_r, pm_cat_l, pm_obj, pm_arr, pm_opt, pm_ird, pm_aln, List.getElem?_cons_zero, List.getElem?_cons_succ, List.set_cons_zero, List.set_cons_succ, List.length_cons, List.length_nil, List.length_set, true_and, and_true, Nat.add_zero, Nat.zero_add, Nat.le_refl, Nat.reduceAdd, Nat.reduceLT, Nat.reduceLeDiff, Nat.zero_le, not_false_eq_true, not_true_eq_false, false_implies, implies_true, true_implies, Nat.zero_lt_succ, Nat.lt_add_one, pm_tl_n, pm_tl_s, sc_uL, N0, k2, hg]
        refine PM_use (c_M_toFront K2 (p := 2) (by omega) (by omega) (show (li B 2).length ≤ 65 by omega) ((li B 1).getLastD (-1)) (d + 2)) ?_
        rintro x g3 k3 ⟨rfl, K3, F3⟩
        show W_X12_fits _ _ _ _ _ _ _ _ _
        simp only [w_X12_fits_49, pm_1i_c, pm_2i_c, pm_1l_c, pm_2l_c, pm_1a_c, pm_ia_c, pm_iia_c, pm_va_c, pm_cp_c, pm_k0_c, pm_k1_c, pm_k2_c, pm_k3_c, pm_s1_c, pm_s2_c, pm_s3_c, pm_s4_c, pm_ri_c, pm_ra_c, pm_rn_c, pm_rk_i, pm_rk_z, pm_rk_a, pm_vk_i, pm_vk_z, pm_vk_a, pm_cti, pm_ctr, pm_ldi_z, pm_ldi_s, pm_lda_z, pm_lda_s, pm_cat_n, pm_cat_i, pm_cat_r, pm_cat_l, pm_obj, pm_arr, pm_opt, pm_ird, pm_aln, List.getElem?_cons_zero, List.getElem?_cons_succ, List.set_cons_zero, List.set_cons_succ, List.length_cons, List.length_nil, List.length_set, true_and, and_true, Nat.add_zero, Nat.zero_add, Nat.le_refl, Nat.reduceAdd, Nat.reduceLT, Nat.reduceLeDiff, Nat.zero_le, not_false_eq_true, not_true_eq_false, false_implies, implies_true, true_implies, Nat.zero_lt_succ, Nat.lt_add_one, pm_tl_n, pm_tl_s, sc_uL, k2, k3, hg]
        have e : uL (drpR B 1) 2 ((li B 1).getLastD (-1) :: li (drpR B 1) 2) = mvD B 1 := (insR_c (A := drpR B 1) (q := 2) (show (li B 2).length ≤ 64 by omega) _).symm
        rw [e] at K3
        have m1 : (li (mvD B 1) 1).length + 1 = (li B 1).length := by
          rw [← e]
          show (li B 1).dropLast.length + 1 = _
          rw [List.length_dropLast]
          omega
        have m2 : (li (mvD B 1) 2).length = (li B 2).length + 1 := by rw [← e]; rfl
        have m3 : (li (mvD B 1) 3).length = (li B 3).length := by rw [← e]; rfl
        exact ih (mvD B 1) g3 K3 WB VB (by omega) (by unfold tot; omega) (by omega) ((hf.tr F2).tr F3)
      · rw [if_neg c]
        show W_X12_fits _ _ _ _ _ _ _ _ _
        simp only [w_X12_fits_36, pm_1i_c, pm_2i_c, pm_1l_c, pm_2l_c, pm_1a_c, pm_ia_c, pm_iia_c, pm_va_c, pm_cp_c, pm_k0_c, pm_k1_c, pm_k2_c, pm_k3_c, pm_s1_c, pm_s2_c, pm_s3_c, pm_s4_c, pm_ri_c, pm_ra_c, pm_rn_c, pm_rk_i, pm_rk_z, pm_rk_a, pm_vk_i, pm_vk_z, pm_vk_a, pm_cti, pm_ctr, pm_ldi_z, pm_ldi_s, pm_lda_z, pm_lda_s, pm_cat_n, pm_cat_i, pm_cat_r, pm_cat_l, pm_obj, pm_arr, pm_opt, pm_ird, pm_aln, List.getElem?_cons_zero, List.getElem?_cons_succ, List.set_cons_zero, List.set_cons_succ, List.length_cons, List.length_nil, List.length_set, true_and, and_true, Nat.add_zero, Nat.zero_add, Nat.le_refl, Nat.reduceAdd, Nat.reduceLT, Nat.reduceLeDiff, Nat.zero_le, not_false_eq_true, not_true_eq_false, false_implies, implies_true, true_implies, Nat.zero_lt_succ, Nat.lt_add_one, pm_tl_n, pm_tl_s, sc_uL, c]
        exact loop3 65 B g1 none none none none none none M WB VB (by omega) (by omega) hg hf
  have loop1 : ∀ n (B : AD) (g : pmH), md_ g m o B → wdV B → shV B → (li B 3).length ≤ n → tot B ≤ 64 → g.length = h.length → fr1 h g (m + 1) → W_X12_fits (d + 4) (h.length + 0) 0 (fun v h' => v = none ∧ md_ h' m o (fit3 65 (fit2 65 (fit1 n B))) ∧ fr1 h h' (m + 1)) 0 [some (.ref m), none, none, none, none, none, none] [] g 0 := by
    intro n
    induction n with
    | zero =>
      intro B g M WB VB hn hn2 hg hf
      have b := VB.b
      have ht2 := hn2
      unfold tot at hn2
      have H0 := M.1
      unfold mO at H0
      have c : ¬ nI (sN B) < nI (li B 3).length := nI_nlt (by omega) (by omega)
      have K := loop2 65 B g M WB VB (by omega) ht2 hg hf
      rw [w_X12_fits_0]
      simp only [w_X12_fits_1, w_X12_fits_2, pm_1i_c, pm_2i_c, pm_1l_c, pm_2l_c, pm_1a_c, pm_ia_c, pm_iia_c, pm_va_c, pm_cp_c, pm_k0_c, pm_k1_c, pm_k2_c, pm_k3_c, pm_s1_c, pm_s2_c, pm_s3_c, pm_s4_c, pm_ri_c, pm_ra_c, pm_rn_c, pm_rk_i, pm_rk_z, pm_rk_a, pm_vk_i, pm_vk_z, pm_vk_a, pm_cti, pm_ctr, pm_ldi_z, pm_ldi_s, pm_lda_z, pm_lda_s, pm_cat_n, pm_cat_i, pm_cat_r, pm_cat_l, pm_obj, pm_arr, pm_opt, pm_ird, pm_aln, List.getElem?_cons_zero, List.getElem?_cons_succ, List.set_cons_zero, List.set_cons_succ, List.length_cons, List.length_nil, List.length_set, true_and, and_true, Nat.add_zero, Nat.zero_add, Nat.le_refl, Nat.reduceAdd, Nat.reduceLT, Nat.reduceLeDiff, Nat.zero_le, not_false_eq_true, not_true_eq_false, false_implies, implies_true, true_implies, Nat.zero_lt_succ, Nat.lt_add_one, H0, hg]
      refine PM_use (c_M_many M (p := 3) (by omega) (by omega) (d + 2)) ?_
      rintro x g1 k1 ⟨rfl, rfl⟩
      show W_X12_fits _ _ _ _ _ _ _ _ _
      simp only [w_X12_fits_5, w_X12_fits_6, w_X12_fits_7, pm_1i_c, pm_2i_c, pm_1l_c, pm_2l_c, pm_1a_c, pm_ia_c, pm_iia_c, pm_va_c, pm_cp_c, pm_k0_c, pm_k1_c, pm_k2_c, pm_k3_c, pm_s1_c, pm_s2_c, pm_s3_c, pm_s4_c, pm_ri_c, pm_ra_c, pm_rn_c, pm_rk_i, pm_rk_z, pm_rk_a, pm_vk_i, pm_vk_z, pm_vk_a, pm_cti, pm_ctr, pm_ldi_z, pm_ldi_s, pm_lda_z, pm_lda_s, pm_cat_n, pm_cat_i, pm_cat_r, pm_cat_l, pm_obj, pm_arr, pm_opt, pm_ird, pm_aln, List.getElem?_cons_zero, List.getElem?_cons_succ, List.set_cons_zero, List.set_cons_succ, List.length_cons, List.length_nil, List.length_set, true_and, and_true, Nat.add_zero, Nat.zero_add, Nat.le_refl, Nat.reduceAdd, Nat.reduceLT, Nat.reduceLeDiff, Nat.zero_le, not_false_eq_true, not_true_eq_false, false_implies, implies_true, true_implies, Nat.zero_lt_succ, Nat.lt_add_one, pm_tl_n, pm_tl_s, sc_uL, H0, hg]
      refine PM_use (c_M_isFor M 3 (d + 3)) ?_
      rintro x g1 k1 ⟨rfl, rfl⟩
      rw [VB.p3]
      show W_X12_fits _ _ _ _ _ _ _ _ _
      simp only [w_X12_fits_10, pm_1i_c, pm_2i_c, pm_1l_c, pm_2l_c, pm_1a_c, pm_ia_c, pm_iia_c, pm_va_c, pm_cp_c, pm_k0_c, pm_k1_c, pm_k2_c, pm_k3_c, pm_s1_c, pm_s2_c, pm_s3_c, pm_s4_c, pm_ri_c, pm_ra_c, pm_rn_c, pm_rk_i, pm_rk_z, pm_rk_a, pm_vk_i, pm_vk_z, pm_vk_a, pm_cti, pm_ctr, pm_ldi_z, pm_ldi_s, pm_lda_z, pm_lda_s, pm_cat_n, pm_cat_i, pm_cat_r, pm_cat_l, pm_obj, pm_arr, pm_opt, pm_ird, pm_aln, List.getElem?_cons_zero, List.getElem?_cons_succ, List.set_cons_zero, List.set_cons_succ, List.length_cons, List.length_nil, List.length_set, true_and, and_true, Nat.add_zero, Nat.zero_add, Nat.le_refl, Nat.reduceAdd, Nat.reduceLT, Nat.reduceLeDiff, Nat.zero_le, not_false_eq_true, not_true_eq_false, false_implies, implies_true, true_implies, Nat.zero_lt_succ, Nat.lt_add_one, pm_tl_n, pm_tl_s, sc_uL, c]
      exact K
    | succ n ih =>
      intro B g M WB VB hn hn2 hg hf
      have b := VB.b
      have ht2 := hn2
      unfold tot at hn2
      have H0 := M.1
      unfold mO at H0
      have ef : fit1 (n + 1) B = if sfI (sc B 8) (sc B 9) (sc B 10) < nI (li B 3).length then fit1 n (mvD B 3) else B := rfl
      rw [ef, VB.s]
      rw [w_X12_fits_0]
      simp only [w_X12_fits_1, w_X12_fits_2, pm_1i_c, pm_2i_c, pm_1l_c, pm_2l_c, pm_1a_c, pm_ia_c, pm_iia_c, pm_va_c, pm_cp_c, pm_k0_c, pm_k1_c, pm_k2_c, pm_k3_c, pm_s1_c, pm_s2_c, pm_s3_c, pm_s4_c, pm_ri_c, pm_ra_c, pm_rn_c, pm_rk_i, pm_rk_z, pm_rk_a, pm_vk_i, pm_vk_z, pm_vk_a, pm_cti, pm_ctr, pm_ldi_z, pm_ldi_s, pm_lda_z, pm_lda_s, pm_cat_n, pm_cat_i, pm_cat_r, pm_cat_l, pm_obj, pm_arr, pm_opt, pm_ird, pm_aln, List.getElem?_cons_zero, List.getElem?_cons_succ, List.set_cons_zero, List.set_cons_succ, List.length_cons, List.length_nil, List.length_set, true_and, and_true, Nat.add_zero, Nat.zero_add, Nat.le_refl, Nat.reduceAdd, Nat.reduceLT, Nat.reduceLeDiff, Nat.zero_le, not_false_eq_true, not_true_eq_false, false_implies, implies_true, true_implies, Nat.zero_lt_succ, Nat.lt_add_one, H0, hg]
      refine PM_use (c_M_many M (p := 3) (by omega) (by omega) (d + 2)) ?_
      rintro x g1 k1 ⟨rfl, rfl⟩
      show W_X12_fits _ _ _ _ _ _ _ _ _
      simp only [w_X12_fits_5, w_X12_fits_6, w_X12_fits_7, pm_1i_c, pm_2i_c, pm_1l_c, pm_2l_c, pm_1a_c, pm_ia_c, pm_iia_c, pm_va_c, pm_cp_c, pm_k0_c, pm_k1_c, pm_k2_c, pm_k3_c, pm_s1_c, pm_s2_c, pm_s3_c, pm_s4_c, pm_ri_c, pm_ra_c, pm_rn_c, pm_rk_i, pm_rk_z, pm_rk_a, pm_vk_i, pm_vk_z, pm_vk_a, pm_cti, pm_ctr, pm_ldi_z, pm_ldi_s, pm_lda_z, pm_lda_s, pm_cat_n, pm_cat_i, pm_cat_r, pm_cat_l, pm_obj, pm_arr, pm_opt, pm_ird, pm_aln, List.getElem?_cons_zero, List.getElem?_cons_succ, List.set_cons_zero, List.set_cons_succ, List.length_cons, List.length_nil, List.length_set, true_and, and_true, Nat.add_zero, Nat.zero_add, Nat.le_refl, Nat.reduceAdd, Nat.reduceLT, Nat.reduceLeDiff, Nat.zero_le, not_false_eq_true, not_true_eq_false, false_implies, implies_true, true_implies, Nat.zero_lt_succ, Nat.lt_add_one, pm_tl_n, pm_tl_s, sc_uL, H0, hg]
      refine PM_use (c_M_isFor M 3 (d + 3)) ?_
      rintro x g1 k1 ⟨rfl, rfl⟩
      rw [VB.p3]
      by_cases c : nI (sN B) < nI (li B 3).length
      · rw [if_pos c]
        have cn_ : sN B < (li B 3).length := (nI_ltI (by omega) (by omega)).mp c
        show W_X12_fits _ _ _ _ _ _ _ _ _
        simp only [w_X12_fits_10, w_X12_fits_13, w_X12_fits_14, w_X12_fits_15, w_X12_fits_16, w_X12_fits_17, pm_1i_c, pm_2i_c, pm_1l_c, pm_2l_c, pm_1a_c, pm_ia_c, pm_iia_c, pm_va_c, pm_cp_c, pm_k0_c, pm_k1_c, pm_k2_c, pm_k3_c, pm_s1_c, pm_s2_c, pm_s3_c, pm_s4_c, pm_ri_c, pm_ra_c, pm_rn_c, pm_rk_i, pm_rk_z, pm_rk_a, pm_vk_i, pm_vk_z, pm_vk_a, pm_cti, pm_ctr, pm_ldi_z, pm_ldi_s, pm_lda_z, pm_lda_s, pm_cat_n, pm_cat_i, pm_cat_r, pm_cat_l, pm_obj, pm_arr, pm_opt, pm_ird, pm_aln, List.getElem?_cons_zero, List.getElem?_cons_succ, List.set_cons_zero, List.set_cons_succ, List.length_cons, List.length_nil, List.length_set, true_and, and_true, Nat.add_zero, Nat.zero_add, Nat.le_refl, Nat.reduceAdd, Nat.reduceLT, Nat.reduceLeDiff, Nat.zero_le, not_false_eq_true, not_true_eq_false, false_implies, implies_true, true_implies, Nat.zero_lt_succ, Nat.lt_add_one, pm_tl_n, pm_tl_s, sc_uL, c, H0, hg]
        refine PM_use (c_M_takesLast M (p := 3) (by omega) (by omega) (by omega) (d + 1)) ?_
        rintro x g2 k2 ⟨rfl, K2, F2⟩
        have N0 := K2.1
        unfold mO at N0
        show W_X12_fits _ _ _ _ _ _ _ _ _
        simp only [w_X12_fits_20, pm_1i_c, pm_2i_c, pm_1l_c, pm_2l_c, pm_1a_c, pm_ia_c, pm_iia_c, pm_va_c, pm_cp_c, pm_k0_c, pm_k1_c, pm_k2_c, pm_k3_c, pm_s1_c, pm_s2_c, pm_s3_c, pm_s4_c, pm_ri_c, pm_ra_c, pm_rn_c, pm_rk_i, pm_rk_z, pm_rk_a, pm_vk_i, pm_vk_z, pm_vk_a, pm_cti, pm_ctr, pm_ldi_z, pm_ldi_s, pm_lda_z, pm_lda_s, pm_cat_n, pm_cat_i, pm_cat_r, pm_cat_l, pm_obj, pm_arr, pm_opt, pm_ird, pm_aln, List.getElem?_cons_zero, List.getElem?_cons_succ, List.set_cons_zero, List.set_cons_succ, List.length_cons, List.length_nil, List.length_set, true_and, and_true, Nat.add_zero, Nat.zero_add, Nat.le_refl, Nat.reduceAdd, Nat.reduceLT, Nat.reduceLeDiff, Nat.zero_le, not_false_eq_true, not_true_eq_false, false_implies, implies_true, true_implies, Nat.zero_lt_succ, Nat.lt_add_one, pm_tl_n, pm_tl_s, sc_uL, N0, k2, hg]
        refine PM_use (c_M_toFront K2 (p := 2) (by omega) (by omega) (show (li B 2).length ≤ 65 by omega) ((li B 3).getLastD (-1)) (d + 2)) ?_
        rintro x g3 k3 ⟨rfl, K3, F3⟩
        show W_X12_fits _ _ _ _ _ _ _ _ _
        simp only [w_X12_fits_23, pm_1i_c, pm_2i_c, pm_1l_c, pm_2l_c, pm_1a_c, pm_ia_c, pm_iia_c, pm_va_c, pm_cp_c, pm_k0_c, pm_k1_c, pm_k2_c, pm_k3_c, pm_s1_c, pm_s2_c, pm_s3_c, pm_s4_c, pm_ri_c, pm_ra_c, pm_rn_c, pm_rk_i, pm_rk_z, pm_rk_a, pm_vk_i, pm_vk_z, pm_vk_a, pm_cti, pm_ctr, pm_ldi_z, pm_ldi_s, pm_lda_z, pm_lda_s, pm_cat_n, pm_cat_i, pm_cat_r, pm_cat_l, pm_obj, pm_arr, pm_opt, pm_ird, pm_aln, List.getElem?_cons_zero, List.getElem?_cons_succ, List.set_cons_zero, List.set_cons_succ, List.length_cons, List.length_nil, List.length_set, true_and, and_true, Nat.add_zero, Nat.zero_add, Nat.le_refl, Nat.reduceAdd, Nat.reduceLT, Nat.reduceLeDiff, Nat.zero_le, not_false_eq_true, not_true_eq_false, false_implies, implies_true, true_implies, Nat.zero_lt_succ, Nat.lt_add_one, pm_tl_n, pm_tl_s, sc_uL, k2, k3, hg]
        have e : uL (drpR B 3) 2 ((li B 3).getLastD (-1) :: li (drpR B 3) 2) = mvD B 3 := (insR_c (A := drpR B 3) (q := 2) (show (li B 2).length ≤ 64 by omega) _).symm
        rw [e] at K3
        have m1 : (li (mvD B 3) 3).length + 1 = (li B 3).length := by
          rw [← e]
          show (li B 3).dropLast.length + 1 = _
          rw [List.length_dropLast]
          omega
        have m2 : (li (mvD B 3) 2).length = (li B 2).length + 1 := by rw [← e]; rfl
        have m3 : (li (mvD B 3) 1).length = (li B 1).length := by rw [← e]; rfl
        exact ih (mvD B 3) g3 K3 WB VB (by omega) (by unfold tot; omega) (by omega) ((hf.tr F2).tr F3)
      · rw [if_neg c]
        show W_X12_fits _ _ _ _ _ _ _ _ _
        simp only [w_X12_fits_10, pm_1i_c, pm_2i_c, pm_1l_c, pm_2l_c, pm_1a_c, pm_ia_c, pm_iia_c, pm_va_c, pm_cp_c, pm_k0_c, pm_k1_c, pm_k2_c, pm_k3_c, pm_s1_c, pm_s2_c, pm_s3_c, pm_s4_c, pm_ri_c, pm_ra_c, pm_rn_c, pm_rk_i, pm_rk_z, pm_rk_a, pm_vk_i, pm_vk_z, pm_vk_a, pm_cti, pm_ctr, pm_ldi_z, pm_ldi_s, pm_lda_z, pm_lda_s, pm_cat_n, pm_cat_i, pm_cat_r, pm_cat_l, pm_obj, pm_arr, pm_opt, pm_ird, pm_aln, List.getElem?_cons_zero, List.getElem?_cons_succ, List.set_cons_zero, List.set_cons_succ, List.length_cons, List.length_nil, List.length_set, true_and, and_true, Nat.add_zero, Nat.zero_add, Nat.le_refl, Nat.reduceAdd, Nat.reduceLT, Nat.reduceLeDiff, Nat.zero_le, not_false_eq_true, not_true_eq_false, false_implies, implies_true, true_implies, Nat.zero_lt_succ, Nat.lt_add_one, pm_tl_n, pm_tl_s, sc_uL, c]
        exact loop2 65 B g1 M WB VB (by omega) ht2 hg hf
  refine en_X12_fits rfl ?_
  have ht2 := ht
  unfold tot at ht2
  exact loop1 65 A h H W V (by omega) ht rfl fr1.rf
end MI
