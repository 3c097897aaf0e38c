/-! AdmissionDeskModel: what stands between 'and' and 'and'. -/
section ML
variable {h0 h h' : pmH} {m : Nat} {o : Nat → Int32} {bs : List Int32} {p b dp n : Nat} {fa : Int32} {cs ks : List Int32} {s s' : LZ} {p1 n1 : Nat} {fa1 : Int32} {cs1 : List Int32}
set_option maxHeartbeats 2000000 in
theorem c_Y_atom (T : tap_ h0 m bs) (hdp : dp ≤ 8) {top : Bool} (ht : top = decide (8 ≤ dp)) {E : LZ → LZ} {D : Nat} (HE : dp < 8 → ∀ (f : Nat) (h : pmH) (s : LZ) (p b n : Nat) (fa : Int32) (cs : List Int32), pr_ h0 h m o bs p b (dp + 1) n fa cs ks → sm_ bs 4 s.1 p fa → fa = -1 → n = s.2.1 → n ≤ 60 → cs.length ≤ p → 400 ≤ f + s.1.1 → PM (D + 12 + f) 167 [.ref m] h (fun x h' => x = none ∧ ∃ p' b' n' fa' cs', pr_ h0 h' m o bs p' b' (dp + 1) n' fa' cs' ks ∧ Rl bs s (E s) cs p p' n' fa' cs')) : ∀ (f : Nat) (h : pmH) (s : LZ) (p b n : Nat) (fa : Int32) (cs : List Int32), pr_ h0 h m o bs p b dp n fa cs ks → sm_ bs 4 s.1 p fa → fa = -1 → n = s.2.1 → n ≤ 60 → cs.length ≤ p → 400 ≤ f + s.1.1 → PM (D + 12 + f + 1) 169 [.ref m] h (fun x h' => x = none ∧ ∃ p' b' n' fa' cs', pr_ h0 h' m o bs p' b' dp n' fa' cs' ks ∧ Rlb bs (ntF (cuF bs 4).1 f false s).1 s (atB (cuF bs 4).1 (cuF bs 4).2.2 top E (ntF (cuF bs 4).1 f false s).2) cs p p' n' fa' cs') := by
  have L4 := T.1
  have KL := cuF_kl1 (dm := 4) L4
  have body : ∀ (f : Nat) (h : pmH) (s : LZ) (p b n : Nat) (fa : Int32) (cs : List Int32) (q0 : Nat) (G : Nat → Nat → Int32 → List Int32 → Prop), (∀ p' n' fa' cs', Rl bs s (atB (cuF bs 4).1 (cuF bs 4).2.2 top E s) cs q0 p' n' fa' cs' → G p' n' fa' cs') → q0 ≤ p → pr_ h0 h m o bs p b dp n fa cs ks → sm_ bs 4 s.1 p fa → fa = -1 → n = s.2.1 → n ≤ 60 → cs.length ≤ q0 → 400 ≤ f + s.1.1 → W_X12_atom (D + 12 + f) (h.length + 0) 0 (fun x h' => x = none ∧ ∃ p' b' n' fa' cs', pr_ h0 h' m o bs p' b' dp n' fa' cs' ks ∧ G p' n' fa' cs') 30 [some (.ref m), none] [] h 0 := by
    intro f h s p b n fa cs q0 G hG hq P S hf hn hn2 hc hix
    have H0 := P.c0
    have k0 := skp_le (bs := bs) S.1
    have kk := skp_skp (bs := bs) S.1
    have sf := S.ff.mpr hf
    simp only [w_X12_atom_30, w_X12_atom_31, w_X12_atom_33, pm_1i_c, pm_2i_c, pm_1l_c, pm_2l_c, pm_1a_c, pm_ia_c, pm_iia_c, pm_va_c, pm_cp_c, pm_k0_c, pm_k1_c, pm_k2_c, pm_k3_c, pm_s1_c, pm_s2_c, pm_s3_c, pm_s4_c, pm_ri_c, pm_ra_c, pm_rn_c, pm_rk_i, pm_rk_z, pm_rk_a, pm_vk_i, pm_vk_z, pm_vk_a, pm_cti, pm_ctr, pm_ldi_z, pm_ldi_s, pm_lda_z, pm_lda_s, pm_cat_n, pm_cat_i, pm_cat_r, pm_cat_l, pm_obj, pm_arr, pm_opt, pm_ird, pm_aln, List.getElem?_cons_zero, List.getElem?_cons_succ, List.set_cons_zero, List.set_cons_succ, List.length_cons, List.length_nil, List.length_set, true_and, and_true, Nat.add_zero, Nat.zero_add, Nat.le_refl, Nat.reduceAdd, Nat.reduceLT, Nat.reduceLeDiff, Nat.zero_le, not_false_eq_true, not_true_eq_false, false_implies, implies_true, true_implies, Nat.zero_lt_succ, Nat.lt_add_one, H0]
    have dE : D + 12 + f = D + 9 + f + 3 := by omega
    rw [dE]
    refine PM_use (c_Y_isSign P T S sgn_40 (D + 9 + f)) ?_
    rintro x h1 l1 ⟨rfl, P1⟩
    rw [← dE]
    have H1 := P1.c0
    have l1' : h1.length = h.length := l1
    rcases Bool.eq_false_or_eq_true (taB (cuF bs 4).1 40 s.1) with c | c
    · have c' : taB (cuF bs 4).1 (nI 40) s.1 = true := c
      have ki : kiF (cuF bs 4).1 s.1 = 40 := by
        unfold kiF
        rw [if_pos sf]
        unfold taB at c
        rw [decide_eq_true_eq] at c
        exact c.2
      rw [if_pos c']
      by_cases c8 : dp = 8
      · have c8' : nI dp = 8 := by rw [c8]; rfl
        have tt : top = true := by rw [ht]; exact decide_eq_true (by omega)
        show W_X12_atom _ _ _ _ _ _ _ _ _
        simp only [w_X12_atom_36, w_X12_atom_39, w_X12_atom_40, w_X12_atom_43, w_X12_atom_45, w_X12_atom_48, w_X12_atom_49, w_X12_atom_50, w_X12_atom_53, pm_1i_c, pm_2i_c, pm_1l_c, pm_2l_c, pm_1a_c, pm_ia_c, pm_iia_c, pm_va_c, pm_cp_c, pm_k0_c, pm_k1_c, pm_k2_c, pm_k3_c, pm_s1_c, pm_s2_c, pm_s3_c, pm_s4_c, pm_ri_c, pm_ra_c, pm_rn_c, pm_rk_i, pm_rk_z, pm_rk_a, pm_vk_i, pm_vk_z, pm_vk_a, pm_cti, pm_ctr, pm_ldi_z, pm_ldi_s, pm_lda_z, pm_lda_s, pm_cat_n, pm_cat_i, pm_cat_r, pm_cat_l, pm_obj, pm_arr, pm_opt, pm_ird, pm_aln, List.getElem?_cons_zero, List.getElem?_cons_succ, List.set_cons_zero, List.set_cons_succ, List.length_cons, List.length_nil, List.length_set, true_and, and_true, Nat.add_zero, Nat.zero_add, Nat.le_refl, Nat.reduceAdd, Nat.reduceLT, Nat.reduceLeDiff, Nat.zero_le, not_false_eq_true, not_true_eq_false, false_implies, implies_true, true_implies, Nat.zero_lt_succ, Nat.lt_add_one, pm_tl_n, pm_tl_s, sc_uL, H1, l1', c8', show ¬ (1 : Int32) = 0 by decide]
        have d2 : D + 12 + f = D + 11 + f + 1 := by omega
        rw [d2]
        refine PM_use (c_Y_failsAt P1 (nI (skp bs p)) (D + 11 + f)) ?_
        rintro x h2 l2 ⟨rfl, P2⟩
        rw [← d2]
        show W_X12_atom _ _ _ _ _ _ _ _ _
        simp only [w_X12_atom_56, pm_1i_c, pm_2i_c, pm_1l_c, pm_2l_c, pm_1a_c, pm_ia_c, pm_iia_c, pm_va_c, pm_cp_c, pm_k0_c, pm_k1_c, pm_k2_c, pm_k3_c, pm_s1_c, pm_s2_c, pm_s3_c, pm_s4_c, pm_ri_c, pm_ra_c, pm_rn_c, pm_rk_i, pm_rk_z, pm_rk_a, pm_vk_i, pm_vk_z, pm_vk_a, pm_cti, pm_ctr, pm_ldi_z, pm_ldi_s, pm_lda_z, pm_lda_s, pm_cat_n, pm_cat_i, pm_cat_r, pm_cat_l, pm_obj, pm_arr, pm_opt, pm_ird, pm_aln, List.getElem?_cons_zero, List.getElem?_cons_succ, List.set_cons_zero, List.set_cons_succ, List.length_cons, List.length_nil, List.length_set, true_and, and_true, Nat.add_zero, Nat.zero_add, Nat.le_refl, Nat.reduceAdd, Nat.reduceLT, Nat.reduceLeDiff, Nat.zero_le, not_false_eq_true, not_true_eq_false, false_implies, implies_true, true_implies, Nat.zero_lt_succ, Nat.lt_add_one, pm_tl_n, pm_tl_s, sc_uL, l2, l1']
        have Kf := S.sk.fl L4
        rw [kk] at Kf
        refine ⟨_, _, _, _, _, P2, hG _ _ _ _ ?_⟩
        have ea : atB (cuF bs 4).1 (cuF bs 4).2.2 top E s = lFa s := by
          unfold atB
          rw [if_pos ⟨ki, tt⟩]
        rw [ea]
        refine ⟨Kf, by omega, by omega, fun z => ?_⟩
        rw [if_pos hf] at z
        exact absurd z (nI_ne1 (by omega))
      · have c8' : ¬ nI dp = 8 := fun z => c8 ((nI_inj (b := 8) (by omega) (by omega)).mp z)
        have tt : ¬ (kiF (cuF bs 4).1 s.1 = 40 ∧ top = true) := fun z => by
          rw [ht, decide_eq_true_eq] at z
          omega
        obtain ⟨h2, E2, l2, P2⟩ := P1.uf (skp bs p) (skp bs p) (dp + 1) n fa
        have l2' : h2.length = h.length := l2.trans l1'
        show W_X12_atom _ _ _ _ _ _ _ _ _
        simp only [w_X12_atom_36, w_X12_atom_39, w_X12_atom_40, w_X12_atom_43, w_X12_atom_45, w_X12_atom_48, w_X12_atom_49, w_X12_atom_50, w_X12_atom_53, w_X12_atom_56, w_X12_atom_57, w_X12_atom_58, w_X12_atom_59, w_X12_atom_62, w_X12_atom_63, w_X12_atom_64, pm_1i_c, pm_2i_c, pm_1l_c, pm_2l_c, pm_1a_c, pm_ia_c, pm_iia_c, pm_va_c, pm_cp_c, pm_k0_c, pm_k1_c, pm_k2_c, pm_k3_c, pm_s1_c, pm_s2_c, pm_s3_c, pm_s4_c, pm_ri_c, pm_ra_c, pm_rn_c, pm_rk_i, pm_rk_z, pm_rk_a, pm_vk_i, pm_vk_z, pm_vk_a, pm_cti, pm_ctr, pm_ldi_z, pm_ldi_s, pm_lda_z, pm_lda_s, pm_cat_n, pm_cat_i, pm_cat_r, pm_cat_l, pm_obj, pm_arr, pm_opt, pm_ird, pm_aln, List.getElem?_cons_zero, List.getElem?_cons_succ, List.set_cons_zero, List.set_cons_succ, List.length_cons, List.length_nil, List.length_set, true_and, and_true, Nat.add_zero, Nat.zero_add, Nat.le_refl, Nat.reduceAdd, Nat.reduceLT, Nat.reduceLeDiff, Nat.zero_le, not_false_eq_true, not_true_eq_false, false_implies, implies_true, true_implies, Nat.zero_lt_succ, Nat.lt_add_one, pm_tl_n, pm_tl_s, sc_uL, H1, l1', c8', nI_1, show ¬ (1 : Int32) = 0 by decide]
        rw [E2]
        have H2 := P2.c0
        simp only [w_X12_atom_67, w_X12_atom_68, w_X12_atom_70, pm_1i_c, pm_2i_c, pm_1l_c, pm_2l_c, pm_1a_c, pm_ia_c, pm_iia_c, pm_va_c, pm_cp_c, pm_k0_c, pm_k1_c, pm_k2_c, pm_k3_c, pm_s1_c, pm_s2_c, pm_s3_c, pm_s4_c, pm_ri_c, pm_ra_c, pm_rn_c, pm_rk_i, pm_rk_z, pm_rk_a, pm_vk_i, pm_vk_z, pm_vk_a, pm_cti, pm_ctr, pm_ldi_z, pm_ldi_s, pm_lda_z, pm_lda_s, pm_cat_n, pm_cat_i, pm_cat_r, pm_cat_l, pm_obj, pm_arr, pm_opt, pm_ird, pm_aln, List.getElem?_cons_zero, List.getElem?_cons_succ, List.set_cons_zero, List.set_cons_succ, List.length_cons, List.length_nil, List.length_set, true_and, and_true, Nat.add_zero, Nat.zero_add, Nat.le_refl, Nat.reduceAdd, Nat.reduceLT, Nat.reduceLeDiff, Nat.zero_le, not_false_eq_true, not_true_eq_false, false_implies, implies_true, true_implies, Nat.zero_lt_succ, Nat.lt_add_one, H2, l2']
        have d3 : D + 12 + f = D + 7 + f + 5 := by omega
        rw [d3]
        refine PM_use (c_Y_asksSign P2 T S.sk sgn_40 (D + 7 + f)) ?_
        rintro x h3 l3 ⟨rfl, p3, b3, fa3, P3, S3, le3, -, lt3⟩
        rw [← d3]
        have H3 := P3.c0
        have l3' : h3.length = h.length := l3.trans l2'
        obtain ⟨s2, hs2⟩ : ∃ s2 : LZ, s2 = ((s.1.1 + 1, s.1.2), s.2) := ⟨_, rfl⟩
        have e3 : neF (cuF bs 4).1 (nI 40) s.1 = (s.1.1 + 1, s.1.2) := by
          unfold neF
          rw [if_pos c']
        have hs21 : s2.1 = (s.1.1 + 1, s.1.2) := by rw [hs2]
        have hs22 : s2.2 = s.2 := by rw [hs2]
        have hs23 : s2.1.1 = s.1.1 + 1 := by rw [hs2]
        rw [e3, ← hs21] at S3
        have f3 : fa3 = -1 := S3.ff.mp (by rw [hs21]; exact sf)
        have lt3 := lt3 f3
        show W_X12_atom _ _ _ _ _ _ _ _ _
        simp only [w_X12_atom_73, w_X12_atom_74, pm_1i_c, pm_2i_c, pm_1l_c, pm_2l_c, pm_1a_c, pm_ia_c, pm_iia_c, pm_va_c, pm_cp_c, pm_k0_c, pm_k1_c, pm_k2_c, pm_k3_c, pm_s1_c, pm_s2_c, pm_s3_c, pm_s4_c, pm_ri_c, pm_ra_c, pm_rn_c, pm_rk_i, pm_rk_z, pm_rk_a, pm_vk_i, pm_vk_z, pm_vk_a, pm_cti, pm_ctr, pm_ldi_z, pm_ldi_s, pm_lda_z, pm_lda_s, pm_cat_n, pm_cat_i, pm_cat_r, pm_cat_l, pm_obj, pm_arr, pm_opt, pm_ird, pm_aln, List.getElem?_cons_zero, List.getElem?_cons_succ, List.set_cons_zero, List.set_cons_succ, List.length_cons, List.length_nil, List.length_set, true_and, and_true, Nat.add_zero, Nat.zero_add, Nat.le_refl, Nat.reduceAdd, Nat.reduceLT, Nat.reduceLeDiff, Nat.zero_le, not_false_eq_true, not_true_eq_false, false_implies, implies_true, true_implies, Nat.zero_lt_succ, Nat.lt_add_one, pm_tl_n, pm_tl_s, sc_uL, H3, l3']
        refine PM_use (HE (by omega) f h3 s2 p3 b3 n fa3 cs P3 S3 f3 (by rw [hs22]; exact hn) hn2 (by omega) (by omega)) ?_
        rintro x h4 l4 ⟨rfl, p4, b4, n4, fa4, cs4, P4, R4⟩
        have H4 := P4.c0
        have l4' : h4.length = h.length := l4.trans l3'
        obtain ⟨Y, hY⟩ : ∃ Y, Y = E s2 := ⟨_, rfl⟩
        rw [← hY] at R4
        have ea : atB (cuF bs 4).1 (cuF bs 4).2.2 top E s = lNd (cuF bs 4).1 41 Y := by
          unfold atB
          rw [if_neg tt, if_pos c, lTk_yes c, ← hs2, ← hY]
        rw [ea] at hG
        show W_X12_atom _ _ _ _ _ _ _ _ _
        simp only [w_X12_atom_77, w_X12_atom_78, w_X12_atom_80, pm_1i_c, pm_2i_c, pm_1l_c, pm_2l_c, pm_1a_c, pm_ia_c, pm_iia_c, pm_va_c, pm_cp_c, pm_k0_c, pm_k1_c, pm_k2_c, pm_k3_c, pm_s1_c, pm_s2_c, pm_s3_c, pm_s4_c, pm_ri_c, pm_ra_c, pm_rn_c, pm_rk_i, pm_rk_z, pm_rk_a, pm_vk_i, pm_vk_z, pm_vk_a, pm_cti, pm_ctr, pm_ldi_z, pm_ldi_s, pm_lda_z, pm_lda_s, pm_cat_n, pm_cat_i, pm_cat_r, pm_cat_l, pm_obj, pm_arr, pm_opt, pm_ird, pm_aln, List.getElem?_cons_zero, List.getElem?_cons_succ, List.set_cons_zero, List.set_cons_succ, List.length_cons, List.length_nil, List.length_set, true_and, and_true, Nat.add_zero, Nat.zero_add, Nat.le_refl, Nat.reduceAdd, Nat.reduceLT, Nat.reduceLeDiff, Nat.zero_le, not_false_eq_true, not_true_eq_false, false_implies, implies_true, true_implies, Nat.zero_lt_succ, Nat.lt_add_one, pm_tl_n, pm_tl_s, sc_uL, H4, l4']
        rw [d3]
        refine PM_use (c_Y_asksSign P4 T R4.1 sgn_41 (D + 7 + f)) ?_
        rintro x h5 l5 ⟨rfl, p5, b5, fa5, P5, S5, le5, ff5, lt5⟩
        rw [← d3]
        have H5 := P5.c0
        have l5' : h5.length = h.length := l5.trans l4'
        obtain ⟨h6, E6, l6, P6⟩ := P5.uf p5 b5 dp n4 fa5
        have dd : nI (dp + 1) - 1 = nI dp := by
          rw [show (1 : Int32) = nI 1 from rfl, pk_sub (by omega)]
          exact congrArg nI (by omega)
        show W_X12_atom _ _ _ _ _ _ _ _ _
        simp only [w_X12_atom_83, w_X12_atom_84, w_X12_atom_85, w_X12_atom_88, w_X12_atom_89, w_X12_atom_90, w_X12_atom_93, w_X12_atom_167, pm_1i_c, pm_2i_c, pm_1l_c, pm_2l_c, pm_1a_c, pm_ia_c, pm_iia_c, pm_va_c, pm_cp_c, pm_k0_c, pm_k1_c, pm_k2_c, pm_k3_c, pm_s1_c, pm_s2_c, pm_s3_c, pm_s4_c, pm_ri_c, pm_ra_c, pm_rn_c, pm_rk_i, pm_rk_z, pm_rk_a, pm_vk_i, pm_vk_z, pm_vk_a, pm_cti, pm_ctr, pm_ldi_z, pm_ldi_s, pm_lda_z, pm_lda_s, pm_cat_n, pm_cat_i, pm_cat_r, pm_cat_l, pm_obj, pm_arr, pm_opt, pm_ird, pm_aln, List.getElem?_cons_zero, List.getElem?_cons_succ, List.set_cons_zero, List.set_cons_succ, List.length_cons, List.length_nil, List.length_set, true_and, and_true, Nat.add_zero, Nat.zero_add, Nat.le_refl, Nat.reduceAdd, Nat.reduceLT, Nat.reduceLeDiff, Nat.zero_le, not_false_eq_true, not_true_eq_false, false_implies, implies_true, true_implies, Nat.zero_lt_succ, Nat.lt_add_one, pm_tl_n, pm_tl_s, sc_uL, H5, l5', dd]
        rw [E6]
        refine ⟨_, _, _, _, _, P6, hG _ _ _ _ ?_⟩
        refine R4.br hs22 hs23 (by omega) S5 le5 (fun y => (ff5 y).1) (fun y => ?_)
        unfold lNd neF
        dsimp only
        split
        · exact Nat.le_succ _
        · unfold faF
          split <;> exact Nat.le_refl _
    · have c' : ¬ taB (cuF bs 4).1 (nI 40) s.1 = true := by
        rw [show nI 40 = 40 from rfl, c]
        decide
      rw [if_neg c']
      have ea : atB (cuF bs 4).1 (cuF bs 4).2.2 top E s = atC (cuF bs 4).1 (cuF bs 4).2.2 s := by
        unfold atB
        rw [if_neg (fun z => ?_), if_neg (by rw [c]; decide)]
        have z1 := z.1
        unfold kiF at z1
        rw [if_pos sf] at z1
        unfold taB at c
        rw [decide_eq_false_iff_not] at c
        exact c ⟨sf, z1⟩
      rw [ea] at hG
      have K := c_Y_cmp P1 T S.sk hf hn hn2 (q0 := q0) (by omega) hc hG (D + 5 + f)
      rw [l1', show D + 5 + f + 7 = D + 12 + f by omega] at K
      show W_X12_atom _ _ _ _ _ _ _ _ _
      simp only [w_X12_atom_36, pm_1i_c, pm_2i_c, pm_1l_c, pm_2l_c, pm_1a_c, pm_ia_c, pm_iia_c, pm_va_c, pm_cp_c, pm_k0_c, pm_k1_c, pm_k2_c, pm_k3_c, pm_s1_c, pm_s2_c, pm_s3_c, pm_s4_c, pm_ri_c, pm_ra_c, pm_rn_c, pm_rk_i, pm_rk_z, pm_rk_a, pm_vk_i, pm_vk_z, pm_vk_a, pm_cti, pm_ctr, pm_ldi_z, pm_ldi_s, pm_lda_z, pm_lda_s, pm_cat_n, pm_cat_i, pm_cat_r, pm_cat_l, pm_obj, pm_arr, pm_opt, pm_ird, pm_aln, List.getElem?_cons_zero, List.getElem?_cons_succ, List.set_cons_zero, List.set_cons_succ, List.length_cons, List.length_nil, List.length_set, true_and, and_true, Nat.add_zero, Nat.zero_add, Nat.le_refl, Nat.reduceAdd, Nat.reduceLT, Nat.reduceLeDiff, Nat.zero_le, not_false_eq_true, not_true_eq_false, false_implies, implies_true, true_implies, Nat.zero_lt_succ, Nat.lt_add_one, pm_tl_n, pm_tl_s, sc_uL, l1']
      exact K
  have start : ∀ (f : Nat) (h : pmH) (s : LZ) (p b n : Nat) (fa : Int32) (cs : List Int32), pr_ h0 h m o bs p b dp n fa cs ks → sm_ bs 4 s.1 p fa → fa = -1 → n = s.2.1 → n ≤ 60 → cs.length ≤ p → 400 ≤ f + s.1.1 → (∀ (h1 : pmH) (p1 b1 : Nat), taB (cuF bs 4).1 266 s.1 = true → pr_ h0 h1 m o bs p1 b1 dp n fa cs ks → sm_ bs 4 (taF (cuF bs 4).1 266 s.1) p1 fa → p < p1 → h1.length = h.length → W_X12_atom (D + 12 + f) (h.length + 0) 0 (fun x h' => x = none ∧ ∃ p' b' n' fa' cs', pr_ h0 h' m o bs p' b' dp n' fa' cs' ks ∧ Rlb bs (ntF (cuF bs 4).1 f false s).1 s (atB (cuF bs 4).1 (cuF bs 4).2.2 top E (ntF (cuF bs 4).1 f false s).2) cs p p' n' fa' cs') 17 [some (.ref m), none] [] h1 0) → PM (D + 12 + f + 1) 169 [.ref m] h (fun x h' => x = none ∧ ∃ p' b' n' fa' cs', pr_ h0 h' m o bs p' b' dp n' fa' cs' ks ∧ Rlb bs (ntF (cuF bs 4).1 f false s).1 s (atB (cuF bs 4).1 (cuF bs 4).2.2 top E (ntF (cuF bs 4).1 f false s).2) cs p p' n' fa' cs') := by
    intro f h s p b n fa cs P S hf hn hn2 hc hix yes
    refine en_X12_atom rfl ?_
    have H0 := P.c0
    have sf := S.ff.mpr hf
    simp only [w_X12_atom_0, w_X12_atom_1, pm_1i_c, pm_2i_c, pm_1l_c, pm_2l_c, pm_1a_c, pm_ia_c, pm_iia_c, pm_va_c, pm_cp_c, pm_k0_c, pm_k1_c, pm_k2_c, pm_k3_c, pm_s1_c, pm_s2_c, pm_s3_c, pm_s4_c, pm_ri_c, pm_ra_c, pm_rn_c, pm_rk_i, pm_rk_z, pm_rk_a, pm_vk_i, pm_vk_z, pm_vk_a, pm_cti, pm_ctr, pm_ldi_z, pm_ldi_s, pm_lda_z, pm_lda_s, pm_cat_n, pm_cat_i, pm_cat_r, pm_cat_l, pm_obj, pm_arr, pm_opt, pm_ird, pm_aln, List.getElem?_cons_zero, List.getElem?_cons_succ, List.set_cons_zero, List.set_cons_succ, List.length_cons, List.length_nil, List.length_set, true_and, and_true, Nat.add_zero, Nat.zero_add, Nat.le_refl, Nat.reduceAdd, Nat.reduceLT, Nat.reduceLeDiff, Nat.zero_le, not_false_eq_true, not_true_eq_false, false_implies, implies_true, true_implies, Nat.zero_lt_succ, Nat.lt_add_one, H0]
    have d1 : D + 12 + f = D + 11 + f + 1 := by omega
    have d4 : D + 11 + f + 1 = D + 8 + f + 4 := by omega
    rw [d1]
    refine PM_use (c_Y_hasFailed P (D + 11 + f)) ?_
    rintro x hA lA ⟨rfl, rfl⟩
    simp only [if_pos hf]
    show W_X12_atom _ _ _ _ _ _ _ _ _
    simp only [w_X12_atom_4, w_X12_atom_8, w_X12_atom_9, w_X12_atom_11, pm_1i_c, pm_2i_c, pm_1l_c, pm_2l_c, pm_1a_c, pm_ia_c, pm_iia_c, pm_va_c, pm_cp_c, pm_k0_c, pm_k1_c, pm_k2_c, pm_k3_c, pm_s1_c, pm_s2_c, pm_s3_c, pm_s4_c, pm_ri_c, pm_ra_c, pm_rn_c, pm_rk_i, pm_rk_z, pm_rk_a, pm_vk_i, pm_vk_z, pm_vk_a, pm_cti, pm_ctr, pm_ldi_z, pm_ldi_s, pm_lda_z, pm_lda_s, pm_cat_n, pm_cat_i, pm_cat_r, pm_cat_l, pm_obj, pm_arr, pm_opt, pm_ird, pm_aln, List.getElem?_cons_zero, List.getElem?_cons_succ, List.set_cons_zero, List.set_cons_succ, List.length_cons, List.length_nil, List.length_set, true_and, and_true, Nat.add_zero, Nat.zero_add, Nat.le_refl, Nat.reduceAdd, Nat.reduceLT, Nat.reduceLeDiff, Nat.zero_le, not_false_eq_true, not_true_eq_false, false_implies, implies_true, true_implies, Nat.zero_lt_succ, Nat.lt_add_one, pm_tl_n, pm_tl_s, sc_uL, H0]
    rw [d4]
    refine PM_use (c_Y_takesWord P T S wdk_not (a := 1000003) rfl (D + 8 + f)) ?_
    rintro x h1 l1 ⟨rfl, p1, b1, P1, S1, le1, lt1, at1, -⟩
    rw [← d4, ← d1]
    have l1' : h1.length = hA.length := l1
    rcases Bool.eq_false_or_eq_true (taB (cuF bs 4).1 266 s.1) with c | c
    · have c' : taB (cuF bs 4).1 (nI (256 + 10)) s.1 = true := c
      rw [if_pos c']
      show W_X12_atom _ _ _ _ _ _ _ _ _
      simp only [w_X12_atom_14, pm_1i_c, pm_2i_c, pm_1l_c, pm_2l_c, pm_1a_c, pm_ia_c, pm_iia_c, pm_va_c, pm_cp_c, pm_k0_c, pm_k1_c, pm_k2_c, pm_k3_c, pm_s1_c, pm_s2_c, pm_s3_c, pm_s4_c, pm_ri_c, pm_ra_c, pm_rn_c, pm_rk_i, pm_rk_z, pm_rk_a, pm_vk_i, pm_vk_z, pm_vk_a, pm_cti, pm_ctr, pm_ldi_z, pm_ldi_s, pm_lda_z, pm_lda_s, pm_cat_n, pm_cat_i, pm_cat_r, pm_cat_l, pm_obj, pm_arr, pm_opt, pm_ird, pm_aln, List.getElem?_cons_zero, List.getElem?_cons_succ, List.set_cons_zero, List.set_cons_succ, List.length_cons, List.length_nil, List.length_set, true_and, and_true, Nat.add_zero, Nat.zero_add, Nat.le_refl, Nat.reduceAdd, Nat.reduceLT, Nat.reduceLeDiff, Nat.zero_le, not_false_eq_true, not_true_eq_false, false_implies, implies_true, true_implies, Nat.zero_lt_succ, Nat.lt_add_one, pm_tl_n, pm_tl_s, sc_uL, show ¬ (1 : Int32) = 0 by decide]
      exact yes h1 p1 b1 c P1 S1 (lt1 c') l1'
    · have c' : taB (cuF bs 4).1 (nI (256 + 10)) s.1 = false := c
      rw [if_neg (by rw [c']; decide)]
      have k0 := skp_le (bs := bs) S.1
      obtain ⟨e1, e2⟩ := at1 c' hf
      have es : taF (cuF bs 4).1 (nI (256 + 10)) s.1 = s.1 := by
        unfold taF
        rw [if_neg (by rw [c']; decide)]
      rw [es] at S1
      have en : ntF (cuF bs 4).1 f false s = (false, s) := by
        cases f with
        | zero => rfl
        | succ f => rw [ntF_s, if_neg (by rw [c]; decide)]
      rw [en]
      have K := body f h1 s p1 b1 n fa cs p _ (fun _ _ _ _ R => R.b) le1 P1 S1 hf hn hn2 hc hix
      rw [l1'] at K
      show W_X12_atom _ _ _ _ _ _ _ _ _
      simp only [w_X12_atom_14, pm_1i_c, pm_2i_c, pm_1l_c, pm_2l_c, pm_1a_c, pm_ia_c, pm_iia_c, pm_va_c, pm_cp_c, pm_k0_c, pm_k1_c, pm_k2_c, pm_k3_c, pm_s1_c, pm_s2_c, pm_s3_c, pm_s4_c, pm_ri_c, pm_ra_c, pm_rn_c, pm_rk_i, pm_rk_z, pm_rk_a, pm_vk_i, pm_vk_z, pm_vk_a, pm_cti, pm_ctr, pm_ldi_z, pm_ldi_s, pm_lda_z, pm_lda_s, pm_cat_n, pm_cat_i, pm_cat_r, pm_cat_l, pm_obj, pm_arr, pm_opt, pm_ird, pm_aln, List.getElem?_cons_zero, List.getElem?_cons_succ, List.set_cons_zero, List.set_cons_succ, List.length_cons, List.length_nil, List.length_set, true_and, and_true, Nat.add_zero, Nat.zero_add, Nat.le_refl, Nat.reduceAdd, Nat.reduceLT, Nat.reduceLeDiff, Nat.zero_le, not_false_eq_true, not_true_eq_false, false_implies, implies_true, true_implies, Nat.zero_lt_succ, Nat.lt_add_one, pm_tl_n, pm_tl_s, sc_uL, l1']
      exact K
  intro f
  induction f with
  | zero =>
    intro h s p b n fa cs P S hf hn hn2 hc hix
    refine start 0 h s p b n fa cs P S hf hn hn2 hc hix (fun h1 p1 b1 c _ _ _ _ => ?_)
    have := (taB_ll (by decide) c).2
    omega
  | succ f ih =>
    intro h s p b n fa cs P S hf hn hn2 hc hix
    refine start (f + 1) h s p b n fa cs P S hf hn hn2 hc hix (fun h1 p1 b1 c P1 S1 lt1 l1 => ?_)
    have H1 := P1.c0
    obtain ⟨s2, hs2⟩ : ∃ s2 : LZ, s2 = ((s.1.1 + 1, s.1.2), s.2) := ⟨_, rfl⟩
    have hs21 : s2.1 = (s.1.1 + 1, s.1.2) := by rw [hs2]
    have hs22 : s2.2 = s.2 := by rw [hs2]
    have hs23 : s2.1.1 = s.1.1 + 1 := by rw [hs2]
    have et : taF (cuF bs 4).1 266 s.1 = (s.1.1 + 1, s.1.2) := by
      unfold taF
      rw [if_pos c]
    rw [et, ← hs21] at S1
    have en : ntF (cuF bs 4).1 (f + 1) false s = (!(ntF (cuF bs 4).1 f false s2).1, (ntF (cuF bs 4).1 f false s2).2) := by
      rw [ntF_s, if_pos c, lTk_yes c, ← hs2, ntF_b f (!false)]
      cases (ntF (cuF bs 4).1 f false s2).1 <;> rfl
    rw [en]
    obtain ⟨w, hw⟩ : ∃ w, w = (ntF (cuF bs 4).1 f false s2) := ⟨_, rfl⟩
    have I := ih h1 s2 p1 b1 n fa cs P1 S1 hf (by rw [hs22]; exact hn) hn2 (by omega) (by omega)
    rw [← hw] at I ⊢
    simp only [w_X12_atom_17, w_X12_atom_18, pm_1i_c, pm_2i_c, pm_1l_c, pm_2l_c, pm_1a_c, pm_ia_c, pm_iia_c, pm_va_c, pm_cp_c, pm_k0_c, pm_k1_c, pm_k2_c, pm_k3_c, pm_s1_c, pm_s2_c, pm_s3_c, pm_s4_c, pm_ri_c, pm_ra_c, pm_rn_c, pm_rk_i, pm_rk_z, pm_rk_a, pm_vk_i, pm_vk_z, pm_vk_a, pm_cti, pm_ctr, pm_ldi_z, pm_ldi_s, pm_lda_z, pm_lda_s, pm_cat_n, pm_cat_i, pm_cat_r, pm_cat_l, pm_obj, pm_arr, pm_opt, pm_ird, pm_aln, List.getElem?_cons_zero, List.getElem?_cons_succ, List.set_cons_zero, List.set_cons_succ, List.length_cons, List.length_nil, List.length_set, true_and, and_true, Nat.add_zero, Nat.zero_add, Nat.le_refl, Nat.reduceAdd, Nat.reduceLT, Nat.reduceLeDiff, Nat.zero_le, not_false_eq_true, not_true_eq_false, false_implies, implies_true, true_implies, Nat.zero_lt_succ, Nat.lt_add_one, H1, l1]
    refine PM_use (I) ?_
    rintro x h2 l2 ⟨rfl, p2, b2, n2, fa2, cs2, P2, R2⟩
    have H2 := P2.c0
    have l2' : h2.length = h.length := l2.trans l1
    have c5 : cs2.length < 500 := by
      have := R2.2.2.1
      have := R2.1.1
      omega
    show W_X12_atom _ _ _ _ _ _ _ _ _
    simp only [w_X12_atom_21, w_X12_atom_22, w_X12_atom_24, pm_1i_c, pm_2i_c, pm_1l_c, pm_2l_c, pm_1a_c, pm_ia_c, pm_iia_c, pm_va_c, pm_cp_c, pm_k0_c, pm_k1_c, pm_k2_c, pm_k3_c, pm_s1_c, pm_s2_c, pm_s3_c, pm_s4_c, pm_ri_c, pm_ra_c, pm_rn_c, pm_rk_i, pm_rk_z, pm_rk_a, pm_vk_i, pm_vk_z, pm_vk_a, pm_cti, pm_ctr, pm_ldi_z, pm_ldi_s, pm_lda_z, pm_lda_s, pm_cat_n, pm_cat_i, pm_cat_r, pm_cat_l, pm_obj, pm_arr, pm_opt, pm_ird, pm_aln, List.getElem?_cons_zero, List.getElem?_cons_succ, List.set_cons_zero, List.set_cons_succ, List.length_cons, List.length_nil, List.length_set, true_and, and_true, Nat.add_zero, Nat.zero_add, Nat.le_refl, Nat.reduceAdd, Nat.reduceLT, Nat.reduceLeDiff, Nat.zero_le, not_false_eq_true, not_true_eq_false, false_implies, implies_true, true_implies, Nat.zero_lt_succ, Nat.lt_add_one, pm_tl_n, pm_tl_s, sc_uL, H2, l2']
    refine PM_use (c_Y_codes P2 25 c5 (D + 12 + f)) ?_
    rintro x h3 l3 ⟨rfl, P3⟩
    show W_X12_atom _ _ _ _ _ _ _ _ _
    simp only [w_X12_atom_27, w_X12_atom_167, pm_1i_c, pm_2i_c, pm_1l_c, pm_2l_c, pm_1a_c, pm_ia_c, pm_iia_c, pm_va_c, pm_cp_c, pm_k0_c, pm_k1_c, pm_k2_c, pm_k3_c, pm_s1_c, pm_s2_c, pm_s3_c, pm_s4_c, pm_ri_c, pm_ra_c, pm_rn_c, pm_rk_i, pm_rk_z, pm_rk_a, pm_vk_i, pm_vk_z, pm_vk_a, pm_cti, pm_ctr, pm_ldi_z, pm_ldi_s, pm_lda_z, pm_lda_s, pm_cat_n, pm_cat_i, pm_cat_r, pm_cat_l, pm_obj, pm_arr, pm_opt, pm_ird, pm_aln, List.getElem?_cons_zero, List.getElem?_cons_succ, List.set_cons_zero, List.set_cons_succ, List.length_cons, List.length_nil, List.length_set, true_and, and_true, Nat.add_zero, Nat.zero_add, Nat.le_refl, Nat.reduceAdd, Nat.reduceLT, Nat.reduceLeDiff, Nat.zero_le, not_false_eq_true, not_true_eq_false, false_implies, implies_true, true_implies, Nat.zero_lt_succ, Nat.lt_add_one, pm_tl_n, pm_tl_s, sc_uL, l3, l2']
    exact ⟨_, _, _, _, _, P3, R2.nt hs22 hs23 lt1⟩
end ML
