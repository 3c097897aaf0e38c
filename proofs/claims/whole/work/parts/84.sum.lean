/-! AdmissionDeskModel: a sum of a law, against the class's. -/
section ML
variable {h0 h h' : pmH} {m : Nat} {o : Nat → Int32} {bs : List Int32} {p b dp n : Nat} {fa : Int32} {cs ks : List Int32} {s s' s'' s3 : LZ} {p1 p2 p3 n1 n3 : Nat} {fa1 fa3 c c' : Int32} {cs1 cs3 : List Int32}
theorem Rl_join (R1 : Rl bs s s' cs p p1 n1 fa1 cs1) (hf1 : fa1 = -1) (e2 : s''.2 = s'.2) (e3 : s''.1.1 = s'.1.1 + 1) (hp : p1 < p2) (R2 : Rl bs s'' s3 cs1 p2 p3 n3 fa3 cs3) (c1 : c < 16) (c2 : ¬ c < 8) (c3 : ¬ c = 13) (d1 : c' < 1000) (d2 : ¬ c' < 20) (d3 : ¬ c' = 25) (hj : ∀ l r, jnI c l r = mjn c' l r) : Rl bs s (lSt c s3) cs p p3 n3 fa3 (cs3 ++ [c']) := by
  obtain ⟨a1, a2, a3, a4⟩ := R1
  obtain ⟨b1, b2, b3, b4⟩ := R2
  refine ⟨b1, by omega, ?_, fun z => ?_⟩
  · rw [List.length_append]
    show cs3.length + 1 + p ≤ _
    omega
  · obtain ⟨u1, u2, u3, u4, e1, e1', z1, u5, u6, u7, u8⟩ := a4 hf1
    obtain ⟨v1, v2, v3, v4, f1, f1', z2, v5, v6, v7, v8⟩ := b4 z
    have q1 : s''.2.1 = s'.2.1 := congrArg (fun z => z.1) e2
    have q2 : s''.2.2 = s'.2.2 := congrArg (fun z => z.2) e2
    refine ⟨by omega, by show s.1.1 < s3.1.1; omega, v3, v4, e1 ++ f1 ++ [c], e1' ++ f1' ++ [c'], z1 + z2, ?_, ?_, by omega, FrP_join u8 v8 c1 c2 c3 d1 d2 d3 hj⟩
    · show s3.2.2 ++ [c] = _
      rw [v5, q2, u5]
      simp only [List.append_assoc]
    · rw [v6, u6]
      simp only [List.append_assoc]
theorem Rl_fail (R1 : Rl bs s s' cs p p1 n1 fa1 cs1) (hp : p1 < p2) (R2 : Rl bs s'' s3 cs1 p2 p3 n3 fa3 cs3) (hf : ¬ fa3 = -1) (c' : Int32) : Rl bs s s3 cs p p3 n3 fa3 (cs3 ++ [c']) := by
  obtain ⟨a1, a2, a3, a4⟩ := R1
  obtain ⟨b1, b2, b3, b4⟩ := R2
  refine ⟨b1, by omega, ?_, fun z => absurd z hf⟩
  rw [List.length_append]
  show cs3.length + 1 + p ≤ _
  omega
/-- what comes behind a part of a sum -/
def rsT (K N : List Int32) (f : Nat) (s : LZ) : LZ := if taB K 43 s.1 = true then rsF K N f 8 (lTk K 43 s) else if taB K 45 s.1 = true then rsF K N f 9 (lTk K 45 s) else s
theorem taB_ff {K : List Int32} {k : Int32} {s : PS} (h : ¬ s.2 = -1) : taB K k s = false := decide_eq_false (fun z => h z.1)
theorem taB_ll {K : List Int32} {k : Int32} {s : PS} (hk : k ≠ -1) (h : taB K k s = true) : s.2 = -1 ∧ s.1 < K.length := by
  unfold taB at h
  rw [decide_eq_true_eq] at h
  refine ⟨h.1, ?_⟩
  rcases Nat.lt_or_ge s.1 K.length with z | z
  · exact z
  · rw [List.getD_eq_getElem?_getD, List.getElem?_eq_none z] at h
    exact absurd h.2.symm hk
theorem rsT_ff {K N : List Int32} {f : Nat} {s : LZ} (h : ¬ s.1.2 = -1) : rsT K N f s = s := by
  unfold rsT
  rw [taB_ff h, taB_ff h, if_neg (by decide), if_neg (by decide)]
theorem rsF_T (K N : List Int32) (f : Nat) (st : Int32) (s : LZ) : (pBad K s → rsF K N (f + 1) st s = lFa s) ∧ (¬ pBad K s → rsF K N (f + 1) st s = rsT K N f (rsA K N st s)) := by
  rw [rsF_s]
  refine ⟨fun z => if_pos z, fun z => ?_⟩
  unfold pBad at z
  rw [if_neg z]
  rfl
theorem rsA_st (K N : List Int32) {st : Int32} (h : ¬ st = -1) (s : LZ) : rsA K N st s = lSt st (rsA K N (-1) s) := by
  unfold rsA
  dsimp only
  rw [if_neg h, if_pos rfl]
theorem sgn_43 : sgn 43 := ⟨by omega, by decide, by decide, by decide⟩
theorem sgn_45 : sgn 45 := ⟨by omega, by decide, by decide, by decide⟩
theorem sgn_40 : sgn 40 := ⟨by omega, by decide, by decide, by decide⟩
theorem sgn_41 : sgn 41 := ⟨by omega, by decide, by decide, by decide⟩
theorem sgn_42 : sgn 42 := ⟨by omega, by decide, by decide, by decide⟩
theorem sgn_60 : sgn 60 := ⟨by omega, by decide, by decide, by decide⟩
theorem sgn_61 : sgn 61 := ⟨by omega, by decide, by decide, by decide⟩
theorem sgn_62 : sgn 62 := ⟨by omega, by decide, by decide, by decide⟩
/-- tokens taken, nothing else -/
theorem Rl.bl (R : Rl bs s s' cs p p1 n1 fa1 cs1) (S : sm_ bs 4 s'.1 p2 fa1) (hp : p1 ≤ p2) : Rl bs s s' cs p p2 n1 fa1 cs1 := by
  obtain ⟨a1, a2, a3, a4⟩ := R
  refine ⟨S, by omega, by omega, fun z => ?_⟩
  obtain ⟨u1, u2⟩ := a4 z
  exact ⟨by omega, u2⟩
set_option maxHeartbeats 2000000 in
theorem c_Y_sum (P : pr_ h0 h m o bs p b dp n fa cs ks) (T : tap_ h0 m bs) (S : sm_ bs 4 s.1 p fa) (hf : fa = -1) (hn : n = s.2.1) (hn2 : n ≤ 60) (hc : cs.length ≤ p) (d : Nat) : PM (d + 7) 170 [.ref m] h (fun x h' => x = none ∧ ∃ p' b' n' fa' cs', pr_ h0 h' m o bs p' b' dp n' fa' cs' ks ∧ Rl bs s (rsF (cuF bs 4).1 (cuF bs 4).2.2 400 (-1) s) cs p p' n' fa' cs') := by
  refine en_X12_sum rfl ?_
  have H0 := P.c0
  have L4 := T.1
  have KL := cuF_kl1 (dm := 4) L4
  obtain ⟨Z, hZ⟩ : ∃ Z, Z = rsF (cuF bs 4).1 (cuF bs 4).2.2 400 (-1) s := ⟨_, rfl⟩
  rw [← hZ]
  have loop : ∀ f s' p1 b1 n1 fa1 cs1 (g : pmH) (x2 : Option Value), Rl bs s s' cs p p1 n1 fa1 cs1 → pr_ h0 g m o bs p1 b1 dp n1 fa1 cs1 ks → g.length = h.length → (fa1 = -1 → 400 ≤ f + s'.1.1) → rsT (cuF bs 4).1 (cuF bs 4).2.2 f s' = Z → W_X12_sum (d + 6) (h.length + 0) 0 (fun x h' => x = none ∧ ∃ p' b' n' fa' cs', pr_ h0 h' m o bs p' b' dp n' fa' cs' ks ∧ Rl bs s Z cs p p' n' fa' cs') 6 [some (.ref m), some (.int 1), x2] [] g 0 := by
    intro f
    induction f with
    | zero =>
      intro s' p1 b1 n1 fa1 cs1 g x2 R1 P1 lg hix e
      have S1 := R1.1
      have H1 := P1.c0
      have nt : ∀ k, k ≠ -1 → taB (cuF bs 4).1 k s'.1 = false := fun k hk => by
        cases z : taB (cuF bs 4).1 k s'.1 with
        | false => rfl
        | true =>
          obtain ⟨z1, z2⟩ := taB_ll hk z
          have := hix (S1.ff.mp z1)
          omega
      have t43 := nt 43 (by decide)
      have t45 := nt 45 (by decide)
      have k1 := skp_le (bs := bs) S1.1
      have k2 := skp_le (bs := bs) k1.2
      have kk := skp_skp (bs := bs) S1.1
      rw [w_X12_sum_6]
      simp only [w_X12_sum_7, w_X12_sum_10, w_X12_sum_11, w_X12_sum_13, pm_1i_c, pm_2i_c, pm_1l_c, pm_2l_c, pm_1a_c, pm_ia_c, pm_iia_c, pm_va_c, pm_cp_c, pm_k0_c, pm_k1_c, pm_k2_c, pm_k3_c, pm_s1_c, pm_s2_c, pm_s3_c, pm_s4_c, pm_ri_c, pm_ra_c, pm_rn_c, pm_rk_i, pm_rk_z, pm_rk_a, pm_vk_i, pm_vk_z, pm_vk_a, pm_cti, pm_ctr, pm_ldi_z, pm_ldi_s, pm_lda_z, pm_lda_s, pm_cat_n, pm_cat_i, pm_cat_r, pm_cat_l, pm_obj, pm_arr, pm_opt, pm_ird, pm_aln, List.getElem?_cons_zero, List.getElem?_cons_succ, List.set_cons_zero, List.set_cons_succ, List.length_cons, List.length_nil, List.length_set, true_and, and_true, Nat.add_zero, Nat.zero_add, Nat.le_refl, Nat.reduceAdd, Nat.reduceLT, Nat.reduceLeDiff, Nat.zero_le, not_false_eq_true, not_true_eq_false, false_implies, implies_true, true_implies, Nat.zero_lt_succ, Nat.lt_add_one, H1, lg, show ¬ (1 : Int32) = 0 by decide]
      refine PM_use (c_Y_takes P1 T S1 sgn_43 (d + 2)) ?_
      rintro x h2 l2 ⟨rfl, P2⟩
      rw [if_neg (show ¬ taB (cuF bs 4).1 (nI 43) s'.1 = true by rw [show nI 43 = 43 from rfl, t43]; decide)] at P2 ⊢
      have H2 := P2.c0
      show W_X12_sum _ _ _ _ _ _ _ _ _
      simp only [w_X12_sum_16, w_X12_sum_24, w_X12_sum_25, w_X12_sum_27, pm_1i_c, pm_2i_c, pm_1l_c, pm_2l_c, pm_1a_c, pm_ia_c, pm_iia_c, pm_va_c, pm_cp_c, pm_k0_c, pm_k1_c, pm_k2_c, pm_k3_c, pm_s1_c, pm_s2_c, pm_s3_c, pm_s4_c, pm_ri_c, pm_ra_c, pm_rn_c, pm_rk_i, pm_rk_z, pm_rk_a, pm_vk_i, pm_vk_z, pm_vk_a, pm_cti, pm_ctr, pm_ldi_z, pm_ldi_s, pm_lda_z, pm_lda_s, pm_cat_n, pm_cat_i, pm_cat_r, pm_cat_l, pm_obj, pm_arr, pm_opt, pm_ird, pm_aln, List.getElem?_cons_zero, List.getElem?_cons_succ, List.set_cons_zero, List.set_cons_succ, List.length_cons, List.length_nil, List.length_set, true_and, and_true, Nat.add_zero, Nat.zero_add, Nat.le_refl, Nat.reduceAdd, Nat.reduceLT, Nat.reduceLeDiff, Nat.zero_le, not_false_eq_true, not_true_eq_false, false_implies, implies_true, true_implies, Nat.zero_lt_succ, Nat.lt_add_one, pm_tl_n, pm_tl_s, sc_uL, H2, l2, lg]
      refine PM_use (c_Y_takes P2 T S1.sk sgn_45 (d + 2)) ?_
      rintro x h3 l3 ⟨rfl, P3⟩
      rw [if_neg (show ¬ taB (cuF bs 4).1 (nI 45) s'.1 = true by rw [show nI 45 = 45 from rfl, t45]; decide)] at P3 ⊢
      show W_X12_sum _ _ _ _ _ _ _ _ _
      simp only [w_X12_sum_30, w_X12_sum_38, w_X12_sum_39, w_X12_sum_40, w_X12_sum_41, w_X12_sum_42, w_X12_sum_49, w_X12_sum_50, w_X12_sum_51, w_X12_sum_52, w_X12_sum_55, pm_1i_c, pm_2i_c, pm_1l_c, pm_2l_c, pm_1a_c, pm_ia_c, pm_iia_c, pm_va_c, pm_cp_c, pm_k0_c, pm_k1_c, pm_k2_c, pm_k3_c, pm_s1_c, pm_s2_c, pm_s3_c, pm_s4_c, pm_ri_c, pm_ra_c, pm_rn_c, pm_rk_i, pm_rk_z, pm_rk_a, pm_vk_i, pm_vk_z, pm_vk_a, pm_cti, pm_ctr, pm_ldi_z, pm_ldi_s, pm_lda_z, pm_lda_s, pm_cat_n, pm_cat_i, pm_cat_r, pm_cat_l, pm_obj, pm_arr, pm_opt, pm_ird, pm_aln, List.getElem?_cons_zero, List.getElem?_cons_succ, List.set_cons_zero, List.set_cons_succ, List.length_cons, List.length_nil, List.length_set, true_and, and_true, Nat.add_zero, Nat.zero_add, Nat.le_refl, Nat.reduceAdd, Nat.reduceLT, Nat.reduceLeDiff, Nat.zero_le, not_false_eq_true, not_true_eq_false, false_implies, implies_true, true_implies, Nat.zero_lt_succ, Nat.lt_add_one, pm_tl_n, pm_tl_s, sc_uL, l3, l2, lg]
      rw [w_X12_sum_6]
      simp only [w_X12_sum_7, w_X12_sum_70, pm_1i_c, pm_2i_c, pm_1l_c, pm_2l_c, pm_1a_c, pm_ia_c, pm_iia_c, pm_va_c, pm_cp_c, pm_k0_c, pm_k1_c, pm_k2_c, pm_k3_c, pm_s1_c, pm_s2_c, pm_s3_c, pm_s4_c, pm_ri_c, pm_ra_c, pm_rn_c, pm_rk_i, pm_rk_z, pm_rk_a, pm_vk_i, pm_vk_z, pm_vk_a, pm_cti, pm_ctr, pm_ldi_z, pm_ldi_s, pm_lda_z, pm_lda_s, pm_cat_n, pm_cat_i, pm_cat_r, pm_cat_l, pm_obj, pm_arr, pm_opt, pm_ird, pm_aln, List.getElem?_cons_zero, List.getElem?_cons_succ, List.set_cons_zero, List.set_cons_succ, List.length_cons, List.length_nil, List.length_set, true_and, and_true, Nat.add_zero, Nat.zero_add, Nat.le_refl, Nat.reduceAdd, Nat.reduceLT, Nat.reduceLeDiff, Nat.zero_le, not_false_eq_true, not_true_eq_false, false_implies, implies_true, true_implies, Nat.zero_lt_succ, Nat.lt_add_one, l3, l2, lg]
      rw [kk] at P3
      have eZ : rsT (cuF bs 4).1 (cuF bs 4).2.2 0 s' = s' := by
        unfold rsT
        rw [t43, t45, if_neg (by decide), if_neg (by decide)]
      rw [eZ] at e
      rw [← e]
      exact ⟨_, _, _, _, _, P3, R1.bl S1.sk k1.1⟩
    | succ f ih =>
      intro s' p1 b1 n1 fa1 cs1 g x2 R1 P1 lg hix e
      have S1 := R1.1
      have H1 := P1.c0
      have k1 := skp_le (bs := bs) S1.1
      have kk := skp_skp (bs := bs) S1.1
      -- behind a sign that was taken
      have go : ∀ (k c c' : Int32) (b2 : Nat) (g2 : pmH) (x2 : Option Value), fa1 = -1 → taB (cuF bs 4).1 k s'.1 = true → rsF (cuF bs 4).1 (cuF bs 4).2.2 (f + 1) c (lTk (cuF bs 4).1 k s') = Z → pr_ h0 g2 m o bs (skp bs p1 + 1) b2 dp n1 fa1 cs1 ks → sm_ bs 4 (taF (cuF bs 4).1 k s'.1) (skp bs p1 + 1) fa1 → g2.length = h.length → ¬ c = -1 → ¬ c' = -1 → c < 16 → ¬ c < 8 → ¬ c = 13 → c' < 1000 → ¬ c' < 20 → ¬ c' = 25 → (∀ l r, jnI c l r = mjn c' l r) → W_X12_sum (d + 6) (h.length + 0) 0 (fun x h' => x = none ∧ ∃ p' b' n' fa' cs', pr_ h0 h' m o bs p' b' dp n' fa' cs' ks ∧ Rl bs s Z cs p p' n' fa' cs') 39 [some (.ref m), some (.int 1), x2] [.int c'] g2 0 := by
        intro k c c' b2 g2 x2 hf1 tb e P2 S2 lg2 cm cm' q1 q2 q3 r1 r2 r3 hj
        have H2 := P2.c0
        obtain ⟨u1, u2, u3, u4, -⟩ := R1.2.2.2 hf1
        have w3 := R1.2.2.1
        have et : taF (cuF bs 4).1 k s'.1 = (s'.1.1 + 1, s'.1.2) := by
          unfold taF
          rw [if_pos tb]
        have es : lTk (cuF bs 4).1 k s' = ((s'.1.1 + 1, s'.1.2), s'.2) := by
          unfold lTk
          rw [et]
        rw [es] at e
        rw [et] at S2
        obtain ⟨s2, hs2⟩ : ∃ s2 : LZ, s2 = ((s'.1.1 + 1, s'.1.2), s'.2) := ⟨_, rfl⟩
        have hs21 : s2.1 = (s'.1.1 + 1, s'.1.2) := by rw [hs2]
        have hs22 : s2.2 = s'.2 := by rw [hs2]
        have hs23 : s2.1.1 = s'.1.1 + 1 := by rw [hs2]
        rw [← hs2] at e
        rw [← hs21] at S2
        simp only [w_X12_sum_39, w_X12_sum_40, w_X12_sum_41, w_X12_sum_42, w_X12_sum_45, w_X12_sum_46, w_X12_sum_50, w_X12_sum_51, w_X12_sum_52, w_X12_sum_58, w_X12_sum_59, pm_1i_c, pm_2i_c, pm_1l_c, pm_2l_c, pm_1a_c, pm_ia_c, pm_iia_c, pm_va_c, pm_cp_c, pm_k0_c, pm_k1_c, pm_k2_c, pm_k3_c, pm_s1_c, pm_s2_c, pm_s3_c, pm_s4_c, pm_ri_c, pm_ra_c, pm_rn_c, pm_rk_i, pm_rk_z, pm_rk_a, pm_vk_i, pm_vk_z, pm_vk_a, pm_cti, pm_ctr, pm_ldi_z, pm_ldi_s, pm_lda_z, pm_lda_s, pm_cat_n, pm_cat_i, pm_cat_r, pm_cat_l, pm_obj, pm_arr, pm_opt, pm_ird, pm_aln, List.getElem?_cons_zero, List.getElem?_cons_succ, List.set_cons_zero, List.set_cons_succ, List.length_cons, List.length_nil, List.length_set, true_and, and_true, Nat.add_zero, Nat.zero_add, Nat.le_refl, Nat.reduceAdd, Nat.reduceLT, Nat.reduceLeDiff, Nat.zero_le, not_false_eq_true, not_true_eq_false, false_implies, implies_true, true_implies, Nat.zero_lt_succ, Nat.lt_add_one, H2, lg2, cm', show ¬ (1 : Int32) = 0 by decide]
        refine PM_use (c_Y_part (s := s2) P2 T S2 hf1 (by rw [hs22]; exact u3) u4 (by omega) d) ?_
        rintro x h3 l3 ⟨rfl, p3, b3, n3, fa3, cs3, P3, K⟩
        have H3 := P3.c0
        have lg3 : h3.length = h.length := l3.trans lg2
        have c5 : cs3.length < 500 := by
          have a := P3
          rcases K with ⟨-, -, y⟩ | ⟨-, -, y⟩
          · have := y.2.2.1
            have := y.1.1
            omega
          · have := y.2.2.1
            have := y.1.1
            omega
        show W_X12_sum _ _ _ _ _ _ _ _ _
        simp only [w_X12_sum_62, w_X12_sum_63, w_X12_sum_64, pm_1i_c, pm_2i_c, pm_1l_c, pm_2l_c, pm_1a_c, pm_ia_c, pm_iia_c, pm_va_c, pm_cp_c, pm_k0_c, pm_k1_c, pm_k2_c, pm_k3_c, pm_s1_c, pm_s2_c, pm_s3_c, pm_s4_c, pm_ri_c, pm_ra_c, pm_rn_c, pm_rk_i, pm_rk_z, pm_rk_a, pm_vk_i, pm_vk_z, pm_vk_a, pm_cti, pm_ctr, pm_ldi_z, pm_ldi_s, pm_lda_z, pm_lda_s, pm_cat_n, pm_cat_i, pm_cat_r, pm_cat_l, pm_obj, pm_arr, pm_opt, pm_ird, pm_aln, List.getElem?_cons_zero, List.getElem?_cons_succ, List.set_cons_zero, List.set_cons_succ, List.length_cons, List.length_nil, List.length_set, true_and, and_true, Nat.add_zero, Nat.zero_add, Nat.le_refl, Nat.reduceAdd, Nat.reduceLT, Nat.reduceLeDiff, Nat.zero_le, not_false_eq_true, not_true_eq_false, false_implies, implies_true, true_implies, Nat.zero_lt_succ, Nat.lt_add_one, pm_tl_n, pm_tl_s, sc_uL, H3, lg3]
        refine PM_use (c_Y_codes P3 c' c5 (d + 5)) ?_
        rintro x h4 l4 ⟨rfl, P4⟩
        obtain ⟨y1, y2⟩ := rsF_T (cuF bs 4).1 (cuF bs 4).2.2 f c s2
        show W_X12_sum _ _ _ _ _ _ _ _ _
        simp only [w_X12_sum_67, pm_1i_c, pm_2i_c, pm_1l_c, pm_2l_c, pm_1a_c, pm_ia_c, pm_iia_c, pm_va_c, pm_cp_c, pm_k0_c, pm_k1_c, pm_k2_c, pm_k3_c, pm_s1_c, pm_s2_c, pm_s3_c, pm_s4_c, pm_ri_c, pm_ra_c, pm_rn_c, pm_rk_i, pm_rk_z, pm_rk_a, pm_vk_i, pm_vk_z, pm_vk_a, pm_cti, pm_ctr, pm_ldi_z, pm_ldi_s, pm_lda_z, pm_lda_s, pm_cat_n, pm_cat_i, pm_cat_r, pm_cat_l, pm_obj, pm_arr, pm_opt, pm_ird, pm_aln, List.getElem?_cons_zero, List.getElem?_cons_succ, List.set_cons_zero, List.set_cons_succ, List.length_cons, List.length_nil, List.length_set, true_and, and_true, Nat.add_zero, Nat.zero_add, Nat.le_refl, Nat.reduceAdd, Nat.reduceLT, Nat.reduceLeDiff, Nat.zero_le, not_false_eq_true, not_true_eq_false, false_implies, implies_true, true_implies, Nat.zero_lt_succ, Nat.lt_add_one, pm_tl_n, pm_tl_s, sc_uL]
        rcases K with ⟨y, yf, R2⟩ | ⟨y, yf, R2⟩
        · rw [y1 y] at e
          have R3 := Rl_fail R1 (by omega : p1 < skp bs p1 + 1) R2 yf c'
          refine ih _ _ _ _ _ _ _ _ R3 P4 (l4.trans lg3) (fun z => absurd z yf) ?_
          rw [rsT_ff (fun z => yf (R2.1.ff.mp z))]
          exact e
        · rw [y2 y, rsA_st _ _ cm] at e
          have R3 := Rl_join R1 hf1 hs22 hs23 (by omega : p1 < skp bs p1 + 1) R2 q1 q2 q3 r1 r2 r3 hj
          refine ih _ _ _ _ _ _ _ _ R3 P4 (l4.trans lg3) (fun z => ?_) e
          have a1 := hix hf1
          have a2 := (R2.2.2.2 yf).2.1
          show 400 ≤ f + (rsA (cuF bs 4).1 (cuF bs 4).2.2 (-1) s2).1.1
          omega
      have go43 := go 43 8 20
      have go45 := go 45 9 21
      rw [w_X12_sum_6]
      simp only [w_X12_sum_7, w_X12_sum_10, w_X12_sum_11, w_X12_sum_13, pm_1i_c, pm_2i_c, pm_1l_c, pm_2l_c, pm_1a_c, pm_ia_c, pm_iia_c, pm_va_c, pm_cp_c, pm_k0_c, pm_k1_c, pm_k2_c, pm_k3_c, pm_s1_c, pm_s2_c, pm_s3_c, pm_s4_c, pm_ri_c, pm_ra_c, pm_rn_c, pm_rk_i, pm_rk_z, pm_rk_a, pm_vk_i, pm_vk_z, pm_vk_a, pm_cti, pm_ctr, pm_ldi_z, pm_ldi_s, pm_lda_z, pm_lda_s, pm_cat_n, pm_cat_i, pm_cat_r, pm_cat_l, pm_obj, pm_arr, pm_opt, pm_ird, pm_aln, List.getElem?_cons_zero, List.getElem?_cons_succ, List.set_cons_zero, List.set_cons_succ, List.length_cons, List.length_nil, List.length_set, true_and, and_true, Nat.add_zero, Nat.zero_add, Nat.le_refl, Nat.reduceAdd, Nat.reduceLT, Nat.reduceLeDiff, Nat.zero_le, not_false_eq_true, not_true_eq_false, false_implies, implies_true, true_implies, Nat.zero_lt_succ, Nat.lt_add_one, H1, lg, show ¬ (1 : Int32) = 0 by decide]
      refine PM_use (c_Y_takes P1 T S1 sgn_43 (d + 2)) ?_
      rintro x h2 l2 ⟨rfl, P2⟩
      have K1 := S1.tk T.2.1 sgn_43
      rcases Bool.eq_false_or_eq_true (taB (cuF bs 4).1 43 s'.1) with c | c
      · have c' : taB (cuF bs 4).1 (nI 43) s'.1 = true := c
        rw [if_pos c'] at P2 K1 ⊢
        unfold rsT at e
        rw [if_pos c] at e
        have hf1 := S1.ff.mp (taB_ll (by decide) c).1
        show W_X12_sum _ _ _ _ _ _ _ _ _
        simp only [w_X12_sum_16, w_X12_sum_19, w_X12_sum_21, pm_1i_c, pm_2i_c, pm_1l_c, pm_2l_c, pm_1a_c, pm_ia_c, pm_iia_c, pm_va_c, pm_cp_c, pm_k0_c, pm_k1_c, pm_k2_c, pm_k3_c, pm_s1_c, pm_s2_c, pm_s3_c, pm_s4_c, pm_ri_c, pm_ra_c, pm_rn_c, pm_rk_i, pm_rk_z, pm_rk_a, pm_vk_i, pm_vk_z, pm_vk_a, pm_cti, pm_ctr, pm_ldi_z, pm_ldi_s, pm_lda_z, pm_lda_s, pm_cat_n, pm_cat_i, pm_cat_r, pm_cat_l, pm_obj, pm_arr, pm_opt, pm_ird, pm_aln, List.getElem?_cons_zero, List.getElem?_cons_succ, List.set_cons_zero, List.set_cons_succ, List.length_cons, List.length_nil, List.length_set, true_and, and_true, Nat.add_zero, Nat.zero_add, Nat.le_refl, Nat.reduceAdd, Nat.reduceLT, Nat.reduceLeDiff, Nat.zero_le, not_false_eq_true, not_true_eq_false, false_implies, implies_true, true_implies, Nat.zero_lt_succ, Nat.lt_add_one, pm_tl_n, pm_tl_s, sc_uL, show ¬ (1 : Int32) = 0 by decide]
        exact go43 _ _ _ hf1 c e P2 K1 (l2.trans lg) (by decide) (by decide) (by decide) (by decide) (by decide) (by decide) (by decide) (by decide) (fun l r => rfl)
      · have c' : ¬ taB (cuF bs 4).1 (nI 43) s'.1 = true := by
          rw [show nI 43 = 43 from rfl, c]
          decide
        rw [if_neg c'] at P2 ⊢
        have H2 := P2.c0
        show W_X12_sum _ _ _ _ _ _ _ _ _
        simp only [w_X12_sum_16, w_X12_sum_24, w_X12_sum_25, w_X12_sum_27, pm_1i_c, pm_2i_c, pm_1l_c, pm_2l_c, pm_1a_c, pm_ia_c, pm_iia_c, pm_va_c, pm_cp_c, pm_k0_c, pm_k1_c, pm_k2_c, pm_k3_c, pm_s1_c, pm_s2_c, pm_s3_c, pm_s4_c, pm_ri_c, pm_ra_c, pm_rn_c, pm_rk_i, pm_rk_z, pm_rk_a, pm_vk_i, pm_vk_z, pm_vk_a, pm_cti, pm_ctr, pm_ldi_z, pm_ldi_s, pm_lda_z, pm_lda_s, pm_cat_n, pm_cat_i, pm_cat_r, pm_cat_l, pm_obj, pm_arr, pm_opt, pm_ird, pm_aln, List.getElem?_cons_zero, List.getElem?_cons_succ, List.set_cons_zero, List.set_cons_succ, List.length_cons, List.length_nil, List.length_set, true_and, and_true, Nat.add_zero, Nat.zero_add, Nat.le_refl, Nat.reduceAdd, Nat.reduceLT, Nat.reduceLeDiff, Nat.zero_le, not_false_eq_true, not_true_eq_false, false_implies, implies_true, true_implies, Nat.zero_lt_succ, Nat.lt_add_one, pm_tl_n, pm_tl_s, sc_uL, H2, l2, lg]
        refine PM_use (c_Y_takes P2 T S1.sk sgn_45 (d + 2)) ?_
        rintro x h3 l3 ⟨rfl, P3⟩
        have K2 := S1.sk.tk T.2.1 sgn_45
        rw [kk] at P3 K2
        rcases Bool.eq_false_or_eq_true (taB (cuF bs 4).1 45 s'.1) with c2 | c2
        · have c2' : taB (cuF bs 4).1 (nI 45) s'.1 = true := c2
          rw [if_pos c2'] at P3 K2 ⊢
          unfold rsT at e
          rw [if_neg (by rw [c]; decide), if_pos c2] at e
          have hf1 := S1.ff.mp (taB_ll (by decide) c2).1
          show W_X12_sum _ _ _ _ _ _ _ _ _
          simp only [w_X12_sum_30, w_X12_sum_33, w_X12_sum_35, pm_1i_c, pm_2i_c, pm_1l_c, pm_2l_c, pm_1a_c, pm_ia_c, pm_iia_c, pm_va_c, pm_cp_c, pm_k0_c, pm_k1_c, pm_k2_c, pm_k3_c, pm_s1_c, pm_s2_c, pm_s3_c, pm_s4_c, pm_ri_c, pm_ra_c, pm_rn_c, pm_rk_i, pm_rk_z, pm_rk_a, pm_vk_i, pm_vk_z, pm_vk_a, pm_cti, pm_ctr, pm_ldi_z, pm_ldi_s, pm_lda_z, pm_lda_s, pm_cat_n, pm_cat_i, pm_cat_r, pm_cat_l, pm_obj, pm_arr, pm_opt, pm_ird, pm_aln, List.getElem?_cons_zero, List.getElem?_cons_succ, List.set_cons_zero, List.set_cons_succ, List.length_cons, List.length_nil, List.length_set, true_and, and_true, Nat.add_zero, Nat.zero_add, Nat.le_refl, Nat.reduceAdd, Nat.reduceLT, Nat.reduceLeDiff, Nat.zero_le, not_false_eq_true, not_true_eq_false, false_implies, implies_true, true_implies, Nat.zero_lt_succ, Nat.lt_add_one, pm_tl_n, pm_tl_s, sc_uL, show ¬ (1 : Int32) = 0 by decide]
          exact go45 _ _ _ hf1 c2 e P3 K2 (l3.trans (l2.trans lg)) (by decide) (by decide) (by decide) (by decide) (by decide) (by decide) (by decide) (by decide) (fun l r => rfl)
        · have c2' : ¬ taB (cuF bs 4).1 (nI 45) s'.1 = true := by
            rw [show nI 45 = 45 from rfl, c2]
            decide
          rw [if_neg c2'] at P3 ⊢
          show W_X12_sum _ _ _ _ _ _ _ _ _
          simp only [w_X12_sum_30, w_X12_sum_38, w_X12_sum_39, w_X12_sum_40, w_X12_sum_41, w_X12_sum_42, w_X12_sum_49, w_X12_sum_50, w_X12_sum_51, w_X12_sum_52, w_X12_sum_55, pm_1i_c, pm_2i_c, pm_1l_c, pm_2l_c, pm_1a_c, pm_ia_c, pm_iia_c, pm_va_c, pm_cp_c, pm_k0_c, pm_k1_c, pm_k2_c, pm_k3_c, pm_s1_c, pm_s2_c, pm_s3_c, pm_s4_c, pm_ri_c, pm_ra_c, pm_rn_c, pm_rk_i, pm_rk_z, pm_rk_a, pm_vk_i, pm_vk_z, pm_vk_a, pm_cti, pm_ctr, pm_ldi_z, pm_ldi_s, pm_lda_z, pm_lda_s, pm_cat_n, pm_cat_i, pm_cat_r, pm_cat_l, pm_obj, pm_arr, pm_opt, pm_ird, pm_aln, List.getElem?_cons_zero, List.getElem?_cons_succ, List.set_cons_zero, List.set_cons_succ, List.length_cons, List.length_nil, List.length_set, true_and, and_true, Nat.add_zero, Nat.zero_add, Nat.le_refl, Nat.reduceAdd, Nat.reduceLT, Nat.reduceLeDiff, Nat.zero_le, not_false_eq_true, not_true_eq_false, false_implies, implies_true, true_implies, Nat.zero_lt_succ, Nat.lt_add_one, pm_tl_n, pm_tl_s, sc_uL, l3, l2, lg]
          rw [w_X12_sum_6]
          simp only [w_X12_sum_7, w_X12_sum_70, pm_1i_c, pm_2i_c, pm_1l_c, pm_2l_c, pm_1a_c, pm_ia_c, pm_iia_c, pm_va_c, pm_cp_c, pm_k0_c, pm_k1_c, pm_k2_c, pm_k3_c, pm_s1_c, pm_s2_c, pm_s3_c, pm_s4_c, pm_ri_c, pm_ra_c, pm_rn_c, pm_rk_i, pm_rk_z, pm_rk_a, pm_vk_i, pm_vk_z, pm_vk_a, pm_cti, pm_ctr, pm_ldi_z, pm_ldi_s, pm_lda_z, pm_lda_s, pm_cat_n, pm_cat_i, pm_cat_r, pm_cat_l, pm_obj, pm_arr, pm_opt, pm_ird, pm_aln, List.getElem?_cons_zero, List.getElem?_cons_succ, List.set_cons_zero, List.set_cons_succ, List.length_cons, List.length_nil, List.length_set, true_and, and_true, Nat.add_zero, Nat.zero_add, Nat.le_refl, Nat.reduceAdd, Nat.reduceLT, Nat.reduceLeDiff, Nat.zero_le, not_false_eq_true, not_true_eq_false, false_implies, implies_true, true_implies, Nat.zero_lt_succ, Nat.lt_add_one, l3, l2, lg]
          have eZ : rsT (cuF bs 4).1 (cuF bs 4).2.2 (f + 1) s' = s' := by
            unfold rsT
            rw [c, c2, if_neg (by decide), if_neg (by decide)]
          rw [eZ] at e
          rw [← e]
          exact ⟨_, _, _, _, _, P3, R1.bl S1.sk k1.1⟩
  simp only [w_X12_sum_0, w_X12_sum_1, pm_1i_c, pm_2i_c, pm_1l_c, pm_2l_c, pm_1a_c, pm_ia_c, pm_iia_c, pm_va_c, pm_cp_c, pm_k0_c, pm_k1_c, pm_k2_c, pm_k3_c, pm_s1_c, pm_s2_c, pm_s3_c, pm_s4_c, pm_ri_c, pm_ra_c, pm_rn_c, pm_rk_i, pm_rk_z, pm_rk_a, pm_vk_i, pm_vk_z, pm_vk_a, pm_cti, pm_ctr, pm_ldi_z, pm_ldi_s, pm_lda_z, pm_lda_s, pm_cat_n, pm_cat_i, pm_cat_r, pm_cat_l, pm_obj, pm_arr, pm_opt, pm_ird, pm_aln, List.getElem?_cons_zero, List.getElem?_cons_succ, List.set_cons_zero, List.set_cons_succ, List.length_cons, List.length_nil, List.length_set, true_and, and_true, Nat.add_zero, Nat.zero_add, Nat.le_refl, Nat.reduceAdd, Nat.reduceLT, Nat.reduceLeDiff, Nat.zero_le, not_false_eq_true, not_true_eq_false, false_implies, implies_true, true_implies, Nat.zero_lt_succ, Nat.lt_add_one, H0]
  refine PM_use (c_Y_part P T S hf hn hn2 hc d) ?_
  rintro x h1 l1 ⟨rfl, p1, b1, n1, fa1, cs1, P1, K⟩
  obtain ⟨y1, y2⟩ := rsF_T (cuF bs 4).1 (cuF bs 4).2.2 399 (-1) s
  show W_X12_sum _ _ _ _ _ _ _ _ _
  simp only [w_X12_sum_4, w_X12_sum_5, pm_1i_c, pm_2i_c, pm_1l_c, pm_2l_c, pm_1a_c, pm_ia_c, pm_iia_c, pm_va_c, pm_cp_c, pm_k0_c, pm_k1_c, pm_k2_c, pm_k3_c, pm_s1_c, pm_s2_c, pm_s3_c, pm_s4_c, pm_ri_c, pm_ra_c, pm_rn_c, pm_rk_i, pm_rk_z, pm_rk_a, pm_vk_i, pm_vk_z, pm_vk_a, pm_cti, pm_ctr, pm_ldi_z, pm_ldi_s, pm_lda_z, pm_lda_s, pm_cat_n, pm_cat_i, pm_cat_r, pm_cat_l, pm_obj, pm_arr, pm_opt, pm_ird, pm_aln, List.getElem?_cons_zero, List.getElem?_cons_succ, List.set_cons_zero, List.set_cons_succ, List.length_cons, List.length_nil, List.length_set, true_and, and_true, Nat.add_zero, Nat.zero_add, Nat.le_refl, Nat.reduceAdd, Nat.reduceLT, Nat.reduceLeDiff, Nat.zero_le, not_false_eq_true, not_true_eq_false, false_implies, implies_true, true_implies, Nat.zero_lt_succ, Nat.lt_add_one, pm_tl_n, pm_tl_s, sc_uL]
  rcases K with ⟨y, yf, R1⟩ | ⟨y, yf, R1⟩
  · have e := hZ.trans (y1 y)
    refine loop 400 _ _ _ _ _ _ _ _ R1 P1 l1 (fun z => absurd z yf) ?_
    rw [rsT_ff (fun z => yf (R1.1.ff.mp z))]
    exact e.symm
  · have e := hZ.trans (y2 y)
    refine loop 399 _ _ _ _ _ _ _ _ R1 P1 l1 (fun z => ?_) e.symm
    have := (R1.2.2.2 yf).2.1
    omega
end ML
