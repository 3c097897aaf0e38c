/-! AdmissionDeskModel: a comparison of a law, a bracket, 'not'. -/
section ML
variable {h0 h h' : pmH} {m : Nat} {o : Nat → Int32} {bs : List Int32} {p b dp n : Nat} {fa : Int32} {cs ks : List Int32} {s s' s'' s3 : LZ} {p1 p2 p3 n1 n3 : Nat} {fa1 fa3 c c' : Int32} {cs1 cs3 : List Int32}
/-- failed on both sides -/
theorem Rl.ff (R : Rl bs s s' cs p p1 n1 fa1 cs1) (hf : ¬ fa1 = -1) (e : s3.1 = s'.1) : Rl bs s s3 cs p p1 n1 fa1 cs1 := ⟨by rw [e]; exact R.1, R.2.1, R.2.2.1, fun z => absurd z hf⟩
theorem lSt_1 (x : Int32) (s : LZ) : (lSt x s).1 = s.1 := rfl
theorem hj10 (l r : Int32) : jnI 10 l r = mjn 22 l r := by
  unfold jnI mjn
  rw [if_neg (show ¬ (10 : Int32) = 8 by decide), if_neg (show ¬ (10 : Int32) = 9 by decide), if_pos (show (10 : Int32) = 10 from rfl), if_neg (show ¬ (22 : Int32) = 20 by decide), if_neg (show ¬ (22 : Int32) = 21 by decide), if_pos (show (22 : Int32) = 22 from rfl)]
theorem hj11 (l r : Int32) : jnI 11 l r = mjn 23 l r := by
  unfold jnI mjn
  rw [if_neg (show ¬ (11 : Int32) = 8 by decide), if_neg (show ¬ (11 : Int32) = 9 by decide), if_neg (show ¬ (11 : Int32) = 10 by decide), if_pos (show (11 : Int32) = 11 from rfl), if_neg (show ¬ (23 : Int32) = 20 by decide), if_neg (show ¬ (23 : Int32) = 21 by decide), if_neg (show ¬ (23 : Int32) = 22 by decide), if_pos (show (23 : Int32) = 23 from rfl)]
theorem hj12 (l r : Int32) : jnI 12 l r = mjn 24 l r := by
  unfold jnI mjn
  rw [if_neg (show ¬ (12 : Int32) = 8 by decide), if_neg (show ¬ (12 : Int32) = 9 by decide), if_neg (show ¬ (12 : Int32) = 10 by decide), if_neg (show ¬ (12 : Int32) = 11 by decide), if_pos (show (12 : Int32) = 12 from rfl), if_neg (show ¬ (24 : Int32) = 20 by decide), if_neg (show ¬ (24 : Int32) = 21 by decide), if_neg (show ¬ (24 : Int32) = 22 by decide), if_neg (show ¬ (24 : Int32) = 23 by decide), if_pos (show (24 : Int32) = 24 from rfl)]
theorem lFa_ff {s : LZ} (h : ¬ s.1.2 = -1) : lFa s = s := by
  unfold lFa faF
  rw [if_neg h]
theorem lNd_ff {K : List Int32} {k : Int32} {s : LZ} (h : ¬ s.1.2 = -1) : lNd K k s = s := by
  unfold lNd neF
  rw [taB_ff h, if_neg (by decide)]
  unfold faF
  rw [if_neg h]
theorem rsF_ff {K N : List Int32} {st : Int32} {s : LZ} (h : ¬ s.1.2 = -1) : rsF K N 400 st s = s := by
  have z : pBad K s := by
    refine Or.inl ?_
    unfold kiF
    rw [if_neg h]
    exact ⟨rfl, by decide⟩
  rw [(rsF_T K N 399 st s).1 z, lFa_ff h]
theorem rgF_ff {K : List Int32} {s : LZ} (h : ¬ s.1.2 = -1) : rgF K s = (11, s) := by
  unfold rgF
  rw [taB_ff h, taB_ff h, if_neg (by decide), if_neg (by decide), lNd_ff h]
theorem atC_ff {K N : List Int32} {s : LZ} (h : ¬ (rgF K (rsF K N 400 (-1) s)).2.1.2 = -1) : (atC K N s).1 = (rgF K (rsF K N 400 (-1) s)).2.1 := by
  unfold atC
  rw [rsF_ff h]
  rfl
theorem taB_1 {K : List Int32} {k l : Int32} {s : PS} (h : taB K k s = true) (hl : ¬ k = l) : taB K l s = false := by
  unfold taB at h ⊢
  rw [decide_eq_true_eq] at h
  exact decide_eq_false (fun z => hl (h.2.symm.trans z.2))
theorem Rl.lo {q0 : Nat} (R : Rl bs s s' cs p p1 n1 fa1 cs1) (hp : q0 ≤ p) : Rl bs s s' cs q0 p1 n1 fa1 cs1 := by
  obtain ⟨a1, a2, a3, a4⟩ := R
  refine ⟨a1, by omega, by omega, fun z => ?_⟩
  obtain ⟨u1, u2⟩ := a4 z
  exact ⟨by omega, u2⟩
set_option maxHeartbeats 2000000 in
/-- two sums and a sign -/
theorem c_Y_cmp (P : pr_ h0 h m o bs p b dp n fa cs ks) (T : tap_ h0 m bs) (S : sm_ bs 4 s.1 p fa) (hf : fa = -1) (hn : n = s.2.1) (hn2 : n ≤ 60) {q0 : Nat} (hq : q0 ≤ p) (hc : cs.length ≤ q0) {G : Nat → Nat → Int32 → List Int32 → Prop} (hG : ∀ p' n' fa' cs', Rl bs s (atC (cuF bs 4).1 (cuF bs 4).2.2 s) cs q0 p' n' fa' cs' → G p' n' fa' cs') (d : Nat) : W_X12_atom (d + 7) (h.length + 0) 0 (fun x h' => x = none ∧ ∃ p' b' n' fa' cs', pr_ h0 h' m o bs p' b' dp n' fa' cs' ks ∧ G p' n' fa' cs') 96 [some (.ref m), none] [] h 0 := by
  have H0 := P.c0
  have L4 := T.1
  obtain ⟨K, hK⟩ : ∃ K, K = (cuF bs 4).1 := ⟨_, rfl⟩
  obtain ⟨s1, hs1⟩ : ∃ s1, s1 = rsF (cuF bs 4).1 (cuF bs 4).2.2 400 (-1) s := ⟨_, rfl⟩
  have aE : atC (cuF bs 4).1 (cuF bs 4).2.2 s = lSt (rgF (cuF bs 4).1 s1).1 (rsF (cuF bs 4).1 (cuF bs 4).2.2 400 (-1) (rgF (cuF bs 4).1 s1).2) := by
    rw [hs1]
    rfl
  have aF := atC_ff (K := (cuF bs 4).1) (N := (cuF bs 4).2.2) (s := s)
  rw [← hs1] at aF
  obtain ⟨Z, hZ⟩ : ∃ Z, Z = atC (cuF bs 4).1 (cuF bs 4).2.2 s := ⟨_, rfl⟩
  rw [← hZ] at aE aF hG
  simp only [w_X12_atom_96, w_X12_atom_97, pm_1i_c, pm_2i_c, pm_1l_c, pm_2l_c, pm_1a_c, pm_ia_c, pm_iia_c, pm_va_c, pm_cp_c, pm_k0_c, pm_k1_c, pm_k2_c, pm_k3_c, pm_s1_c, pm_s2_c, pm_s3_c, pm_s4_c, pm_ri_c, pm_ra_c, pm_rn_c, pm_rk_i, pm_rk_z, pm_rk_a, pm_vk_i, pm_vk_z, pm_vk_a, pm_cti, pm_ctr, pm_ldi_z, pm_ldi_s, pm_lda_z, pm_lda_s, pm_cat_n, pm_cat_i, pm_cat_r, pm_cat_l, pm_obj, pm_arr, pm_opt, pm_ird, pm_aln, List.getElem?_cons_zero, List.getElem?_cons_succ, List.set_cons_zero, List.set_cons_succ, List.length_cons, List.length_nil, List.length_set, true_and, and_true, Nat.add_zero, Nat.zero_add, Nat.le_refl, Nat.reduceAdd, Nat.reduceLT, Nat.reduceLeDiff, Nat.zero_le, not_false_eq_true, not_true_eq_false, false_implies, implies_true, true_implies, Nat.zero_lt_succ, Nat.lt_add_one, H0]
  refine PM_use (c_Y_sum P T S hf hn hn2 (by omega) d) ?_
  rintro x h1 l1 ⟨rfl, p1, b1, n1, fa1, cs1, P1, R1⟩
  rw [← hs1] at R1
  have R1 := R1.lo hq
  have H1 := P1.c0
  have l1' : h1.length = h.length := l1
  have S1 := R1.1
  have k1 := skp_le (bs := bs) S1.1
  have kk := skp_skp (bs := bs) S1.1
  have c1 : cs1.length ≤ p1 := by
    have := R1.2.2.1
    omega
  -- behind the sign
  have go : ∀ (k c c' : Int32) (b2 : Nat) (g2 : pmH), taB (cuF bs 4).1 k s1.1 = true → rgF (cuF bs 4).1 s1 = (c, lTk (cuF bs 4).1 k s1) → pr_ h0 g2 m o bs (skp bs p1 + 1) b2 dp n1 fa1 cs1 ks → sm_ bs 4 (taF (cuF bs 4).1 k s1.1) (skp bs p1 + 1) fa1 → g2.length = h.length → fa1 = -1 → ¬ c' = -1 → c < 16 → ¬ c < 8 → ¬ c = 13 → c' < 1000 → ¬ c' < 20 → ¬ c' = 25 → (∀ l r, jnI c l r = mjn c' l r) → W_X12_atom (d + 7) (h.length + 0) 0 (fun x h' => x = none ∧ ∃ p' b' n' fa' cs', pr_ h0 h' m o bs p' b' dp n' fa' cs' ks ∧ G p' n' fa' cs') 143 [some (.ref m), none] [.int c'] g2 0 := by
    intro k c c' b2 g2 tb eg P2 S2 lg2 hf1 cm' q1 q2 q3 r1 r2 r3 hj
    have H2 := P2.c0
    obtain ⟨u1, u2, u3, u4, -⟩ := R1.2.2.2 hf1
    have w3 := R1.2.2.1
    have et : taF (cuF bs 4).1 k s1.1 = (s1.1.1 + 1, s1.1.2) := by
      unfold taF
      rw [if_pos tb]
    have es : lTk (cuF bs 4).1 k s1 = ((s1.1.1 + 1, s1.1.2), s1.2) := by
      unfold lTk
      rw [et]
    rw [eg, es] at aE
    rw [et] at S2
    obtain ⟨s2, hs2⟩ : ∃ s2 : LZ, s2 = ((s1.1.1 + 1, s1.1.2), s1.2) := ⟨_, rfl⟩
    have hs21 : s2.1 = (s1.1.1 + 1, s1.1.2) := by rw [hs2]
    have hs22 : s2.2 = s1.2 := by rw [hs2]
    have hs23 : s2.1.1 = s1.1.1 + 1 := by rw [hs2]
    rw [← hs2] at aE
    dsimp only at aE
    obtain ⟨Y, hY⟩ : ∃ Y, Y = rsF (cuF bs 4).1 (cuF bs 4).2.2 400 (-1) s2 := ⟨_, rfl⟩
    rw [← hY] at aE
    rw [← hs21] at S2
    simp only [w_X12_atom_143, w_X12_atom_144, w_X12_atom_145, w_X12_atom_146, w_X12_atom_158, w_X12_atom_159, pm_1i_c, pm_2i_c, pm_1l_c, pm_2l_c, pm_1a_c, pm_ia_c, pm_iia_c, pm_va_c, pm_cp_c, pm_k0_c, pm_k1_c, pm_k2_c, pm_k3_c, pm_s1_c, pm_s2_c, pm_s3_c, pm_s4_c, pm_ri_c, pm_ra_c, pm_rn_c, pm_rk_i, pm_rk_z, pm_rk_a, pm_vk_i, pm_vk_z, pm_vk_a, pm_cti, pm_ctr, pm_ldi_z, pm_ldi_s, pm_lda_z, pm_lda_s, pm_cat_n, pm_cat_i, pm_cat_r, pm_cat_l, pm_obj, pm_arr, pm_opt, pm_ird, pm_aln, List.getElem?_cons_zero, List.getElem?_cons_succ, List.set_cons_zero, List.set_cons_succ, List.length_cons, List.length_nil, List.length_set, true_and, and_true, Nat.add_zero, Nat.zero_add, Nat.le_refl, Nat.reduceAdd, Nat.reduceLT, Nat.reduceLeDiff, Nat.zero_le, not_false_eq_true, not_true_eq_false, false_implies, implies_true, true_implies, Nat.zero_lt_succ, Nat.lt_add_one, H2, lg2, cm']
    refine PM_use (c_Y_sum (s := s2) P2 T S2 hf1 (by rw [hs22]; exact u3) u4 (by omega) d) ?_
    rintro x h3 l3 ⟨rfl, p3, b3, n3, fa3, cs3, P3, R2⟩
    rw [← hY] at R2
    have H3 := P3.c0
    have lg3 : h3.length = h.length := l3.trans lg2
    have c5 : cs3.length < 500 := by
      have := R2.2.2.1
      have := R2.1.1
      omega
    show W_X12_atom _ _ _ _ _ _ _ _ _
    simp only [w_X12_atom_162, w_X12_atom_163, w_X12_atom_164, pm_1i_c, pm_2i_c, pm_1l_c, pm_2l_c, pm_1a_c, pm_ia_c, pm_iia_c, pm_va_c, pm_cp_c, pm_k0_c, pm_k1_c, pm_k2_c, pm_k3_c, pm_s1_c, pm_s2_c, pm_s3_c, pm_s4_c, pm_ri_c, pm_ra_c, pm_rn_c, pm_rk_i, pm_rk_z, pm_rk_a, pm_vk_i, pm_vk_z, pm_vk_a, pm_cti, pm_ctr, pm_ldi_z, pm_ldi_s, pm_lda_z, pm_lda_s, pm_cat_n, pm_cat_i, pm_cat_r, pm_cat_l, pm_obj, pm_arr, pm_opt, pm_ird, pm_aln, List.getElem?_cons_zero, List.getElem?_cons_succ, List.set_cons_zero, List.set_cons_succ, List.length_cons, List.length_nil, List.length_set, true_and, and_true, Nat.add_zero, Nat.zero_add, Nat.le_refl, Nat.reduceAdd, Nat.reduceLT, Nat.reduceLeDiff, Nat.zero_le, not_false_eq_true, not_true_eq_false, false_implies, implies_true, true_implies, Nat.zero_lt_succ, Nat.lt_add_one, pm_tl_n, pm_tl_s, sc_uL, H3, lg3]
    refine PM_use (c_Y_codes P3 c' c5 (d + 6)) ?_
    rintro x h4 l4 ⟨rfl, P4⟩
    show W_X12_atom _ _ _ _ _ _ _ _ _
    simp only [w_X12_atom_167, pm_1i_c, pm_2i_c, pm_1l_c, pm_2l_c, pm_1a_c, pm_ia_c, pm_iia_c, pm_va_c, pm_cp_c, pm_k0_c, pm_k1_c, pm_k2_c, pm_k3_c, pm_s1_c, pm_s2_c, pm_s3_c, pm_s4_c, pm_ri_c, pm_ra_c, pm_rn_c, pm_rk_i, pm_rk_z, pm_rk_a, pm_vk_i, pm_vk_z, pm_vk_a, pm_cti, pm_ctr, pm_ldi_z, pm_ldi_s, pm_lda_z, pm_lda_s, pm_cat_n, pm_cat_i, pm_cat_r, pm_cat_l, pm_obj, pm_arr, pm_opt, pm_ird, pm_aln, List.getElem?_cons_zero, List.getElem?_cons_succ, List.set_cons_zero, List.set_cons_succ, List.length_cons, List.length_nil, List.length_set, true_and, and_true, Nat.add_zero, Nat.zero_add, Nat.le_refl, Nat.reduceAdd, Nat.reduceLT, Nat.reduceLeDiff, Nat.zero_le, not_false_eq_true, not_true_eq_false, false_implies, implies_true, true_implies, Nat.zero_lt_succ, Nat.lt_add_one, pm_tl_n, pm_tl_s, sc_uL, l4, lg3]
    refine ⟨_, _, _, _, _, P4, hG _ _ _ _ ?_⟩
    rw [aE]
    by_cases yf : fa3 = -1
    · exact Rl_join R1 hf1 hs22 hs23 (by omega : p1 < skp bs p1 + 1) R2 q1 q2 q3 r1 r2 r3 hj
    · exact (Rl_fail R1 (by omega : p1 < skp bs p1 + 1) R2 yf c').ff yf (lSt_1 c Y)
  have go60 := go 60 10 22
  have go61 := go 61 11 23
  have go62 := go 62 12 24
  have nn : ∀ k, taB (cuF bs 4).1 (nI k) s1.1 = false → ¬ taB (cuF bs 4).1 (nI k) s1.1 = true := fun k e => by
    rw [e]
    decide
  show W_X12_atom _ _ _ _ _ _ _ _ _
  simp only [w_X12_atom_100, w_X12_atom_101, w_X12_atom_103, pm_1i_c, pm_2i_c, pm_1l_c, pm_2l_c, pm_1a_c, pm_ia_c, pm_iia_c, pm_va_c, pm_cp_c, pm_k0_c, pm_k1_c, pm_k2_c, pm_k3_c, pm_s1_c, pm_s2_c, pm_s3_c, pm_s4_c, pm_ri_c, pm_ra_c, pm_rn_c, pm_rk_i, pm_rk_z, pm_rk_a, pm_vk_i, pm_vk_z, pm_vk_a, pm_cti, pm_ctr, pm_ldi_z, pm_ldi_s, pm_lda_z, pm_lda_s, pm_cat_n, pm_cat_i, pm_cat_r, pm_cat_l, pm_obj, pm_arr, pm_opt, pm_ird, pm_aln, List.getElem?_cons_zero, List.getElem?_cons_succ, List.set_cons_zero, List.set_cons_succ, List.length_cons, List.length_nil, List.length_set, true_and, and_true, Nat.add_zero, Nat.zero_add, Nat.le_refl, Nat.reduceAdd, Nat.reduceLT, Nat.reduceLeDiff, Nat.zero_le, not_false_eq_true, not_true_eq_false, false_implies, implies_true, true_implies, Nat.zero_lt_succ, Nat.lt_add_one, pm_tl_n, pm_tl_s, sc_uL, H1, l1']
  refine PM_use (c_Y_takes P1 T S1 sgn_60 (d + 3)) ?_
  rintro x h2 l2 ⟨rfl, P2⟩
  have K1 := S1.tk T.2.1 sgn_60
  rcases Bool.eq_false_or_eq_true (taB (cuF bs 4).1 60 s1.1) with c | c
  · have c' : taB (cuF bs 4).1 (nI 60) s1.1 = true := c
    rw [if_pos c'] at P2 K1 ⊢
    have hf1 := S1.ff.mp (taB_ll (by decide) c).1
    show W_X12_atom _ _ _ _ _ _ _ _ _
    simp only [w_X12_atom_106, w_X12_atom_109, w_X12_atom_111, pm_1i_c, pm_2i_c, pm_1l_c, pm_2l_c, pm_1a_c, pm_ia_c, pm_iia_c, pm_va_c, pm_cp_c, pm_k0_c, pm_k1_c, pm_k2_c, pm_k3_c, pm_s1_c, pm_s2_c, pm_s3_c, pm_s4_c, pm_ri_c, pm_ra_c, pm_rn_c, pm_rk_i, pm_rk_z, pm_rk_a, pm_vk_i, pm_vk_z, pm_vk_a, pm_cti, pm_ctr, pm_ldi_z, pm_ldi_s, pm_lda_z, pm_lda_s, pm_cat_n, pm_cat_i, pm_cat_r, pm_cat_l, pm_obj, pm_arr, pm_opt, pm_ird, pm_aln, List.getElem?_cons_zero, List.getElem?_cons_succ, List.set_cons_zero, List.set_cons_succ, List.length_cons, List.length_nil, List.length_set, true_and, and_true, Nat.add_zero, Nat.zero_add, Nat.le_refl, Nat.reduceAdd, Nat.reduceLT, Nat.reduceLeDiff, Nat.zero_le, not_false_eq_true, not_true_eq_false, false_implies, implies_true, true_implies, Nat.zero_lt_succ, Nat.lt_add_one, pm_tl_n, pm_tl_s, sc_uL, show ¬ (1 : Int32) = 0 by decide]
    exact go60 _ _ c (by unfold rgF; rw [if_pos c]) P2 K1 (l2.trans l1') hf1 (by decide) (by decide) (by decide) (by decide) (by decide) (by decide) (by decide) hj10
  · have c' := nn 60 c
    rw [if_neg c'] at P2 ⊢
    have H2 := P2.c0
    have l2' : h2.length = h.length := l2.trans l1'
    show W_X12_atom _ _ _ _ _ _ _ _ _
    simp only [w_X12_atom_106, w_X12_atom_114, w_X12_atom_115, w_X12_atom_117, pm_1i_c, pm_2i_c, pm_1l_c, pm_2l_c, pm_1a_c, pm_ia_c, pm_iia_c, pm_va_c, pm_cp_c, pm_k0_c, pm_k1_c, pm_k2_c, pm_k3_c, pm_s1_c, pm_s2_c, pm_s3_c, pm_s4_c, pm_ri_c, pm_ra_c, pm_rn_c, pm_rk_i, pm_rk_z, pm_rk_a, pm_vk_i, pm_vk_z, pm_vk_a, pm_cti, pm_ctr, pm_ldi_z, pm_ldi_s, pm_lda_z, pm_lda_s, pm_cat_n, pm_cat_i, pm_cat_r, pm_cat_l, pm_obj, pm_arr, pm_opt, pm_ird, pm_aln, List.getElem?_cons_zero, List.getElem?_cons_succ, List.set_cons_zero, List.set_cons_succ, List.length_cons, List.length_nil, List.length_set, true_and, and_true, Nat.add_zero, Nat.zero_add, Nat.le_refl, Nat.reduceAdd, Nat.reduceLT, Nat.reduceLeDiff, Nat.zero_le, not_false_eq_true, not_true_eq_false, false_implies, implies_true, true_implies, Nat.zero_lt_succ, Nat.lt_add_one, pm_tl_n, pm_tl_s, sc_uL, H2, l2']
    refine PM_use (c_Y_takes P2 T S1.sk sgn_61 (d + 3)) ?_
    rintro x h3 l3 ⟨rfl, P3⟩
    have K2 := S1.sk.tk T.2.1 sgn_61
    rw [kk] at P3 K2
    have l3' : h3.length = h.length := l3.trans l2'
    rcases Bool.eq_false_or_eq_true (taB (cuF bs 4).1 61 s1.1) with c2 | c2
    · have c2' : taB (cuF bs 4).1 (nI 61) s1.1 = true := c2
      rw [if_pos c2'] at P3 K2 ⊢
      have hf1 := S1.ff.mp (taB_ll (by decide) c2).1
      have c3 : taB (cuF bs 4).1 62 s1.1 = false := taB_1 c2 (by decide)
      show W_X12_atom _ _ _ _ _ _ _ _ _
      simp only [w_X12_atom_120, w_X12_atom_123, w_X12_atom_125, pm_1i_c, pm_2i_c, pm_1l_c, pm_2l_c, pm_1a_c, pm_ia_c, pm_iia_c, pm_va_c, pm_cp_c, pm_k0_c, pm_k1_c, pm_k2_c, pm_k3_c, pm_s1_c, pm_s2_c, pm_s3_c, pm_s4_c, pm_ri_c, pm_ra_c, pm_rn_c, pm_rk_i, pm_rk_z, pm_rk_a, pm_vk_i, pm_vk_z, pm_vk_a, pm_cti, pm_ctr, pm_ldi_z, pm_ldi_s, pm_lda_z, pm_lda_s, pm_cat_n, pm_cat_i, pm_cat_r, pm_cat_l, pm_obj, pm_arr, pm_opt, pm_ird, pm_aln, List.getElem?_cons_zero, List.getElem?_cons_succ, List.set_cons_zero, List.set_cons_succ, List.length_cons, List.length_nil, List.length_set, true_and, and_true, Nat.add_zero, Nat.zero_add, Nat.le_refl, Nat.reduceAdd, Nat.reduceLT, Nat.reduceLeDiff, Nat.zero_le, not_false_eq_true, not_true_eq_false, false_implies, implies_true, true_implies, Nat.zero_lt_succ, Nat.lt_add_one, pm_tl_n, pm_tl_s, sc_uL, show ¬ (1 : Int32) = 0 by decide]
      refine go61 _ _ c2 ?_ P3 K2 l3' hf1 (by decide) (by decide) (by decide) (by decide) (by decide) (by decide) (by decide) hj11
      unfold rgF lNd neF lTk taF
      rw [c, c3, if_neg (by decide), if_neg (by decide), if_pos c2, if_pos c2]
    · have c2' := nn 61 c2
      rw [if_neg c2'] at P3 ⊢
      have H3 := P3.c0
      show W_X12_atom _ _ _ _ _ _ _ _ _
      simp only [w_X12_atom_120, w_X12_atom_128, w_X12_atom_129, w_X12_atom_131, pm_1i_c, pm_2i_c, pm_1l_c, pm_2l_c, pm_1a_c, pm_ia_c, pm_iia_c, pm_va_c, pm_cp_c, pm_k0_c, pm_k1_c, pm_k2_c, pm_k3_c, pm_s1_c, pm_s2_c, pm_s3_c, pm_s4_c, pm_ri_c, pm_ra_c, pm_rn_c, pm_rk_i, pm_rk_z, pm_rk_a, pm_vk_i, pm_vk_z, pm_vk_a, pm_cti, pm_ctr, pm_ldi_z, pm_ldi_s, pm_lda_z, pm_lda_s, pm_cat_n, pm_cat_i, pm_cat_r, pm_cat_l, pm_obj, pm_arr, pm_opt, pm_ird, pm_aln, List.getElem?_cons_zero, List.getElem?_cons_succ, List.set_cons_zero, List.set_cons_succ, List.length_cons, List.length_nil, List.length_set, true_and, and_true, Nat.add_zero, Nat.zero_add, Nat.le_refl, Nat.reduceAdd, Nat.reduceLT, Nat.reduceLeDiff, Nat.zero_le, not_false_eq_true, not_true_eq_false, false_implies, implies_true, true_implies, Nat.zero_lt_succ, Nat.lt_add_one, pm_tl_n, pm_tl_s, sc_uL, H3, l3']
      refine PM_use (c_Y_takes P3 T S1.sk sgn_62 (d + 3)) ?_
      rintro x h4 l4 ⟨rfl, P4⟩
      have K3 := S1.sk.tk T.2.1 sgn_62
      rw [kk] at P4 K3
      have l4' : h4.length = h.length := l4.trans l3'
      rcases Bool.eq_false_or_eq_true (taB (cuF bs 4).1 62 s1.1) with c3 | c3
      · have c3' : taB (cuF bs 4).1 (nI 62) s1.1 = true := c3
        rw [if_pos c3'] at P4 K3 ⊢
        have hf1 := S1.ff.mp (taB_ll (by decide) c3).1
        show W_X12_atom _ _ _ _ _ _ _ _ _
        simp only [w_X12_atom_134, w_X12_atom_137, w_X12_atom_139, pm_1i_c, pm_2i_c, pm_1l_c, pm_2l_c, pm_1a_c, pm_ia_c, pm_iia_c, pm_va_c, pm_cp_c, pm_k0_c, pm_k1_c, pm_k2_c, pm_k3_c, pm_s1_c, pm_s2_c, pm_s3_c, pm_s4_c, pm_ri_c, pm_ra_c, pm_rn_c, pm_rk_i, pm_rk_z, pm_rk_a, pm_vk_i, pm_vk_z, pm_vk_a, pm_cti, pm_ctr, pm_ldi_z, pm_ldi_s, pm_lda_z, pm_lda_s, pm_cat_n, pm_cat_i, pm_cat_r, pm_cat_l, pm_obj, pm_arr, pm_opt, pm_ird, pm_aln, List.getElem?_cons_zero, List.getElem?_cons_succ, List.set_cons_zero, List.set_cons_succ, List.length_cons, List.length_nil, List.length_set, true_and, and_true, Nat.add_zero, Nat.zero_add, Nat.le_refl, Nat.reduceAdd, Nat.reduceLT, Nat.reduceLeDiff, Nat.zero_le, not_false_eq_true, not_true_eq_false, false_implies, implies_true, true_implies, Nat.zero_lt_succ, Nat.lt_add_one, pm_tl_n, pm_tl_s, sc_uL, show ¬ (1 : Int32) = 0 by decide]
        refine go62 _ _ c3 ?_ P4 K3 l4' hf1 (by decide) (by decide) (by decide) (by decide) (by decide) (by decide) (by decide) hj12
        unfold rgF
        rw [c, c3, if_neg (by decide), if_pos rfl]
      · have c3' := nn 62 c3
        rw [if_neg c3'] at P4 ⊢
        have H4 := P4.c0
        show W_X12_atom _ _ _ _ _ _ _ _ _
        simp only [w_X12_atom_134, w_X12_atom_142, w_X12_atom_143, w_X12_atom_144, w_X12_atom_145, w_X12_atom_146, w_X12_atom_149, w_X12_atom_150, w_X12_atom_151, w_X12_atom_154, pm_1i_c, pm_2i_c, pm_1l_c, pm_2l_c, pm_1a_c, pm_ia_c, pm_iia_c, pm_va_c, pm_cp_c, pm_k0_c, pm_k1_c, pm_k2_c, pm_k3_c, pm_s1_c, pm_s2_c, pm_s3_c, pm_s4_c, pm_ri_c, pm_ra_c, pm_rn_c, pm_rk_i, pm_rk_z, pm_rk_a, pm_vk_i, pm_vk_z, pm_vk_a, pm_cti, pm_ctr, pm_ldi_z, pm_ldi_s, pm_lda_z, pm_lda_s, pm_cat_n, pm_cat_i, pm_cat_r, pm_cat_l, pm_obj, pm_arr, pm_opt, pm_ird, pm_aln, List.getElem?_cons_zero, List.getElem?_cons_succ, List.set_cons_zero, List.set_cons_succ, List.length_cons, List.length_nil, List.length_set, true_and, and_true, Nat.add_zero, Nat.zero_add, Nat.le_refl, Nat.reduceAdd, Nat.reduceLT, Nat.reduceLeDiff, Nat.zero_le, not_false_eq_true, not_true_eq_false, false_implies, implies_true, true_implies, Nat.zero_lt_succ, Nat.lt_add_one, pm_tl_n, pm_tl_s, sc_uL, H4, l4']
        refine PM_use (c_Y_failsAt P4 (nI (skp bs p1)) (d + 6)) ?_
        rintro x h5 l5 ⟨rfl, P5⟩
        show W_X12_atom _ _ _ _ _ _ _ _ _
        simp only [w_X12_atom_157, pm_1i_c, pm_2i_c, pm_1l_c, pm_2l_c, pm_1a_c, pm_ia_c, pm_iia_c, pm_va_c, pm_cp_c, pm_k0_c, pm_k1_c, pm_k2_c, pm_k3_c, pm_s1_c, pm_s2_c, pm_s3_c, pm_s4_c, pm_ri_c, pm_ra_c, pm_rn_c, pm_rk_i, pm_rk_z, pm_rk_a, pm_vk_i, pm_vk_z, pm_vk_a, pm_cti, pm_ctr, pm_ldi_z, pm_ldi_s, pm_lda_z, pm_lda_s, pm_cat_n, pm_cat_i, pm_cat_r, pm_cat_l, pm_obj, pm_arr, pm_opt, pm_ird, pm_aln, List.getElem?_cons_zero, List.getElem?_cons_succ, List.set_cons_zero, List.set_cons_succ, List.length_cons, List.length_nil, List.length_set, true_and, and_true, Nat.add_zero, Nat.zero_add, Nat.le_refl, Nat.reduceAdd, Nat.reduceLT, Nat.reduceLeDiff, Nat.zero_le, not_false_eq_true, not_true_eq_false, false_implies, implies_true, true_implies, Nat.zero_lt_succ, Nat.lt_add_one, pm_tl_n, pm_tl_s, sc_uL, l5, l4']
        have Kf := S1.sk.fl L4
        rw [kk] at Kf
        have eg : rgF (cuF bs 4).1 s1 = (11, (faF (nI s1.1.1) s1.1, s1.2)) := by
          unfold rgF lNd neF
          rw [c, c2, c3, if_neg (by decide), if_neg (by decide), if_neg (by decide)]
        have gf : ¬ (rgF (cuF bs 4).1 s1).2.1.2 = -1 := by
          rw [eg]
          show ¬ (faF (nI s1.1.1) s1.1).2 = -1
          intro z
          have := Kf.ff.mp z
          by_cases y : fa1 = -1
          · rw [if_pos y] at this
            exact nI_ne1 (by omega) this
          · rw [if_neg y] at this
            exact y this
        have ez := aF gf
        refine ⟨_, _, _, _, _, P5, hG _ _ _ _ ⟨?_, by have := R1.2.1; omega, by have := R1.2.2.1; omega, fun z => ?_⟩⟩
        · rw [ez, eg]
          exact Kf
        · exact absurd (Kf.ff.mpr z) (by
            have := gf
            rw [eg] at this
            exact this)
end ML
