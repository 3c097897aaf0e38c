/-! AdmissionDeskModel: 'and', 'or', and a law's whole text. -/
theorem hj14 (l r : Int32) : jnI 14 l r = mjn 26 l r := by
  unfold jnI mjn
  rw [if_neg (show ¬ (14 : Int32) = 8 by decide), if_neg (show ¬ (14 : Int32) = 9 by decide), if_neg (show ¬ (14 : Int32) = 10 by decide), if_neg (show ¬ (14 : Int32) = 11 by decide), if_neg (show ¬ (14 : Int32) = 12 by decide), if_pos (show (14 : Int32) = 14 from rfl), if_neg (show ¬ (26 : Int32) = 20 by decide), if_neg (show ¬ (26 : Int32) = 21 by decide), if_neg (show ¬ (26 : Int32) = 22 by decide), if_neg (show ¬ (26 : Int32) = 23 by decide), if_neg (show ¬ (26 : Int32) = 24 by decide), if_pos (show (26 : Int32) = 26 from rfl)]
theorem hj15 (l r : Int32) : jnI 15 l r = mjn 27 l r := by
  unfold jnI mjn
  rw [if_neg (show ¬ (15 : Int32) = 8 by decide), if_neg (show ¬ (15 : Int32) = 9 by decide), if_neg (show ¬ (15 : Int32) = 10 by decide), if_neg (show ¬ (15 : Int32) = 11 by decide), if_neg (show ¬ (15 : Int32) = 12 by decide), if_neg (show ¬ (15 : Int32) = 14 by decide), if_neg (show ¬ (27 : Int32) = 20 by decide), if_neg (show ¬ (27 : Int32) = 21 by decide), if_neg (show ¬ (27 : Int32) = 22 by decide), if_neg (show ¬ (27 : Int32) = 23 by decide), if_neg (show ¬ (27 : Int32) = 24 by decide), if_neg (show ¬ (27 : Int32) = 26 by decide)]
section ML
variable {h0 h h' : pmH} {m : Nat} {o : Nat → Int32} {bs : List Int32} {p b dp n : Nat} {fa : Int32} {cs ks : List Int32} {s : LZ}
set_option maxHeartbeats 2000000 in
theorem c_Y_every (T : tap_ h0 m bs) {A : LZ → LZ} {D f : Nat} (HA : ∀ (h : pmH) (s : LZ) (p b n : Nat) (fa : Int32) (cs : List Int32), pr_ h0 h m o bs p b dp n fa cs ks → sm_ bs 4 s.1 p fa → fa = -1 → n = s.2.1 → n ≤ 60 → cs.length ≤ p → 400 ≤ f + s.1.1 → PM (D + 4) 169 [.ref m] h (fun x h' => x = none ∧ ∃ p' b' n' fa' cs', pr_ h0 h' m o bs p' b' dp n' fa' cs' ks ∧ Rl bs s (A s) cs p p' n' fa' cs')) (P : pr_ h0 h m o bs p b dp n fa cs ks) (S : sm_ bs 4 s.1 p fa) (hf : fa = -1) (hn : n = s.2.1) (hn2 : n ≤ 60) (hc : cs.length ≤ p) (hix : 400 ≤ f + s.1.1) : PM (D + 5) 168 [.ref m] h (fun x h' => x = none ∧ ∃ p' b' n' fa' cs', pr_ h0 h' m o bs p' b' dp n' fa' cs' ks ∧ Rl bs s (alF (cuF bs 4).1 264 14 A s) cs p p' n' fa' cs') := by
  refine en_X12_every rfl ?_
  have H0 := P.c0
  have L4 := T.1
  have KL := cuF_kl1 (dm := 4) L4
  obtain ⟨Z, hZ⟩ : ∃ Z, Z = alF (cuF bs 4).1 264 14 A s := ⟨_, rfl⟩
  rw [← hZ]
  have loop : ∀ z s' p1 b1 n1 fa1 cs1 (g : pmH), Rl bs s s' cs p p1 n1 fa1 cs1 → pr_ h0 g m o bs p1 b1 dp n1 fa1 cs1 ks → g.length = h.length → (fa1 = -1 → 400 ≤ z + s'.1.1) → alG (cuF bs 4).1 264 14 A z s' = Z → W_X12_every (D + 4) (h.length + 0) 0 (fun x h' => x = none ∧ ∃ p' b' n' fa' cs', pr_ h0 h' m o bs p' b' dp n' fa' cs' ks ∧ Rl bs s Z cs p p' n' fa' cs') 4 [some (.ref m)] [] g 0 := by
    intro z
    induction z with
    | zero =>
      intro s' p1 b1 n1 fa1 cs1 g R1 P1 lg hi e
      have S1 := R1.1
      have H1 := P1.c0
      have t0 : taB (cuF bs 4).1 (nI (256 + 8)) s'.1 = false := by
        cases y : taB (cuF bs 4).1 (nI (256 + 8)) s'.1 with
        | false => rfl
        | true =>
          obtain ⟨y1, y2⟩ := taB_ll (by decide) y
          have := hi (S1.ff.mp y1)
          omega
      rw [w_X12_every_4]
      simp only [w_X12_every_5, w_X12_every_7, pm_1i_c, pm_2i_c, pm_1l_c, pm_2l_c, pm_1a_c, pm_ia_c, pm_iia_c, pm_va_c, pm_cp_c, pm_k0_c, pm_k1_c, pm_k2_c, pm_k3_c, pm_s1_c, pm_s2_c, pm_s3_c, pm_s4_c, pm_ri_c, pm_ra_c, pm_rn_c, pm_rk_i, pm_rk_z, pm_rk_a, pm_vk_i, pm_vk_z, pm_vk_a, pm_cti, pm_ctr, pm_ldi_z, pm_ldi_s, pm_lda_z, pm_lda_s, pm_cat_n, pm_cat_i, pm_cat_r, pm_cat_l, pm_obj, pm_arr, pm_opt, pm_ird, pm_aln, List.getElem?_cons_zero, List.getElem?_cons_succ, List.set_cons_zero, List.set_cons_succ, List.length_cons, List.length_nil, List.length_set, true_and, and_true, Nat.add_zero, Nat.zero_add, Nat.le_refl, Nat.reduceAdd, Nat.reduceLT, Nat.reduceLeDiff, Nat.zero_le, not_false_eq_true, not_true_eq_false, false_implies, implies_true, true_implies, Nat.zero_lt_succ, Nat.lt_add_one, H1, lg]
      refine PM_use (c_Y_takesWord P1 T S1 wdk_and (a := 1000012) rfl D) ?_
      rintro x h2 l2 ⟨rfl, p2, b2, P2, S2, le2, -, -, -⟩
      have et : taF (cuF bs 4).1 (nI (256 + 8)) s'.1 = s'.1 := by
        unfold taF
        rw [if_neg (by rw [t0]; decide)]
      rw [et] at S2
      rw [if_neg (by rw [t0]; decide)]
      show W_X12_every _ _ _ _ _ _ _ _ _
      simp only [w_X12_every_10, w_X12_every_26, pm_1i_c, pm_2i_c, pm_1l_c, pm_2l_c, pm_1a_c, pm_ia_c, pm_iia_c, pm_va_c, pm_cp_c, pm_k0_c, pm_k1_c, pm_k2_c, pm_k3_c, pm_s1_c, pm_s2_c, pm_s3_c, pm_s4_c, pm_ri_c, pm_ra_c, pm_rn_c, pm_rk_i, pm_rk_z, pm_rk_a, pm_vk_i, pm_vk_z, pm_vk_a, pm_cti, pm_ctr, pm_ldi_z, pm_ldi_s, pm_lda_z, pm_lda_s, pm_cat_n, pm_cat_i, pm_cat_r, pm_cat_l, pm_obj, pm_arr, pm_opt, pm_ird, pm_aln, List.getElem?_cons_zero, List.getElem?_cons_succ, List.set_cons_zero, List.set_cons_succ, List.length_cons, List.length_nil, List.length_set, true_and, and_true, Nat.add_zero, Nat.zero_add, Nat.le_refl, Nat.reduceAdd, Nat.reduceLT, Nat.reduceLeDiff, Nat.zero_le, not_false_eq_true, not_true_eq_false, false_implies, implies_true, true_implies, Nat.zero_lt_succ, Nat.lt_add_one, pm_tl_n, pm_tl_s, sc_uL, l2, lg]
      have e : s' = Z := e
      rw [← e]
      exact ⟨_, _, _, _, _, P2, R1.bl S2 le2⟩
    | succ z ih =>
      intro s' p1 b1 n1 fa1 cs1 g R1 P1 lg hi e
      have S1 := R1.1
      have H1 := P1.c0
      rw [alG_s] at e
      rw [w_X12_every_4]
      simp only [w_X12_every_5, w_X12_every_7, pm_1i_c, pm_2i_c, pm_1l_c, pm_2l_c, pm_1a_c, pm_ia_c, pm_iia_c, pm_va_c, pm_cp_c, pm_k0_c, pm_k1_c, pm_k2_c, pm_k3_c, pm_s1_c, pm_s2_c, pm_s3_c, pm_s4_c, pm_ri_c, pm_ra_c, pm_rn_c, pm_rk_i, pm_rk_z, pm_rk_a, pm_vk_i, pm_vk_z, pm_vk_a, pm_cti, pm_ctr, pm_ldi_z, pm_ldi_s, pm_lda_z, pm_lda_s, pm_cat_n, pm_cat_i, pm_cat_r, pm_cat_l, pm_obj, pm_arr, pm_opt, pm_ird, pm_aln, List.getElem?_cons_zero, List.getElem?_cons_succ, List.set_cons_zero, List.set_cons_succ, List.length_cons, List.length_nil, List.length_set, true_and, and_true, Nat.add_zero, Nat.zero_add, Nat.le_refl, Nat.reduceAdd, Nat.reduceLT, Nat.reduceLeDiff, Nat.zero_le, not_false_eq_true, not_true_eq_false, false_implies, implies_true, true_implies, Nat.zero_lt_succ, Nat.lt_add_one, H1, lg]
      refine PM_use (c_Y_takesWord P1 T S1 wdk_and (a := 1000012) rfl D) ?_
      rintro x h2 l2 ⟨rfl, p2, b2, P2, S2, le2, lt2, -, -⟩
      have l2' : h2.length = h.length := l2.trans lg
      rcases Bool.eq_false_or_eq_true (taB (cuF bs 4).1 264 s'.1) with c | c
      · have c' : taB (cuF bs 4).1 (nI (256 + 8)) s'.1 = true := c
        have hf1 := S1.ff.mp (taB_ll (by decide) c).1
        have lt2 := lt2 c'
        obtain ⟨u1, u2, u3, u4, -⟩ := R1.2.2.2 hf1
        have w3 := R1.2.2.1
        obtain ⟨s2, hs2⟩ : ∃ s2 : LZ, s2 = ((s'.1.1 + 1, s'.1.2), s'.2) := ⟨_, rfl⟩
        have hs21 : s2.1 = (s'.1.1 + 1, s'.1.2) := by rw [hs2]
        have hs22 : s2.2 = s'.2 := by rw [hs2]
        have hs23 : s2.1.1 = s'.1.1 + 1 := by rw [hs2]
        have et : taF (cuF bs 4).1 (nI (256 + 8)) s'.1 = (s'.1.1 + 1, s'.1.2) := by
          unfold taF
          rw [if_pos c']
        rw [et, ← hs21] at S2
        rw [if_pos c, lTk_yes c, ← hs2] at e
        obtain ⟨Y, hY⟩ : ∃ Y, Y = A s2 := ⟨_, rfl⟩
        rw [← hY] at e
        have I := HA h2 s2 p2 b2 n1 fa1 cs1 P2 S2 hf1 (by rw [hs22]; exact u3) u4 (by omega) (by omega)
        rw [← hY] at I
        have H2 := P2.c0
        rw [if_pos c']
        show W_X12_every _ _ _ _ _ _ _ _ _
        simp only [w_X12_every_10, w_X12_every_13, w_X12_every_14, pm_1i_c, pm_2i_c, pm_1l_c, pm_2l_c, pm_1a_c, pm_ia_c, pm_iia_c, pm_va_c, pm_cp_c, pm_k0_c, pm_k1_c, pm_k2_c, pm_k3_c, pm_s1_c, pm_s2_c, pm_s3_c, pm_s4_c, pm_ri_c, pm_ra_c, pm_rn_c, pm_rk_i, pm_rk_z, pm_rk_a, pm_vk_i, pm_vk_z, pm_vk_a, pm_cti, pm_ctr, pm_ldi_z, pm_ldi_s, pm_lda_z, pm_lda_s, pm_cat_n, pm_cat_i, pm_cat_r, pm_cat_l, pm_obj, pm_arr, pm_opt, pm_ird, pm_aln, List.getElem?_cons_zero, List.getElem?_cons_succ, List.set_cons_zero, List.set_cons_succ, List.length_cons, List.length_nil, List.length_set, true_and, and_true, Nat.add_zero, Nat.zero_add, Nat.le_refl, Nat.reduceAdd, Nat.reduceLT, Nat.reduceLeDiff, Nat.zero_le, not_false_eq_true, not_true_eq_false, false_implies, implies_true, true_implies, Nat.zero_lt_succ, Nat.lt_add_one, pm_tl_n, pm_tl_s, sc_uL, H2, l2', show ¬ (1 : Int32) = 0 by decide]
        refine PM_use (I) ?_
        rintro x h3 l3 ⟨rfl, p3, b3, n3, fa3, cs3, P3, R3⟩
        have H3 := P3.c0
        have l3' : h3.length = h.length := l3.trans l2'
        have c5 : cs3.length < 500 := by
          have := R3.2.2.1
          have := R3.1.1
          omega
        show W_X12_every _ _ _ _ _ _ _ _ _
        simp only [w_X12_every_17, w_X12_every_18, w_X12_every_20, pm_1i_c, pm_2i_c, pm_1l_c, pm_2l_c, pm_1a_c, pm_ia_c, pm_iia_c, pm_va_c, pm_cp_c, pm_k0_c, pm_k1_c, pm_k2_c, pm_k3_c, pm_s1_c, pm_s2_c, pm_s3_c, pm_s4_c, pm_ri_c, pm_ra_c, pm_rn_c, pm_rk_i, pm_rk_z, pm_rk_a, pm_vk_i, pm_vk_z, pm_vk_a, pm_cti, pm_ctr, pm_ldi_z, pm_ldi_s, pm_lda_z, pm_lda_s, pm_cat_n, pm_cat_i, pm_cat_r, pm_cat_l, pm_obj, pm_arr, pm_opt, pm_ird, pm_aln, List.getElem?_cons_zero, List.getElem?_cons_succ, List.set_cons_zero, List.set_cons_succ, List.length_cons, List.length_nil, List.length_set, true_and, and_true, Nat.add_zero, Nat.zero_add, Nat.le_refl, Nat.reduceAdd, Nat.reduceLT, Nat.reduceLeDiff, Nat.zero_le, not_false_eq_true, not_true_eq_false, false_implies, implies_true, true_implies, Nat.zero_lt_succ, Nat.lt_add_one, pm_tl_n, pm_tl_s, sc_uL, H3, l3']
        refine PM_use (c_Y_codes P3 26 c5 (D + 3)) ?_
        rintro x h4 l4 ⟨rfl, P4⟩
        show W_X12_every _ _ _ _ _ _ _ _ _
        simp only [w_X12_every_23, pm_1i_c, pm_2i_c, pm_1l_c, pm_2l_c, pm_1a_c, pm_ia_c, pm_iia_c, pm_va_c, pm_cp_c, pm_k0_c, pm_k1_c, pm_k2_c, pm_k3_c, pm_s1_c, pm_s2_c, pm_s3_c, pm_s4_c, pm_ri_c, pm_ra_c, pm_rn_c, pm_rk_i, pm_rk_z, pm_rk_a, pm_vk_i, pm_vk_z, pm_vk_a, pm_cti, pm_ctr, pm_ldi_z, pm_ldi_s, pm_lda_z, pm_lda_s, pm_cat_n, pm_cat_i, pm_cat_r, pm_cat_l, pm_obj, pm_arr, pm_opt, pm_ird, pm_aln, List.getElem?_cons_zero, List.getElem?_cons_succ, List.set_cons_zero, List.set_cons_succ, List.length_cons, List.length_nil, List.length_set, true_and, and_true, Nat.add_zero, Nat.zero_add, Nat.le_refl, Nat.reduceAdd, Nat.reduceLT, Nat.reduceLeDiff, Nat.zero_le, not_false_eq_true, not_true_eq_false, false_implies, implies_true, true_implies, Nat.zero_lt_succ, Nat.lt_add_one, pm_tl_n, pm_tl_s, sc_uL]
        have R4 : Rl bs s (lSt 14 Y) cs p p3 n3 fa3 (cs3 ++ [26]) := by
          by_cases y : fa3 = -1
          · exact Rl_join R1 hf1 hs22 hs23 lt2 R3 (by decide) (by decide) (by decide) (by decide) (by decide) (by decide) hj14
          · exact (Rl_fail R1 lt2 R3 y 26).ff y (lSt_1 14 Y)
        refine ih _ _ _ _ _ _ _ R4 P4 (l4.trans l3') (fun y => ?_) e
        have a1 := hi hf1
        have a2 := (R3.2.2.2 y).2.1
        rw [lSt_1]
        omega
      · have c' : taB (cuF bs 4).1 (nI (256 + 8)) s'.1 = false := c
        have et : taF (cuF bs 4).1 (nI (256 + 8)) s'.1 = s'.1 := by
          unfold taF
          rw [if_neg (by rw [c']; decide)]
        rw [et] at S2
        rw [if_neg (by rw [c]; decide)] at e
        rw [if_neg (by rw [c']; decide)]
        show W_X12_every _ _ _ _ _ _ _ _ _
        simp only [w_X12_every_10, w_X12_every_26, pm_1i_c, pm_2i_c, pm_1l_c, pm_2l_c, pm_1a_c, pm_ia_c, pm_iia_c, pm_va_c, pm_cp_c, pm_k0_c, pm_k1_c, pm_k2_c, pm_k3_c, pm_s1_c, pm_s2_c, pm_s3_c, pm_s4_c, pm_ri_c, pm_ra_c, pm_rn_c, pm_rk_i, pm_rk_z, pm_rk_a, pm_vk_i, pm_vk_z, pm_vk_a, pm_cti, pm_ctr, pm_ldi_z, pm_ldi_s, pm_lda_z, pm_lda_s, pm_cat_n, pm_cat_i, pm_cat_r, pm_cat_l, pm_obj, pm_arr, pm_opt, pm_ird, pm_aln, List.getElem?_cons_zero, List.getElem?_cons_succ, List.set_cons_zero, List.set_cons_succ, List.length_cons, List.length_nil, List.length_set, true_and, and_true, Nat.add_zero, Nat.zero_add, Nat.le_refl, Nat.reduceAdd, Nat.reduceLT, Nat.reduceLeDiff, Nat.zero_le, not_false_eq_true, not_true_eq_false, false_implies, implies_true, true_implies, Nat.zero_lt_succ, Nat.lt_add_one, pm_tl_n, pm_tl_s, sc_uL, l2, lg]
        rw [← e]
        exact ⟨_, _, _, _, _, P2, R1.bl S2 le2⟩
  simp only [w_X12_every_0, w_X12_every_1, pm_1i_c, pm_2i_c, pm_1l_c, pm_2l_c, pm_1a_c, pm_ia_c, pm_iia_c, pm_va_c, pm_cp_c, pm_k0_c, pm_k1_c, pm_k2_c, pm_k3_c, pm_s1_c, pm_s2_c, pm_s3_c, pm_s4_c, pm_ri_c, pm_ra_c, pm_rn_c, pm_rk_i, pm_rk_z, pm_rk_a, pm_vk_i, pm_vk_z, pm_vk_a, pm_cti, pm_ctr, pm_ldi_z, pm_ldi_s, pm_lda_z, pm_lda_s, pm_cat_n, pm_cat_i, pm_cat_r, pm_cat_l, pm_obj, pm_arr, pm_opt, pm_ird, pm_aln, List.getElem?_cons_zero, List.getElem?_cons_succ, List.set_cons_zero, List.set_cons_succ, List.length_cons, List.length_nil, List.length_set, true_and, and_true, Nat.add_zero, Nat.zero_add, Nat.le_refl, Nat.reduceAdd, Nat.reduceLT, Nat.reduceLeDiff, Nat.zero_le, not_false_eq_true, not_true_eq_false, false_implies, implies_true, true_implies, Nat.zero_lt_succ, Nat.lt_add_one, H0]
  have I := HA h s p b n fa cs P S hf hn hn2 hc hix
  refine PM_use (I) ?_
  rintro x h1 l1 ⟨rfl, p1, b1, n1, fa1, cs1, P1, R1⟩
  show W_X12_every _ _ _ _ _ _ _ _ _
  exact loop 400 _ _ _ _ _ _ _ R1 P1 l1 (fun _ => by omega) hZ.symm
set_option maxHeartbeats 2000000 in
theorem c_Y_some (T : tap_ h0 m bs) {A : LZ → LZ} {D f : Nat} (HA : ∀ (h : pmH) (s : LZ) (p b n : Nat) (fa : Int32) (cs : List Int32), pr_ h0 h m o bs p b dp n fa cs ks → sm_ bs 4 s.1 p fa → fa = -1 → n = s.2.1 → n ≤ 60 → cs.length ≤ p → 400 ≤ f + s.1.1 → PM (D + 4) 168 [.ref m] h (fun x h' => x = none ∧ ∃ p' b' n' fa' cs', pr_ h0 h' m o bs p' b' dp n' fa' cs' ks ∧ Rl bs s (A s) cs p p' n' fa' cs')) (P : pr_ h0 h m o bs p b dp n fa cs ks) (S : sm_ bs 4 s.1 p fa) (hf : fa = -1) (hn : n = s.2.1) (hn2 : n ≤ 60) (hc : cs.length ≤ p) (hix : 400 ≤ f + s.1.1) : PM (D + 5) 167 [.ref m] h (fun x h' => x = none ∧ ∃ p' b' n' fa' cs', pr_ h0 h' m o bs p' b' dp n' fa' cs' ks ∧ Rl bs s (alF (cuF bs 4).1 265 15 A s) cs p p' n' fa' cs') := by
  refine en_X12_some rfl ?_
  have H0 := P.c0
  have L4 := T.1
  have KL := cuF_kl1 (dm := 4) L4
  obtain ⟨Z, hZ⟩ : ∃ Z, Z = alF (cuF bs 4).1 265 15 A s := ⟨_, rfl⟩
  rw [← hZ]
  have loop : ∀ z s' p1 b1 n1 fa1 cs1 (g : pmH), Rl bs s s' cs p p1 n1 fa1 cs1 → pr_ h0 g m o bs p1 b1 dp n1 fa1 cs1 ks → g.length = h.length → (fa1 = -1 → 400 ≤ z + s'.1.1) → alG (cuF bs 4).1 265 15 A z s' = Z → W_X12_some (D + 4) (h.length + 0) 0 (fun x h' => x = none ∧ ∃ p' b' n' fa' cs', pr_ h0 h' m o bs p' b' dp n' fa' cs' ks ∧ Rl bs s Z cs p p' n' fa' cs') 4 [some (.ref m)] [] g 0 := by
    intro z
    induction z with
    | zero =>
      intro s' p1 b1 n1 fa1 cs1 g R1 P1 lg hi e
      have S1 := R1.1
      have H1 := P1.c0
      have t0 : taB (cuF bs 4).1 (nI (256 + 9)) s'.1 = false := by
        cases y : taB (cuF bs 4).1 (nI (256 + 9)) s'.1 with
        | false => rfl
        | true =>
          obtain ⟨y1, y2⟩ := taB_ll (by decide) y
          have := hi (S1.ff.mp y1)
          omega
      rw [w_X12_some_4]
      simp only [w_X12_some_5, w_X12_some_7, pm_1i_c, pm_2i_c, pm_1l_c, pm_2l_c, pm_1a_c, pm_ia_c, pm_iia_c, pm_va_c, pm_cp_c, pm_k0_c, pm_k1_c, pm_k2_c, pm_k3_c, pm_s1_c, pm_s2_c, pm_s3_c, pm_s4_c, pm_ri_c, pm_ra_c, pm_rn_c, pm_rk_i, pm_rk_z, pm_rk_a, pm_vk_i, pm_vk_z, pm_vk_a, pm_cti, pm_ctr, pm_ldi_z, pm_ldi_s, pm_lda_z, pm_lda_s, pm_cat_n, pm_cat_i, pm_cat_r, pm_cat_l, pm_obj, pm_arr, pm_opt, pm_ird, pm_aln, List.getElem?_cons_zero, List.getElem?_cons_succ, List.set_cons_zero, List.set_cons_succ, List.length_cons, List.length_nil, List.length_set, true_and, and_true, Nat.add_zero, Nat.zero_add, Nat.le_refl, Nat.reduceAdd, Nat.reduceLT, Nat.reduceLeDiff, Nat.zero_le, not_false_eq_true, not_true_eq_false, false_implies, implies_true, true_implies, Nat.zero_lt_succ, Nat.lt_add_one, H1, lg]
      refine PM_use (c_Y_takesWord P1 T S1 wdk_or (a := 1000013) rfl D) ?_
      rintro x h2 l2 ⟨rfl, p2, b2, P2, S2, le2, -, -, -⟩
      have et : taF (cuF bs 4).1 (nI (256 + 9)) s'.1 = s'.1 := by
        unfold taF
        rw [if_neg (by rw [t0]; decide)]
      rw [et] at S2
      rw [if_neg (by rw [t0]; decide)]
      show W_X12_some _ _ _ _ _ _ _ _ _
      simp only [w_X12_some_10, w_X12_some_26, pm_1i_c, pm_2i_c, pm_1l_c, pm_2l_c, pm_1a_c, pm_ia_c, pm_iia_c, pm_va_c, pm_cp_c, pm_k0_c, pm_k1_c, pm_k2_c, pm_k3_c, pm_s1_c, pm_s2_c, pm_s3_c, pm_s4_c, pm_ri_c, pm_ra_c, pm_rn_c, pm_rk_i, pm_rk_z, pm_rk_a, pm_vk_i, pm_vk_z, pm_vk_a, pm_cti, pm_ctr, pm_ldi_z, pm_ldi_s, pm_lda_z, pm_lda_s, pm_cat_n, pm_cat_i, pm_cat_r, pm_cat_l, pm_obj, pm_arr, pm_opt, pm_ird, pm_aln, List.getElem?_cons_zero, List.getElem?_cons_succ, List.set_cons_zero, List.set_cons_succ, List.length_cons, List.length_nil, List.length_set, true_and, and_true, Nat.add_zero, Nat.zero_add, Nat.le_refl, Nat.reduceAdd, Nat.reduceLT, Nat.reduceLeDiff, Nat.zero_le, not_false_eq_true, not_true_eq_false, false_implies, implies_true, true_implies, Nat.zero_lt_succ, Nat.lt_add_one, pm_tl_n, pm_tl_s, sc_uL, l2, lg]
      have e : s' = Z := e
      rw [← e]
      exact ⟨_, _, _, _, _, P2, R1.bl S2 le2⟩
    | succ z ih =>
      intro s' p1 b1 n1 fa1 cs1 g R1 P1 lg hi e
      have S1 := R1.1
      have H1 := P1.c0
      rw [alG_s] at e
      rw [w_X12_some_4]
      simp only [w_X12_some_5, w_X12_some_7, pm_1i_c, pm_2i_c, pm_1l_c, pm_2l_c, pm_1a_c, pm_ia_c, pm_iia_c, pm_va_c, pm_cp_c, pm_k0_c, pm_k1_c, pm_k2_c, pm_k3_c, pm_s1_c, pm_s2_c, pm_s3_c, pm_s4_c, pm_ri_c, pm_ra_c, pm_rn_c, pm_rk_i, pm_rk_z, pm_rk_a, pm_vk_i, pm_vk_z, pm_vk_a, pm_cti, pm_ctr, pm_ldi_z, pm_ldi_s, pm_lda_z, pm_lda_s, pm_cat_n, pm_cat_i, pm_cat_r, pm_cat_l, pm_obj, pm_arr, pm_opt, pm_ird, pm_aln, List.getElem?_cons_zero, List.getElem?_cons_succ, List.set_cons_zero, List.set_cons_succ, List.length_cons, List.length_nil, List.length_set, true_and, and_true, Nat.add_zero, Nat.zero_add, Nat.le_refl, Nat.reduceAdd, Nat.reduceLT, Nat.reduceLeDiff, Nat.zero_le, not_false_eq_true, not_true_eq_false, false_implies, implies_true, true_implies, Nat.zero_lt_succ, Nat.lt_add_one, H1, lg]
      refine PM_use (c_Y_takesWord P1 T S1 wdk_or (a := 1000013) rfl D) ?_
      rintro x h2 l2 ⟨rfl, p2, b2, P2, S2, le2, lt2, -, -⟩
      have l2' : h2.length = h.length := l2.trans lg
      rcases Bool.eq_false_or_eq_true (taB (cuF bs 4).1 265 s'.1) with c | c
      · have c' : taB (cuF bs 4).1 (nI (256 + 9)) s'.1 = true := c
        have hf1 := S1.ff.mp (taB_ll (by decide) c).1
        have lt2 := lt2 c'
        obtain ⟨u1, u2, u3, u4, -⟩ := R1.2.2.2 hf1
        have w3 := R1.2.2.1
        obtain ⟨s2, hs2⟩ : ∃ s2 : LZ, s2 = ((s'.1.1 + 1, s'.1.2), s'.2) := ⟨_, rfl⟩
        have hs21 : s2.1 = (s'.1.1 + 1, s'.1.2) := by rw [hs2]
        have hs22 : s2.2 = s'.2 := by rw [hs2]
        have hs23 : s2.1.1 = s'.1.1 + 1 := by rw [hs2]
        have et : taF (cuF bs 4).1 (nI (256 + 9)) s'.1 = (s'.1.1 + 1, s'.1.2) := by
          unfold taF
          rw [if_pos c']
        rw [et, ← hs21] at S2
        rw [if_pos c, lTk_yes c, ← hs2] at e
        obtain ⟨Y, hY⟩ : ∃ Y, Y = A s2 := ⟨_, rfl⟩
        rw [← hY] at e
        have I := HA h2 s2 p2 b2 n1 fa1 cs1 P2 S2 hf1 (by rw [hs22]; exact u3) u4 (by omega) (by omega)
        rw [← hY] at I
        have H2 := P2.c0
        rw [if_pos c']
        show W_X12_some _ _ _ _ _ _ _ _ _
        simp only [w_X12_some_10, w_X12_some_13, w_X12_some_14, pm_1i_c, pm_2i_c, pm_1l_c, pm_2l_c, pm_1a_c, pm_ia_c, pm_iia_c, pm_va_c, pm_cp_c, pm_k0_c, pm_k1_c, pm_k2_c, pm_k3_c, pm_s1_c, pm_s2_c, pm_s3_c, pm_s4_c, pm_ri_c, pm_ra_c, pm_rn_c, pm_rk_i, pm_rk_z, pm_rk_a, pm_vk_i, pm_vk_z, pm_vk_a, pm_cti, pm_ctr, pm_ldi_z, pm_ldi_s, pm_lda_z, pm_lda_s, pm_cat_n, pm_cat_i, pm_cat_r, pm_cat_l, pm_obj, pm_arr, pm_opt, pm_ird, pm_aln, List.getElem?_cons_zero, List.getElem?_cons_succ, List.set_cons_zero, List.set_cons_succ, List.length_cons, List.length_nil, List.length_set, true_and, and_true, Nat.add_zero, Nat.zero_add, Nat.le_refl, Nat.reduceAdd, Nat.reduceLT, Nat.reduceLeDiff, Nat.zero_le, not_false_eq_true, not_true_eq_false, false_implies, implies_true, true_implies, Nat.zero_lt_succ, Nat.lt_add_one, pm_tl_n, pm_tl_s, sc_uL, H2, l2', show ¬ (1 : Int32) = 0 by decide]
        refine PM_use (I) ?_
        rintro x h3 l3 ⟨rfl, p3, b3, n3, fa3, cs3, P3, R3⟩
        have H3 := P3.c0
        have l3' : h3.length = h.length := l3.trans l2'
        have c5 : cs3.length < 500 := by
          have := R3.2.2.1
          have := R3.1.1
          omega
        show W_X12_some _ _ _ _ _ _ _ _ _
        simp only [w_X12_some_17, w_X12_some_18, w_X12_some_20, pm_1i_c, pm_2i_c, pm_1l_c, pm_2l_c, pm_1a_c, pm_ia_c, pm_iia_c, pm_va_c, pm_cp_c, pm_k0_c, pm_k1_c, pm_k2_c, pm_k3_c, pm_s1_c, pm_s2_c, pm_s3_c, pm_s4_c, pm_ri_c, pm_ra_c, pm_rn_c, pm_rk_i, pm_rk_z, pm_rk_a, pm_vk_i, pm_vk_z, pm_vk_a, pm_cti, pm_ctr, pm_ldi_z, pm_ldi_s, pm_lda_z, pm_lda_s, pm_cat_n, pm_cat_i, pm_cat_r, pm_cat_l, pm_obj, pm_arr, pm_opt, pm_ird, pm_aln, List.getElem?_cons_zero, List.getElem?_cons_succ, List.set_cons_zero, List.set_cons_succ, List.length_cons, List.length_nil, List.length_set, true_and, and_true, Nat.add_zero, Nat.zero_add, Nat.le_refl, Nat.reduceAdd, Nat.reduceLT, Nat.reduceLeDiff, Nat.zero_le, not_false_eq_true, not_true_eq_false, false_implies, implies_true, true_implies, Nat.zero_lt_succ, Nat.lt_add_one, pm_tl_n, pm_tl_s, sc_uL, H3, l3']
        refine PM_use (c_Y_codes P3 27 c5 (D + 3)) ?_
        rintro x h4 l4 ⟨rfl, P4⟩
        show W_X12_some _ _ _ _ _ _ _ _ _
        simp only [w_X12_some_23, pm_1i_c, pm_2i_c, pm_1l_c, pm_2l_c, pm_1a_c, pm_ia_c, pm_iia_c, pm_va_c, pm_cp_c, pm_k0_c, pm_k1_c, pm_k2_c, pm_k3_c, pm_s1_c, pm_s2_c, pm_s3_c, pm_s4_c, pm_ri_c, pm_ra_c, pm_rn_c, pm_rk_i, pm_rk_z, pm_rk_a, pm_vk_i, pm_vk_z, pm_vk_a, pm_cti, pm_ctr, pm_ldi_z, pm_ldi_s, pm_lda_z, pm_lda_s, pm_cat_n, pm_cat_i, pm_cat_r, pm_cat_l, pm_obj, pm_arr, pm_opt, pm_ird, pm_aln, List.getElem?_cons_zero, List.getElem?_cons_succ, List.set_cons_zero, List.set_cons_succ, List.length_cons, List.length_nil, List.length_set, true_and, and_true, Nat.add_zero, Nat.zero_add, Nat.le_refl, Nat.reduceAdd, Nat.reduceLT, Nat.reduceLeDiff, Nat.zero_le, not_false_eq_true, not_true_eq_false, false_implies, implies_true, true_implies, Nat.zero_lt_succ, Nat.lt_add_one, pm_tl_n, pm_tl_s, sc_uL]
        have R4 : Rl bs s (lSt 15 Y) cs p p3 n3 fa3 (cs3 ++ [27]) := by
          by_cases y : fa3 = -1
          · exact Rl_join R1 hf1 hs22 hs23 lt2 R3 (by decide) (by decide) (by decide) (by decide) (by decide) (by decide) hj15
          · exact (Rl_fail R1 lt2 R3 y 27).ff y (lSt_1 15 Y)
        refine ih _ _ _ _ _ _ _ R4 P4 (l4.trans l3') (fun y => ?_) e
        have a1 := hi hf1
        have a2 := (R3.2.2.2 y).2.1
        rw [lSt_1]
        omega
      · have c' : taB (cuF bs 4).1 (nI (256 + 9)) s'.1 = false := c
        have et : taF (cuF bs 4).1 (nI (256 + 9)) s'.1 = s'.1 := by
          unfold taF
          rw [if_neg (by rw [c']; decide)]
        rw [et] at S2
        rw [if_neg (by rw [c]; decide)] at e
        rw [if_neg (by rw [c']; decide)]
        show W_X12_some _ _ _ _ _ _ _ _ _
        simp only [w_X12_some_10, w_X12_some_26, pm_1i_c, pm_2i_c, pm_1l_c, pm_2l_c, pm_1a_c, pm_ia_c, pm_iia_c, pm_va_c, pm_cp_c, pm_k0_c, pm_k1_c, pm_k2_c, pm_k3_c, pm_s1_c, pm_s2_c, pm_s3_c, pm_s4_c, pm_ri_c, pm_ra_c, pm_rn_c, pm_rk_i, pm_rk_z, pm_rk_a, pm_vk_i, pm_vk_z, pm_vk_a, pm_cti, pm_ctr, pm_ldi_z, pm_ldi_s, pm_lda_z, pm_lda_s, pm_cat_n, pm_cat_i, pm_cat_r, pm_cat_l, pm_obj, pm_arr, pm_opt, pm_ird, pm_aln, List.getElem?_cons_zero, List.getElem?_cons_succ, List.set_cons_zero, List.set_cons_succ, List.length_cons, List.length_nil, List.length_set, true_and, and_true, Nat.add_zero, Nat.zero_add, Nat.le_refl, Nat.reduceAdd, Nat.reduceLT, Nat.reduceLeDiff, Nat.zero_le, not_false_eq_true, not_true_eq_false, false_implies, implies_true, true_implies, Nat.zero_lt_succ, Nat.lt_add_one, pm_tl_n, pm_tl_s, sc_uL, l2, lg]
        rw [← e]
        exact ⟨_, _, _, _, _, P2, R1.bl S2 le2⟩
  simp only [w_X12_some_0, w_X12_some_1, pm_1i_c, pm_2i_c, pm_1l_c, pm_2l_c, pm_1a_c, pm_ia_c, pm_iia_c, pm_va_c, pm_cp_c, pm_k0_c, pm_k1_c, pm_k2_c, pm_k3_c, pm_s1_c, pm_s2_c, pm_s3_c, pm_s4_c, pm_ri_c, pm_ra_c, pm_rn_c, pm_rk_i, pm_rk_z, pm_rk_a, pm_vk_i, pm_vk_z, pm_vk_a, pm_cti, pm_ctr, pm_ldi_z, pm_ldi_s, pm_lda_z, pm_lda_s, pm_cat_n, pm_cat_i, pm_cat_r, pm_cat_l, pm_obj, pm_arr, pm_opt, pm_ird, pm_aln, List.getElem?_cons_zero, List.getElem?_cons_succ, List.set_cons_zero, List.set_cons_succ, List.length_cons, List.length_nil, List.length_set, true_and, and_true, Nat.add_zero, Nat.zero_add, Nat.le_refl, Nat.reduceAdd, Nat.reduceLT, Nat.reduceLeDiff, Nat.zero_le, not_false_eq_true, not_true_eq_false, false_implies, implies_true, true_implies, Nat.zero_lt_succ, Nat.lt_add_one, H0]
  have I := HA h s p b n fa cs P S hf hn hn2 hc hix
  refine PM_use (I) ?_
  rintro x h1 l1 ⟨rfl, p1, b1, n1, fa1, cs1, P1, R1⟩
  show W_X12_some _ _ _ _ _ _ _ _ _
  exact loop 400 _ _ _ _ _ _ _ R1 P1 l1 (fun _ => by omega) hZ.symm
end ML
