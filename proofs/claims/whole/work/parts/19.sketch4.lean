/-! Sketch: the rest. -/
section SKH
variable {h : pmH} {a : Nat} {A : AD}
theorem skA_uC {hh : pmH} {f g : Nat → Int32} (x1 : hh[a]? = some (.inr (8, [.ref (a + 1), .ref (a + 2), .int (sc A 14), .int (sc A 0), .int (sc A 11), .int (sc A 13), .int (sc A 1)]))) (x2 : hh[a + 1]? = some (.inl (0, 1024, .inl f))) (x3 : ∀ j, j < 1024 → f j = g j) (x4 : ∃ fn, hh[a + 2]? = some (.inl (2, 256, .inl fn)) ∧ ∀ k, k < 256 → fn k = nt A k) : skA hh a (uC A g) := ⟨x1, ⟨f, x2, x3⟩, x4⟩
theorem uS_uC_self {g : Nat → Int32} : uS (uC A g) 0 (sc A 0) = uC A g := by
  show (upd A.1 0 (A.1 0), A.2.1, g, A.2.2.2) = (A.1, A.2.1, g, A.2.2.2)
  congr 1
  funext j
  unfold upd
  split
  · rename_i hj
    rw [hj]
  · rfl
theorem c_Sketch_raiseCounters (hl : h.length ≤ 1000000) (H : skA h a A) (V : wdV A) (key : Int32) (d : Nat) : PM (d + 2) 85 [.ref a, .int key] h (fun v h' => v = some (.int (raiC A key 4).2) ∧ skA h' a (uC A (raiC A key 4).1) ∧ fr3 h h' a) := by
  obtain ⟨h1, ⟨fc, h2, h3⟩, h4⟩ := H
  refine en_X8_raiseCounters rfl rfl ?_
  have loop : ∀ n r, 4 - r = n → r ≤ 4 → ∀ (hh : pmH) (f : Nat → Int32) (x4 : Option Value), hh[a]? = h[a]? → hh[a + 2]? = h[a + 2]? → hh[a + 1]? = some (.inl (0, 1024, .inl f)) → (∀ j, j < 1024 → f j = (raiC A key r).1 j) → hh.length = h.length → fr3 h hh a → ((raiC A key r).2 = 0 ∨ (raiC A key r).2 = 1) → W_X8_raiseCounters (d + 1) (h.length + 0) 0 (fun v h' => v = some (.int (raiC A key 4).2) ∧ skA h' a (uC A (raiC A key 4).1) ∧ fr3 h h' a) 4 [some (.ref a), some (.int key), some (.int (raiC A key r).2), some (.int (nI r)), x4] [] hh 0 := by
    intro n
    induction n with
    | zero =>
      intro r hn hr hh f x4 q1 q2 q3 q4 q5 q6 q7
      have : r = 4 := by omega
      subst this
      have e1 : ¬ nI 4 < 4 := by decide
      rw [w_X8_raiseCounters_4]
      simp only [w_X8_raiseCounters_0, w_X8_raiseCounters_1, w_X8_raiseCounters_2, w_X8_raiseCounters_3, w_X8_raiseCounters_5, w_X8_raiseCounters_6, w_X8_raiseCounters_9, w_X8_raiseCounters_10, w_X8_raiseCounters_13, w_X8_raiseCounters_14, w_X8_raiseCounters_15, w_X8_raiseCounters_16, w_X8_raiseCounters_18, w_X8_raiseCounters_19, w_X8_raiseCounters_22, w_X8_raiseCounters_23, w_X8_raiseCounters_26, w_X8_raiseCounters_27, w_X8_raiseCounters_29, w_X8_raiseCounters_31, w_X8_raiseCounters_34, w_X8_raiseCounters_36, w_X8_raiseCounters_37, w_X8_raiseCounters_40, w_X8_raiseCounters_41, w_X8_raiseCounters_44, w_X8_raiseCounters_45, w_X8_raiseCounters_48, w_X8_raiseCounters_50, w_X8_raiseCounters_51, w_X8_raiseCounters_53, w_X8_raiseCounters_56, w_X8_raiseCounters_57, w_X8_raiseCounters_60, w_X8_raiseCounters_62, w_X8_raiseCounters_63, w_X8_raiseCounters_64, w_X8_raiseCounters_65, w_X8_raiseCounters_66, w_X8_raiseCounters_67, w_X8_raiseCounters_68, w_X8_raiseCounters_69, w_X8_raiseCounters_72, w_X8_raiseCounters_75, w_X8_raiseCounters_76, pm_1i_c, pm_2i_c, pm_1l_c, pm_2l_c, pm_1a_c, pm_ia_c, pm_iia_c, pm_va_c, pm_cp_c, pm_k0_c, pm_k1_c, pm_k2_c, pm_k3_c, pm_s1_c, pm_s2_c, pm_s3_c, pm_s4_c, pm_ri_c, pm_ra_c, pm_rn_c, pm_rk_i, pm_rk_z, pm_rk_a, pm_vk_i, pm_vk_z, pm_vk_a, pm_cti, pm_ctr, pm_ldi_z, pm_ldi_s, pm_lda_z, pm_lda_s, pm_cat_n, pm_cat_i, pm_cat_r, pm_cat_l, pm_obj, pm_arr, pm_opt, pm_ird, pm_aln, List.getElem?_cons_zero, List.getElem?_cons_succ, List.set_cons_zero, List.set_cons_succ, List.length_cons, List.length_nil, List.length_set, true_and, and_true, Nat.add_zero, Nat.zero_add, Nat.le_refl, Nat.reduceAdd, Nat.reduceLT, Nat.reduceLeDiff, Nat.zero_le, not_false_eq_true, not_true_eq_false, false_implies, implies_true, true_implies, Nat.zero_lt_succ, Nat.lt_add_one, e1, q5]
      exact ⟨q7, skA_uC (by rw [q1]; exact h1) q3 q4 (by rw [q2]; exact h4), q6⟩
    | succ n ih =>
      intro r hn hr hh f x4 q1 q2 q3 q4 q5 q6 q7
      have hr4 : r < 4 := by omega
      have e1 : nI r < 4 := nI_lt (a := r) (b := 4) (by omega) (by omega)
      have hk := cix_lt V key hr4
      have e2 : ¬ nI (cix A key r) < 0 := nI_pos (by omega)
      have e3 : nI (cix A key r) < nI 1024 := nI_lt hk (by omega)
      have e4 : vp_in (nI (cix A key r)) 1024 := vp_in_nI hk (by omega)
      have e5 : (nI (cix A key r)).toNatClampNeg = cix A key r := nI_clamp (by omega)
      rw [w_X8_raiseCounters_4]
      simp only [w_X8_raiseCounters_0, w_X8_raiseCounters_1, w_X8_raiseCounters_2, w_X8_raiseCounters_3, w_X8_raiseCounters_5, w_X8_raiseCounters_6, w_X8_raiseCounters_9, w_X8_raiseCounters_10, w_X8_raiseCounters_13, w_X8_raiseCounters_14, w_X8_raiseCounters_15, w_X8_raiseCounters_16, w_X8_raiseCounters_18, w_X8_raiseCounters_19, w_X8_raiseCounters_22, w_X8_raiseCounters_23, w_X8_raiseCounters_26, w_X8_raiseCounters_27, w_X8_raiseCounters_29, w_X8_raiseCounters_31, w_X8_raiseCounters_34, w_X8_raiseCounters_36, w_X8_raiseCounters_37, w_X8_raiseCounters_40, w_X8_raiseCounters_41, w_X8_raiseCounters_44, w_X8_raiseCounters_45, w_X8_raiseCounters_48, w_X8_raiseCounters_50, w_X8_raiseCounters_51, w_X8_raiseCounters_53, w_X8_raiseCounters_56, w_X8_raiseCounters_57, w_X8_raiseCounters_60, w_X8_raiseCounters_62, w_X8_raiseCounters_63, w_X8_raiseCounters_64, w_X8_raiseCounters_65, w_X8_raiseCounters_66, w_X8_raiseCounters_67, w_X8_raiseCounters_68, w_X8_raiseCounters_69, w_X8_raiseCounters_72, w_X8_raiseCounters_75, w_X8_raiseCounters_76, pm_1i_c, pm_2i_c, pm_1l_c, pm_2l_c, pm_1a_c, pm_ia_c, pm_iia_c, pm_va_c, pm_cp_c, pm_k0_c, pm_k1_c, pm_k2_c, pm_k3_c, pm_s1_c, pm_s2_c, pm_s3_c, pm_s4_c, pm_ri_c, pm_ra_c, pm_rn_c, pm_rk_i, pm_rk_z, pm_rk_a, pm_vk_i, pm_vk_z, pm_vk_a, pm_cti, pm_ctr, pm_ldi_z, pm_ldi_s, pm_lda_z, pm_lda_s, pm_cat_n, pm_cat_i, pm_cat_r, pm_cat_l, pm_obj, pm_arr, pm_opt, pm_ird, pm_aln, List.getElem?_cons_zero, List.getElem?_cons_succ, List.set_cons_zero, List.set_cons_succ, List.length_cons, List.length_nil, List.length_set, true_and, and_true, Nat.add_zero, Nat.zero_add, Nat.le_refl, Nat.reduceAdd, Nat.reduceLT, Nat.reduceLeDiff, Nat.zero_le, not_false_eq_true, not_true_eq_false, false_implies, implies_true, true_implies, Nat.zero_lt_succ, Nat.lt_add_one, q1, h1, e1, q5]
      refine PM_use (skA_16 V key hr4 (by rw [q5]; exact hl) d) ?_
      rintro v h' - ⟨rfl, rfl⟩
      show W_X8_raiseCounters _ _ _ _ _ _ _ _ _
      simp only [w_X8_raiseCounters_0, w_X8_raiseCounters_1, w_X8_raiseCounters_2, w_X8_raiseCounters_3, w_X8_raiseCounters_5, w_X8_raiseCounters_6, w_X8_raiseCounters_9, w_X8_raiseCounters_10, w_X8_raiseCounters_13, w_X8_raiseCounters_14, w_X8_raiseCounters_15, w_X8_raiseCounters_16, w_X8_raiseCounters_18, w_X8_raiseCounters_19, w_X8_raiseCounters_22, w_X8_raiseCounters_23, w_X8_raiseCounters_26, w_X8_raiseCounters_27, w_X8_raiseCounters_29, w_X8_raiseCounters_31, w_X8_raiseCounters_34, w_X8_raiseCounters_36, w_X8_raiseCounters_37, w_X8_raiseCounters_40, w_X8_raiseCounters_41, w_X8_raiseCounters_44, w_X8_raiseCounters_45, w_X8_raiseCounters_48, w_X8_raiseCounters_50, w_X8_raiseCounters_51, w_X8_raiseCounters_53, w_X8_raiseCounters_56, w_X8_raiseCounters_57, w_X8_raiseCounters_60, w_X8_raiseCounters_62, w_X8_raiseCounters_63, w_X8_raiseCounters_64, w_X8_raiseCounters_65, w_X8_raiseCounters_66, w_X8_raiseCounters_67, w_X8_raiseCounters_68, w_X8_raiseCounters_69, w_X8_raiseCounters_72, w_X8_raiseCounters_75, w_X8_raiseCounters_76, pm_1i_c, pm_2i_c, pm_1l_c, pm_2l_c, pm_1a_c, pm_ia_c, pm_iia_c, pm_va_c, pm_cp_c, pm_k0_c, pm_k1_c, pm_k2_c, pm_k3_c, pm_s1_c, pm_s2_c, pm_s3_c, pm_s4_c, pm_ri_c, pm_ra_c, pm_rn_c, pm_rk_i, pm_rk_z, pm_rk_a, pm_vk_i, pm_vk_z, pm_vk_a, pm_cti, pm_ctr, pm_ldi_z, pm_ldi_s, pm_lda_z, pm_lda_s, pm_cat_n, pm_cat_i, pm_cat_r, pm_cat_l, pm_obj, pm_arr, pm_opt, pm_ird, pm_aln, List.getElem?_cons_zero, List.getElem?_cons_succ, List.set_cons_zero, List.set_cons_succ, List.length_cons, List.length_nil, List.length_set, true_and, and_true, Nat.add_zero, Nat.zero_add, Nat.le_refl, Nat.reduceAdd, Nat.reduceLT, Nat.reduceLeDiff, Nat.zero_le, not_false_eq_true, not_true_eq_false, false_implies, implies_true, true_implies, Nat.zero_lt_succ, Nat.lt_add_one, pm_tl_s, q1, q3, h1, cix_at V key hr4, e2, e3, e4, e5, nI_1, q4 _ hk]
      refine ⟨fun c => ?_, fun c => ?_⟩
      · have e : raiC A key (r + 1) = raiC A key r := if_neg c
        exact e ▸ (ih (r + 1) (by omega) (by omega) h' f _ q1 q2 q3 (by rw [e]; exact q4) q5 q6 (by rw [e]; exact q7))
      · have e : raiC A key (r + 1) = (upd (raiC A key r).1 (cix A key r) ((raiC A key r).1 (cix A key r) + 1), 1) := if_pos c
        have K := ih (r + 1) (by omega) (by omega) (h'.set (a + 1) (.inl (0, 1024, .inl (upd f (cix A key r) ((raiC A key r).1 (cix A key r) + 1))))) (upd f (cix A key r) ((raiC A key r).1 (cix A key r) + 1)) (some (.int (nI (cix A key r)))) (by rw [hset_r1]; exact q1) (by rw [hset_33]; exact q2) (by rw [hset_s, q3]; rfl) (fun j hj => by
          rw [e]
          show upd f _ _ j = upd (raiC A key r).1 _ _ j
          unfold upd
          split
          · rfl
          · exact q4 j hj) (by rw [List.length_set]; exact q5) (q6.tr (fun i x y z => hset_n (Ne.symm y))) (by rw [e]; exact Or.inr rfl)
        rw [e] at K
        exact K
  simp only [w_X8_raiseCounters_0, w_X8_raiseCounters_1, w_X8_raiseCounters_2, w_X8_raiseCounters_3, w_X8_raiseCounters_5, w_X8_raiseCounters_6, w_X8_raiseCounters_9, w_X8_raiseCounters_10, w_X8_raiseCounters_13, w_X8_raiseCounters_14, w_X8_raiseCounters_15, w_X8_raiseCounters_16, w_X8_raiseCounters_18, w_X8_raiseCounters_19, w_X8_raiseCounters_22, w_X8_raiseCounters_23, w_X8_raiseCounters_26, w_X8_raiseCounters_27, w_X8_raiseCounters_29, w_X8_raiseCounters_31, w_X8_raiseCounters_34, w_X8_raiseCounters_36, w_X8_raiseCounters_37, w_X8_raiseCounters_40, w_X8_raiseCounters_41, w_X8_raiseCounters_44, w_X8_raiseCounters_45, w_X8_raiseCounters_48, w_X8_raiseCounters_50, w_X8_raiseCounters_51, w_X8_raiseCounters_53, w_X8_raiseCounters_56, w_X8_raiseCounters_57, w_X8_raiseCounters_60, w_X8_raiseCounters_62, w_X8_raiseCounters_63, w_X8_raiseCounters_64, w_X8_raiseCounters_65, w_X8_raiseCounters_66, w_X8_raiseCounters_67, w_X8_raiseCounters_68, w_X8_raiseCounters_69, w_X8_raiseCounters_72, w_X8_raiseCounters_75, w_X8_raiseCounters_76, pm_1i_c, pm_2i_c, pm_1l_c, pm_2l_c, pm_1a_c, pm_ia_c, pm_iia_c, pm_va_c, pm_cp_c, pm_k0_c, pm_k1_c, pm_k2_c, pm_k3_c, pm_s1_c, pm_s2_c, pm_s3_c, pm_s4_c, pm_ri_c, pm_ra_c, pm_rn_c, pm_rk_i, pm_rk_z, pm_rk_a, pm_vk_i, pm_vk_z, pm_vk_a, pm_cti, pm_ctr, pm_ldi_z, pm_ldi_s, pm_lda_z, pm_lda_s, pm_cat_n, pm_cat_i, pm_cat_r, pm_cat_l, pm_obj, pm_arr, pm_opt, pm_ird, pm_aln, List.getElem?_cons_zero, List.getElem?_cons_succ, List.set_cons_zero, List.set_cons_succ, List.length_cons, List.length_nil, List.length_set, true_and, and_true, Nat.add_zero, Nat.zero_add, Nat.le_refl, Nat.reduceAdd, Nat.reduceLT, Nat.reduceLeDiff, Nat.zero_le, not_false_eq_true, not_true_eq_false, false_implies, implies_true, true_implies, Nat.zero_lt_succ, Nat.lt_add_one]
  exact loop 4 0 rfl (by omega) h fc _ rfl rfl h2 (fun j hj => h3 j hj) rfl fr3.rf (Or.inl rfl)
theorem raiC_2 (A : AD) (key : Int32) : ∀ r, (raiC A key r).2 = 0 ∨ (raiC A key r).2 = 1
  | 0 => Or.inl rfl
  | r + 1 => by
    unfold raiC
    split
    · exact Or.inr rfl
    · exact raiC_2 A key r
theorem c_Sketch_add (hl : h.length ≤ 1000000) (H : skA h a A) (V : skV A) (key : Int32) (d : Nat) : PM (d + 3) 84 [.ref a, .int key] h (fun v h' => v = none ∧ skA h' a (addF A key) ∧ fr3 h h' a) := by
  have H0 := H
  obtain ⟨h1, h2, h4⟩ := H
  refine en_X8_add rfl rfl ?_
  obtain ⟨j0, q0, r0, s0⟩ := nix_in key 0
  obtain ⟨j1, q1, r1, s1⟩ := nix_in key 1
  have tail : ∀ (hh : pmH) (B : AD), skA hh a B → addF1 A key = B → hh.length = h.length → fr3 h hh a → W_X8_add (d + 2) (h.length + 0) 0 (fun v h' => v = none ∧ skA h' a (addF A key) ∧ fr3 h h' a) 60 [some (.ref a), some (.int key)] [] hh 0 := by
    intro hh B b1 b2 b3 b4
    have b0 := b1.1
    simp only [w_X8_add_0, w_X8_add_1, w_X8_add_4, w_X8_add_7, w_X8_add_8, w_X8_add_9, w_X8_add_12, w_X8_add_15, w_X8_add_16, w_X8_add_17, w_X8_add_18, w_X8_add_21, w_X8_add_24, w_X8_add_27, w_X8_add_28, w_X8_add_29, w_X8_add_30, w_X8_add_33, w_X8_add_36, w_X8_add_39, w_X8_add_42, w_X8_add_43, w_X8_add_44, w_X8_add_47, w_X8_add_50, w_X8_add_51, w_X8_add_52, w_X8_add_55, w_X8_add_56, w_X8_add_57, w_X8_add_60, w_X8_add_61, w_X8_add_64, w_X8_add_65, w_X8_add_68, w_X8_add_71, w_X8_add_72, w_X8_add_75, pm_1i_c, pm_2i_c, pm_1l_c, pm_2l_c, pm_1a_c, pm_ia_c, pm_iia_c, pm_va_c, pm_cp_c, pm_k0_c, pm_k1_c, pm_k2_c, pm_k3_c, pm_s1_c, pm_s2_c, pm_s3_c, pm_s4_c, pm_ri_c, pm_ra_c, pm_rn_c, pm_rk_i, pm_rk_z, pm_rk_a, pm_vk_i, pm_vk_z, pm_vk_a, pm_cti, pm_ctr, pm_ldi_z, pm_ldi_s, pm_lda_z, pm_lda_s, pm_cat_n, pm_cat_i, pm_cat_r, pm_cat_l, pm_obj, pm_arr, pm_opt, pm_ird, pm_aln, List.getElem?_cons_zero, List.getElem?_cons_succ, List.set_cons_zero, List.set_cons_succ, List.length_cons, List.length_nil, List.length_set, true_and, and_true, Nat.add_zero, Nat.zero_add, Nat.le_refl, Nat.reduceAdd, Nat.reduceLT, Nat.reduceLeDiff, Nat.zero_le, not_false_eq_true, not_true_eq_false, false_implies, implies_true, true_implies, Nat.zero_lt_succ, Nat.lt_add_one, b0, b3]
    unfold addF
    rw [b2]
    refine ⟨fun c => by rw [if_pos c]; exact ⟨b1, b4⟩, fun c => ?_⟩
    rw [if_neg c]
    refine PM_use (c_Sketch_halveAll b1 d) ?_
    rintro v h' hlen ⟨rfl, K1, K2⟩
    show W_X8_add _ _ _ _ _ _ _ _ _
    simp only [w_X8_add_0, w_X8_add_1, w_X8_add_4, w_X8_add_7, w_X8_add_8, w_X8_add_9, w_X8_add_12, w_X8_add_15, w_X8_add_16, w_X8_add_17, w_X8_add_18, w_X8_add_21, w_X8_add_24, w_X8_add_27, w_X8_add_28, w_X8_add_29, w_X8_add_30, w_X8_add_33, w_X8_add_36, w_X8_add_39, w_X8_add_42, w_X8_add_43, w_X8_add_44, w_X8_add_47, w_X8_add_50, w_X8_add_51, w_X8_add_52, w_X8_add_55, w_X8_add_56, w_X8_add_57, w_X8_add_60, w_X8_add_61, w_X8_add_64, w_X8_add_65, w_X8_add_68, w_X8_add_71, w_X8_add_72, w_X8_add_75, pm_1i_c, pm_2i_c, pm_1l_c, pm_2l_c, pm_1a_c, pm_ia_c, pm_iia_c, pm_va_c, pm_cp_c, pm_k0_c, pm_k1_c, pm_k2_c, pm_k3_c, pm_s1_c, pm_s2_c, pm_s3_c, pm_s4_c, pm_ri_c, pm_ra_c, pm_rn_c, pm_rk_i, pm_rk_z, pm_rk_a, pm_vk_i, pm_vk_z, pm_vk_a, pm_cti, pm_ctr, pm_ldi_z, pm_ldi_s, pm_lda_z, pm_lda_s, pm_cat_n, pm_cat_i, pm_cat_r, pm_cat_l, pm_obj, pm_arr, pm_opt, pm_ird, pm_aln, List.getElem?_cons_zero, List.getElem?_cons_succ, List.set_cons_zero, List.set_cons_succ, List.length_cons, List.length_nil, List.length_set, true_and, and_true, Nat.add_zero, Nat.zero_add, Nat.le_refl, Nat.reduceAdd, Nat.reduceLT, Nat.reduceLeDiff, Nat.zero_le, not_false_eq_true, not_true_eq_false, false_implies, implies_true, true_implies, Nat.zero_lt_succ, Nat.lt_add_one, pm_tl_n]
    exact ⟨by rw [hlen, b3]; rfl, K1, b4.tr K2⟩
  have raise : (¬ (sc A 14 = 1 ∧ notd A key = false)) → W_X8_add (d + 2) (h.length + 0) 0 (fun v h' => v = none ∧ skA h' a (addF A key) ∧ fr3 h h' a) 42 [some (.ref a), some (.int key)] [] h 0 := by
    intro hn
    have e1 : addF1 A key = uS (uC A (raiC A key 4).1) 0 (if (raiC A key 4).2 = 0 then sc A 0 else sc A 0 + 1) := if_neg hn
    simp only [w_X8_add_42, w_X8_add_43, w_X8_add_44, w_X8_add_47, w_X8_add_50, w_X8_add_51, w_X8_add_52, w_X8_add_55, w_X8_add_56, w_X8_add_57, pm_1i_c, pm_2i_c, pm_1l_c, pm_2l_c, pm_1a_c, pm_ia_c, pm_iia_c, pm_va_c, pm_cp_c, pm_k0_c, pm_k1_c, pm_k2_c, pm_k3_c, pm_s1_c, pm_s2_c, pm_s3_c, pm_s4_c, pm_ri_c, pm_ra_c, pm_rn_c, pm_rk_i, pm_rk_z, pm_rk_a, pm_vk_i, pm_vk_z, pm_vk_a, pm_cti, pm_ctr, pm_ldi_z, pm_ldi_s, pm_lda_z, pm_lda_s, pm_cat_n, pm_cat_i, pm_cat_r, pm_cat_l, pm_obj, pm_arr, pm_opt, pm_ird, pm_aln, List.getElem?_cons_zero, List.getElem?_cons_succ, List.set_cons_zero, List.set_cons_succ, List.length_cons, List.length_nil, List.length_set, true_and, and_true, Nat.add_zero, Nat.zero_add, Nat.le_refl, Nat.reduceAdd, Nat.reduceLT, Nat.reduceLeDiff, Nat.zero_le, not_false_eq_true, not_true_eq_false, false_implies, implies_true, true_implies, Nat.zero_lt_succ, Nat.lt_add_one, h1]
    refine PM_use (c_Sketch_raiseCounters hl H0 V.1 key d) ?_
    rintro v h' hlen ⟨rfl, K1, K2⟩
    show W_X8_add _ _ _ _ _ _ _ _ _
    have k1 := K1.1
    simp only [w_X8_add_42, w_X8_add_43, w_X8_add_44, w_X8_add_47, w_X8_add_50, w_X8_add_51, w_X8_add_52, w_X8_add_55, w_X8_add_56, w_X8_add_57, pm_1i_c, pm_2i_c, pm_1l_c, pm_2l_c, pm_1a_c, pm_ia_c, pm_iia_c, pm_va_c, pm_cp_c, pm_k0_c, pm_k1_c, pm_k2_c, pm_k3_c, pm_s1_c, pm_s2_c, pm_s3_c, pm_s4_c, pm_ri_c, pm_ra_c, pm_rn_c, pm_rk_i, pm_rk_z, pm_rk_a, pm_vk_i, pm_vk_z, pm_vk_a, pm_cti, pm_ctr, pm_ldi_z, pm_ldi_s, pm_lda_z, pm_lda_s, pm_cat_n, pm_cat_i, pm_cat_r, pm_cat_l, pm_obj, pm_arr, pm_opt, pm_ird, pm_aln, List.getElem?_cons_zero, List.getElem?_cons_succ, List.set_cons_zero, List.set_cons_succ, List.length_cons, List.length_nil, List.length_set, true_and, and_true, Nat.add_zero, Nat.zero_add, Nat.le_refl, Nat.reduceAdd, Nat.reduceLT, Nat.reduceLeDiff, Nat.zero_le, not_false_eq_true, not_true_eq_false, false_implies, implies_true, true_implies, Nat.zero_lt_succ, Nat.lt_add_one, pm_tl_s, k1]
    refine ⟨fun c => tail h' _ K1 ?_ hlen K2, fun c => tail _ _ (show skA _ a (uS (uC A (raiC A key 4).1) 0 (sc A 0 + 1)) from ⟨by rw [hset_s, k1]; rfl, by rw [hset_r2]; exact K1.2.1, by rw [hset_34]; exact K1.2.2⟩) ?_ (by rw [List.length_set]; exact hlen) (K2.tr (fun i x y z => hset_n (Ne.symm x)))⟩
    · rw [e1, if_pos c]
      exact uS_uC_self
    · rw [e1, if_neg c]
  have K0 := c_Sketch_mixed hl key (r := 0) (by omega) (m := 256) (by omega) (by omega) (d + 1)
  rw [r0] at K0
  simp only [w_X8_add_0, w_X8_add_1, w_X8_add_4, w_X8_add_7, w_X8_add_8, w_X8_add_9, w_X8_add_12, w_X8_add_15, w_X8_add_16, w_X8_add_17, w_X8_add_18, w_X8_add_21, w_X8_add_24, w_X8_add_27, w_X8_add_28, w_X8_add_29, w_X8_add_30, w_X8_add_33, w_X8_add_36, w_X8_add_39, pm_1i_c, pm_2i_c, pm_1l_c, pm_2l_c, pm_1a_c, pm_ia_c, pm_iia_c, pm_va_c, pm_cp_c, pm_k0_c, pm_k1_c, pm_k2_c, pm_k3_c, pm_s1_c, pm_s2_c, pm_s3_c, pm_s4_c, pm_ri_c, pm_ra_c, pm_rn_c, pm_rk_i, pm_rk_z, pm_rk_a, pm_vk_i, pm_vk_z, pm_vk_a, pm_cti, pm_ctr, pm_ldi_z, pm_ldi_s, pm_lda_z, pm_lda_s, pm_cat_n, pm_cat_i, pm_cat_r, pm_cat_l, pm_obj, pm_arr, pm_opt, pm_ird, pm_aln, List.getElem?_cons_zero, List.getElem?_cons_succ, List.set_cons_zero, List.set_cons_succ, List.length_cons, List.length_nil, List.length_set, true_and, and_true, Nat.add_zero, Nat.zero_add, Nat.le_refl, Nat.reduceAdd, Nat.reduceLT, Nat.reduceLeDiff, Nat.zero_le, not_false_eq_true, not_true_eq_false, false_implies, implies_true, true_implies, Nat.zero_lt_succ, Nat.lt_add_one, h1]
  rcases V.2.1 with z | z
  · rw [z]
    refine ⟨fun _ => raise (fun q => by rw [z] at q; exact absurd q.1 (by decide)), fun c => absurd rfl c⟩
  · rw [z]
    refine ⟨fun c => absurd c (by decide), fun _ => ?_⟩
    refine PM_use (c_Sketch_hasNoted hl H0 V key d) ?_
    rintro v h' hlen ⟨rfl, rfl⟩
    show W_X8_add _ _ _ _ _ _ _ _ _
    simp only [w_X8_add_0, w_X8_add_1, w_X8_add_4, w_X8_add_7, w_X8_add_8, w_X8_add_9, w_X8_add_12, w_X8_add_15, w_X8_add_16, w_X8_add_17, w_X8_add_18, w_X8_add_21, w_X8_add_24, w_X8_add_27, w_X8_add_28, w_X8_add_29, w_X8_add_30, w_X8_add_33, w_X8_add_36, w_X8_add_39, pm_1i_c, pm_2i_c, pm_1l_c, pm_2l_c, pm_1a_c, pm_ia_c, pm_iia_c, pm_va_c, pm_cp_c, pm_k0_c, pm_k1_c, pm_k2_c, pm_k3_c, pm_s1_c, pm_s2_c, pm_s3_c, pm_s4_c, pm_ri_c, pm_ra_c, pm_rn_c, pm_rk_i, pm_rk_z, pm_rk_a, pm_vk_i, pm_vk_z, pm_vk_a, pm_cti, pm_ctr, pm_ldi_z, pm_ldi_s, pm_lda_z, pm_lda_s, pm_cat_n, pm_cat_i, pm_cat_r, pm_cat_l, pm_obj, pm_arr, pm_opt, pm_ird, pm_aln, List.getElem?_cons_zero, List.getElem?_cons_succ, List.set_cons_zero, List.set_cons_succ, List.length_cons, List.length_nil, List.length_set, true_and, and_true, Nat.add_zero, Nat.zero_add, Nat.le_refl, Nat.reduceAdd, Nat.reduceLT, Nat.reduceLeDiff, Nat.zero_le, not_false_eq_true, not_true_eq_false, false_implies, implies_true, true_implies, Nat.zero_lt_succ, Nat.lt_add_one, pm_tl_s, h1]
    cases hnd : notd A key with
    | true =>
      refine ⟨fun _ => raise (fun q => by rw [hnd] at q; cases q.2), fun c => absurd c (by decide)⟩
    | false =>
      refine ⟨fun c => absurd rfl c, fun _ => ?_⟩
      refine PM_use K0 ?_
      rintro v h'' - ⟨rfl, rfl⟩
      show W_X8_add _ _ _ _ _ _ _ _ _
      simp only [w_X8_add_0, w_X8_add_1, w_X8_add_4, w_X8_add_7, w_X8_add_8, w_X8_add_9, w_X8_add_12, w_X8_add_15, w_X8_add_16, w_X8_add_17, w_X8_add_18, w_X8_add_21, w_X8_add_24, w_X8_add_27, w_X8_add_28, w_X8_add_29, w_X8_add_30, w_X8_add_33, w_X8_add_36, w_X8_add_39, pm_1i_c, pm_2i_c, pm_1l_c, pm_2l_c, pm_1a_c, pm_ia_c, pm_iia_c, pm_va_c, pm_cp_c, pm_k0_c, pm_k1_c, pm_k2_c, pm_k3_c, pm_s1_c, pm_s2_c, pm_s3_c, pm_s4_c, pm_ri_c, pm_ra_c, pm_rn_c, pm_rk_i, pm_rk_z, pm_rk_a, pm_vk_i, pm_vk_z, pm_vk_a, pm_cti, pm_ctr, pm_ldi_z, pm_ldi_s, pm_lda_z, pm_lda_s, pm_cat_n, pm_cat_i, pm_cat_r, pm_cat_l, pm_obj, pm_arr, pm_opt, pm_ird, pm_aln, List.getElem?_cons_zero, List.getElem?_cons_succ, List.set_cons_zero, List.set_cons_succ, List.length_cons, List.length_nil, List.length_set, true_and, and_true, Nat.add_zero, Nat.zero_add, Nat.le_refl, Nat.reduceAdd, Nat.reduceLT, Nat.reduceLeDiff, Nat.zero_le, not_false_eq_true, not_true_eq_false, false_implies, implies_true, true_implies, Nat.zero_lt_succ, Nat.lt_add_one, pm_tl_s, h1]
      refine PM_use (c_Sketch_setNote H0 q0 (d + 1)) ?_
      rintro v h2' hlen2 ⟨rfl, K1, K2⟩
      show W_X8_add _ _ _ _ _ _ _ _ _
      have k1 := K1.1
      have K3 := c_Sketch_mixed (h := h2') (by rw [hlen2]; exact hl) key (r := 1) (by omega) (m := 256) (by omega) (by omega) (d + 1)
      rw [r1] at K3
      simp only [w_X8_add_0, w_X8_add_1, w_X8_add_4, w_X8_add_7, w_X8_add_8, w_X8_add_9, w_X8_add_12, w_X8_add_15, w_X8_add_16, w_X8_add_17, w_X8_add_18, w_X8_add_21, w_X8_add_24, w_X8_add_27, w_X8_add_28, w_X8_add_29, w_X8_add_30, w_X8_add_33, w_X8_add_36, w_X8_add_39, pm_1i_c, pm_2i_c, pm_1l_c, pm_2l_c, pm_1a_c, pm_ia_c, pm_iia_c, pm_va_c, pm_cp_c, pm_k0_c, pm_k1_c, pm_k2_c, pm_k3_c, pm_s1_c, pm_s2_c, pm_s3_c, pm_s4_c, pm_ri_c, pm_ra_c, pm_rn_c, pm_rk_i, pm_rk_z, pm_rk_a, pm_vk_i, pm_vk_z, pm_vk_a, pm_cti, pm_ctr, pm_ldi_z, pm_ldi_s, pm_lda_z, pm_lda_s, pm_cat_n, pm_cat_i, pm_cat_r, pm_cat_l, pm_obj, pm_arr, pm_opt, pm_ird, pm_aln, List.getElem?_cons_zero, List.getElem?_cons_succ, List.set_cons_zero, List.set_cons_succ, List.length_cons, List.length_nil, List.length_set, true_and, and_true, Nat.add_zero, Nat.zero_add, Nat.le_refl, Nat.reduceAdd, Nat.reduceLT, Nat.reduceLeDiff, Nat.zero_le, not_false_eq_true, not_true_eq_false, false_implies, implies_true, true_implies, Nat.zero_lt_succ, Nat.lt_add_one, pm_tl_n, k1, hlen2]
      refine PM_use K3 ?_
      rintro v h3' - ⟨rfl, rfl⟩
      show W_X8_add _ _ _ _ _ _ _ _ _
      simp only [w_X8_add_0, w_X8_add_1, w_X8_add_4, w_X8_add_7, w_X8_add_8, w_X8_add_9, w_X8_add_12, w_X8_add_15, w_X8_add_16, w_X8_add_17, w_X8_add_18, w_X8_add_21, w_X8_add_24, w_X8_add_27, w_X8_add_28, w_X8_add_29, w_X8_add_30, w_X8_add_33, w_X8_add_36, w_X8_add_39, pm_1i_c, pm_2i_c, pm_1l_c, pm_2l_c, pm_1a_c, pm_ia_c, pm_iia_c, pm_va_c, pm_cp_c, pm_k0_c, pm_k1_c, pm_k2_c, pm_k3_c, pm_s1_c, pm_s2_c, pm_s3_c, pm_s4_c, pm_ri_c, pm_ra_c, pm_rn_c, pm_rk_i, pm_rk_z, pm_rk_a, pm_vk_i, pm_vk_z, pm_vk_a, pm_cti, pm_ctr, pm_ldi_z, pm_ldi_s, pm_lda_z, pm_lda_s, pm_cat_n, pm_cat_i, pm_cat_r, pm_cat_l, pm_obj, pm_arr, pm_opt, pm_ird, pm_aln, List.getElem?_cons_zero, List.getElem?_cons_succ, List.set_cons_zero, List.set_cons_succ, List.length_cons, List.length_nil, List.length_set, true_and, and_true, Nat.add_zero, Nat.zero_add, Nat.le_refl, Nat.reduceAdd, Nat.reduceLT, Nat.reduceLeDiff, Nat.zero_le, not_false_eq_true, not_true_eq_false, false_implies, implies_true, true_implies, Nat.zero_lt_succ, Nat.lt_add_one, pm_tl_s, k1, hlen2]
      refine PM_use (c_Sketch_setNote K1 q1 (d + 1)) ?_
      rintro v h4' hlen4 ⟨rfl, K5, K6⟩
      show W_X8_add _ _ _ _ _ _ _ _ _
      simp only [w_X8_add_0, w_X8_add_1, w_X8_add_4, w_X8_add_7, w_X8_add_8, w_X8_add_9, w_X8_add_12, w_X8_add_15, w_X8_add_16, w_X8_add_17, w_X8_add_18, w_X8_add_21, w_X8_add_24, w_X8_add_27, w_X8_add_28, w_X8_add_29, w_X8_add_30, w_X8_add_33, w_X8_add_36, w_X8_add_39, pm_1i_c, pm_2i_c, pm_1l_c, pm_2l_c, pm_1a_c, pm_ia_c, pm_iia_c, pm_va_c, pm_cp_c, pm_k0_c, pm_k1_c, pm_k2_c, pm_k3_c, pm_s1_c, pm_s2_c, pm_s3_c, pm_s4_c, pm_ri_c, pm_ra_c, pm_rn_c, pm_rk_i, pm_rk_z, pm_rk_a, pm_vk_i, pm_vk_z, pm_vk_a, pm_cti, pm_ctr, pm_ldi_z, pm_ldi_s, pm_lda_z, pm_lda_s, pm_cat_n, pm_cat_i, pm_cat_r, pm_cat_l, pm_obj, pm_arr, pm_opt, pm_ird, pm_aln, List.getElem?_cons_zero, List.getElem?_cons_succ, List.set_cons_zero, List.set_cons_succ, List.length_cons, List.length_nil, List.length_set, true_and, and_true, Nat.add_zero, Nat.zero_add, Nat.le_refl, Nat.reduceAdd, Nat.reduceLT, Nat.reduceLeDiff, Nat.zero_le, not_false_eq_true, not_true_eq_false, false_implies, implies_true, true_implies, Nat.zero_lt_succ, Nat.lt_add_one, pm_tl_n]
      refine tail h4' _ K5 ?_ (by rw [hlen4, hlen2]; rfl) (K2.tr K6)
      unfold addF1
      rw [if_pos ⟨z, hnd⟩, s0, s1]
      rfl
theorem c_Sketch_setWide (H : skA h a A) (n : Int32) (d : Nat) : PM (d + 2) 89 [.ref a, .int n] h (fun v h' => v = none ∧ skA h' a (uN (uC (uS (uS A 13 n) 0 0) (fun _ => 0)) (fun _ => 0)) ∧ fr3 h h' a) := by
  obtain ⟨h1, ⟨fc, h2, h3⟩, h4⟩ := H
  refine en_X8_setWide rfl rfl ?_
  have loop : ∀ m k, 1024 - k = m → k ≤ 1024 → ∀ (hh : pmH) (f : Nat → Int32), hh[a]? = some (.inr (8, [.ref (a + 1), .ref (a + 2), .int (sc A 14), .int 0, .int (sc A 11), .int n, .int (sc A 1)])) → hh[a + 2]? = h[a + 2]? → hh[a + 1]? = some (.inl (0, 1024, .inl f)) → (∀ j, j < k → f j = 0) → hh.length = h.length → fr3 h hh a → W_X8_setWide (d + 1) (h.length + 0) 0 (fun v h' => v = none ∧ skA h' a (uN (uC (uS (uS A 13 n) 0 0) (fun _ => 0)) (fun _ => 0)) ∧ fr3 h h' a) 12 [some (.ref a), some (.int n), some (.int (nI k))] [] hh 0 := by
    intro m
    induction m with
    | zero =>
      intro k hn hk hh f q1 q2 q3 q4 q5 q6
      have : k = 1024 := by omega
      subst this
      have e1 : ¬ nI 1024 < nI 1024 := by decide
      rw [w_X8_setWide_12]
      simp only [w_X8_setWide_0, w_X8_setWide_1, w_X8_setWide_2, w_X8_setWide_5, w_X8_setWide_6, w_X8_setWide_7, w_X8_setWide_10, w_X8_setWide_11, w_X8_setWide_13, w_X8_setWide_14, w_X8_setWide_17, w_X8_setWide_18, w_X8_setWide_21, w_X8_setWide_22, w_X8_setWide_25, w_X8_setWide_26, w_X8_setWide_27, w_X8_setWide_28, w_X8_setWide_31, w_X8_setWide_34, w_X8_setWide_35, w_X8_setWide_38, pm_1i_c, pm_2i_c, pm_1l_c, pm_2l_c, pm_1a_c, pm_ia_c, pm_iia_c, pm_va_c, pm_cp_c, pm_k0_c, pm_k1_c, pm_k2_c, pm_k3_c, pm_s1_c, pm_s2_c, pm_s3_c, pm_s4_c, pm_ri_c, pm_ra_c, pm_rn_c, pm_rk_i, pm_rk_z, pm_rk_a, pm_vk_i, pm_vk_z, pm_vk_a, pm_cti, pm_ctr, pm_ldi_z, pm_ldi_s, pm_lda_z, pm_lda_s, pm_cat_n, pm_cat_i, pm_cat_r, pm_cat_l, pm_obj, pm_arr, pm_opt, pm_ird, pm_aln, List.getElem?_cons_zero, List.getElem?_cons_succ, List.set_cons_zero, List.set_cons_succ, List.length_cons, List.length_nil, List.length_set, true_and, and_true, Nat.add_zero, Nat.zero_add, Nat.le_refl, Nat.reduceAdd, Nat.reduceLT, Nat.reduceLeDiff, Nat.zero_le, not_false_eq_true, not_true_eq_false, false_implies, implies_true, true_implies, Nat.zero_lt_succ, Nat.lt_add_one, q1, q2, q3, e1, q5]
      refine PM_use (c_Sketch_forgetNotes (A := uC (uS (uS A 13 n) 0 0) (fun _ => 0)) ⟨q1, ⟨f, q3, q4⟩, by rw [q2]; exact h4⟩ d) ?_
      rintro v h' hlen ⟨rfl, K1, K2⟩
      show W_X8_setWide _ _ _ _ _ _ _ _ _
      simp only [w_X8_setWide_0, w_X8_setWide_1, w_X8_setWide_2, w_X8_setWide_5, w_X8_setWide_6, w_X8_setWide_7, w_X8_setWide_10, w_X8_setWide_11, w_X8_setWide_13, w_X8_setWide_14, w_X8_setWide_17, w_X8_setWide_18, w_X8_setWide_21, w_X8_setWide_22, w_X8_setWide_25, w_X8_setWide_26, w_X8_setWide_27, w_X8_setWide_28, w_X8_setWide_31, w_X8_setWide_34, w_X8_setWide_35, w_X8_setWide_38, pm_1i_c, pm_2i_c, pm_1l_c, pm_2l_c, pm_1a_c, pm_ia_c, pm_iia_c, pm_va_c, pm_cp_c, pm_k0_c, pm_k1_c, pm_k2_c, pm_k3_c, pm_s1_c, pm_s2_c, pm_s3_c, pm_s4_c, pm_ri_c, pm_ra_c, pm_rn_c, pm_rk_i, pm_rk_z, pm_rk_a, pm_vk_i, pm_vk_z, pm_vk_a, pm_cti, pm_ctr, pm_ldi_z, pm_ldi_s, pm_lda_z, pm_lda_s, pm_cat_n, pm_cat_i, pm_cat_r, pm_cat_l, pm_obj, pm_arr, pm_opt, pm_ird, pm_aln, List.getElem?_cons_zero, List.getElem?_cons_succ, List.set_cons_zero, List.set_cons_succ, List.length_cons, List.length_nil, List.length_set, true_and, and_true, Nat.add_zero, Nat.zero_add, Nat.le_refl, Nat.reduceAdd, Nat.reduceLT, Nat.reduceLeDiff, Nat.zero_le, not_false_eq_true, not_true_eq_false, false_implies, implies_true, true_implies, Nat.zero_lt_succ, Nat.lt_add_one, pm_tl_n]
      exact ⟨by rw [hlen, q5]; rfl, K1, q6.tr K2⟩
    | succ m ih =>
      intro k hn hk hh f q1 q2 q3 q4 q5 q6
      have e1 : nI k < nI 1024 := nI_lt (by omega) (by omega)
      have e3 : vp_in (nI k) 1024 := vp_in_nI (by omega) (by omega)
      have e4 : (nI k).toNatClampNeg = k := nI_clamp (by omega)
      rw [w_X8_setWide_12]
      simp only [w_X8_setWide_0, w_X8_setWide_1, w_X8_setWide_2, w_X8_setWide_5, w_X8_setWide_6, w_X8_setWide_7, w_X8_setWide_10, w_X8_setWide_11, w_X8_setWide_13, w_X8_setWide_14, w_X8_setWide_17, w_X8_setWide_18, w_X8_setWide_21, w_X8_setWide_22, w_X8_setWide_25, w_X8_setWide_26, w_X8_setWide_27, w_X8_setWide_28, w_X8_setWide_31, w_X8_setWide_34, w_X8_setWide_35, w_X8_setWide_38, pm_1i_c, pm_2i_c, pm_1l_c, pm_2l_c, pm_1a_c, pm_ia_c, pm_iia_c, pm_va_c, pm_cp_c, pm_k0_c, pm_k1_c, pm_k2_c, pm_k3_c, pm_s1_c, pm_s2_c, pm_s3_c, pm_s4_c, pm_ri_c, pm_ra_c, pm_rn_c, pm_rk_i, pm_rk_z, pm_rk_a, pm_vk_i, pm_vk_z, pm_vk_a, pm_cti, pm_ctr, pm_ldi_z, pm_ldi_s, pm_lda_z, pm_lda_s, pm_cat_n, pm_cat_i, pm_cat_r, pm_cat_l, pm_obj, pm_arr, pm_opt, pm_ird, pm_aln, List.getElem?_cons_zero, List.getElem?_cons_succ, List.set_cons_zero, List.set_cons_succ, List.length_cons, List.length_nil, List.length_set, true_and, and_true, Nat.add_zero, Nat.zero_add, Nat.le_refl, Nat.reduceAdd, Nat.reduceLT, Nat.reduceLeDiff, Nat.zero_le, not_false_eq_true, not_true_eq_false, false_implies, implies_true, true_implies, Nat.zero_lt_succ, Nat.lt_add_one, q1, q2, q3, e1, e3, e4, nI_1]
      refine ih (k + 1) (by omega) (by omega) _ _ (by rw [hset_r1]; exact q1) (by rw [hset_33]; exact q2) (by rw [hset_s, q3]; rfl) (fun j hj => ?_) (by rw [List.length_set]; exact q5) (q6.tr (fun i x y z => hset_n (Ne.symm y)))
      unfold upd
      split
      · rfl
      · exact q4 j (by omega)
  simp only [w_X8_setWide_0, w_X8_setWide_1, w_X8_setWide_2, w_X8_setWide_5, w_X8_setWide_6, w_X8_setWide_7, w_X8_setWide_10, w_X8_setWide_11, w_X8_setWide_13, w_X8_setWide_14, w_X8_setWide_17, w_X8_setWide_18, w_X8_setWide_21, w_X8_setWide_22, w_X8_setWide_25, w_X8_setWide_26, w_X8_setWide_27, w_X8_setWide_28, w_X8_setWide_31, w_X8_setWide_34, w_X8_setWide_35, w_X8_setWide_38, pm_1i_c, pm_2i_c, pm_1l_c, pm_2l_c, pm_1a_c, pm_ia_c, pm_iia_c, pm_va_c, pm_cp_c, pm_k0_c, pm_k1_c, pm_k2_c, pm_k3_c, pm_s1_c, pm_s2_c, pm_s3_c, pm_s4_c, pm_ri_c, pm_ra_c, pm_rn_c, pm_rk_i, pm_rk_z, pm_rk_a, pm_vk_i, pm_vk_z, pm_vk_a, pm_cti, pm_ctr, pm_ldi_z, pm_ldi_s, pm_lda_z, pm_lda_s, pm_cat_n, pm_cat_i, pm_cat_r, pm_cat_l, pm_obj, pm_arr, pm_opt, pm_ird, pm_aln, List.getElem?_cons_zero, List.getElem?_cons_succ, List.set_cons_zero, List.set_cons_succ, List.length_cons, List.length_nil, List.length_set, true_and, and_true, Nat.add_zero, Nat.zero_add, Nat.le_refl, Nat.reduceAdd, Nat.reduceLT, Nat.reduceLeDiff, Nat.zero_le, not_false_eq_true, not_true_eq_false, false_implies, implies_true, true_implies, Nat.zero_lt_succ, Nat.lt_add_one, h1, hset_s, Option.map_some, List.set_set]
  exact loop 1024 0 rfl (by omega) _ fc (by rw [hset_s, h1]; rfl) (by rw [hset_34]) (by rw [hset_r2]; exact h2) (fun j hj => by omega) (by rw [List.length_set]) (fun i x y z => hset_n (Ne.symm x))
/-- sums over the notes and the counters -/
def smF (f : Nat → Int32) : Nat → Int32
  | 0 => 0
  | k + 1 => smF f k + f k
theorem smF_c {f g : Nat → Int32} : ∀ {n : Nat}, (∀ k, k < n → f k = g k) → smF f n = smF g n
  | 0, _ => rfl
  | n + 1, h => by unfold smF; rw [smF_c (fun k hk => h k (by omega)), h n (by omega)]
theorem c_Sketch_bitsSet (H : skA h a A) (d : Nat) : PM (d + 1) 90 [.ref a] h (fun v h' => v = some (.int (smF (fun k => if nt A k = 0 then 0 else 1) 256)) ∧ h' = h) := by
  obtain ⟨h1, -, fn, h2, h3⟩ := H
  refine en_X8_bitsSet rfl ?_
  have loop : ∀ m k, 256 - k = m → k ≤ 256 → W_X8_bitsSet d (h.length + 0) 0 (fun v h' => v = some (.int (smF (fun k => if nt A k = 0 then 0 else 1) 256)) ∧ h' = h) 4 [some (.ref a), some (.int (smF (fun k => if nt A k = 0 then 0 else 1) k)), some (.int (nI k))] [] h 0 := by
    intro m
    induction m with
    | zero =>
      intro k hn hk
      have : k = 256 := by omega
      subst this
      have e1 : ¬ nI 256 < nI 256 := by decide
      rw [w_X8_bitsSet_4]
      simp only [w_X8_bitsSet_0, w_X8_bitsSet_1, w_X8_bitsSet_2, w_X8_bitsSet_3, w_X8_bitsSet_5, w_X8_bitsSet_6, w_X8_bitsSet_9, w_X8_bitsSet_10, w_X8_bitsSet_13, w_X8_bitsSet_14, w_X8_bitsSet_15, w_X8_bitsSet_18, w_X8_bitsSet_19, w_X8_bitsSet_20, w_X8_bitsSet_23, w_X8_bitsSet_24, w_X8_bitsSet_27, w_X8_bitsSet_28, w_X8_bitsSet_29, w_X8_bitsSet_30, w_X8_bitsSet_33, w_X8_bitsSet_36, w_X8_bitsSet_37, pm_1i_c, pm_2i_c, pm_1l_c, pm_2l_c, pm_1a_c, pm_ia_c, pm_iia_c, pm_va_c, pm_cp_c, pm_k0_c, pm_k1_c, pm_k2_c, pm_k3_c, pm_s1_c, pm_s2_c, pm_s3_c, pm_s4_c, pm_ri_c, pm_ra_c, pm_rn_c, pm_rk_i, pm_rk_z, pm_rk_a, pm_vk_i, pm_vk_z, pm_vk_a, pm_cti, pm_ctr, pm_ldi_z, pm_ldi_s, pm_lda_z, pm_lda_s, pm_cat_n, pm_cat_i, pm_cat_r, pm_cat_l, pm_obj, pm_arr, pm_opt, pm_ird, pm_aln, List.getElem?_cons_zero, List.getElem?_cons_succ, List.set_cons_zero, List.set_cons_succ, List.length_cons, List.length_nil, List.length_set, true_and, and_true, Nat.add_zero, Nat.zero_add, Nat.le_refl, Nat.reduceAdd, Nat.reduceLT, Nat.reduceLeDiff, Nat.zero_le, not_false_eq_true, not_true_eq_false, false_implies, implies_true, true_implies, Nat.zero_lt_succ, Nat.lt_add_one, h1, h2, e1]
    | succ m ih =>
      intro k hn hk
      have e1 : nI k < nI 256 := nI_lt (by omega) (by omega)
      have e3 : vp_in (nI k) 256 := vp_in_nI (by omega) (by omega)
      have e4 : (nI k).toNatClampNeg = k := nI_clamp (by omega)
      rw [w_X8_bitsSet_4]
      simp only [w_X8_bitsSet_0, w_X8_bitsSet_1, w_X8_bitsSet_2, w_X8_bitsSet_3, w_X8_bitsSet_5, w_X8_bitsSet_6, w_X8_bitsSet_9, w_X8_bitsSet_10, w_X8_bitsSet_13, w_X8_bitsSet_14, w_X8_bitsSet_15, w_X8_bitsSet_18, w_X8_bitsSet_19, w_X8_bitsSet_20, w_X8_bitsSet_23, w_X8_bitsSet_24, w_X8_bitsSet_27, w_X8_bitsSet_28, w_X8_bitsSet_29, w_X8_bitsSet_30, w_X8_bitsSet_33, w_X8_bitsSet_36, w_X8_bitsSet_37, pm_1i_c, pm_2i_c, pm_1l_c, pm_2l_c, pm_1a_c, pm_ia_c, pm_iia_c, pm_va_c, pm_cp_c, pm_k0_c, pm_k1_c, pm_k2_c, pm_k3_c, pm_s1_c, pm_s2_c, pm_s3_c, pm_s4_c, pm_ri_c, pm_ra_c, pm_rn_c, pm_rk_i, pm_rk_z, pm_rk_a, pm_vk_i, pm_vk_z, pm_vk_a, pm_cti, pm_ctr, pm_ldi_z, pm_ldi_s, pm_lda_z, pm_lda_s, pm_cat_n, pm_cat_i, pm_cat_r, pm_cat_l, pm_obj, pm_arr, pm_opt, pm_ird, pm_aln, List.getElem?_cons_zero, List.getElem?_cons_succ, List.set_cons_zero, List.set_cons_succ, List.length_cons, List.length_nil, List.length_set, true_and, and_true, Nat.add_zero, Nat.zero_add, Nat.le_refl, Nat.reduceAdd, Nat.reduceLT, Nat.reduceLeDiff, Nat.zero_le, not_false_eq_true, not_true_eq_false, false_implies, implies_true, true_implies, Nat.zero_lt_succ, Nat.lt_add_one, h1, h2, e1, e3, e4, nI_1, h3 k (by omega)]
      have K := ih (k + 1) (by omega) (by omega)
      refine ⟨Or.inr trivial, fun c => ?_, fun c => ?_⟩
      · have e : smF (fun k => if nt A k = 0 then 0 else 1) (k + 1) = smF (fun k => if nt A k = 0 then 0 else 1) k + 0 := by show _ + (if nt A k = 0 then (0 : Int32) else 1) = _; rw [if_pos c]
        rw [e] at K
        exact K
      · have e : smF (fun k => if nt A k = 0 then 0 else 1) (k + 1) = smF (fun k => if nt A k = 0 then 0 else 1) k + 1 := by show _ + (if nt A k = 0 then (0 : Int32) else 1) = _; rw [if_neg c]
        rw [e] at K
        exact K
  simp only [w_X8_bitsSet_0, w_X8_bitsSet_1, w_X8_bitsSet_2, w_X8_bitsSet_3, w_X8_bitsSet_5, w_X8_bitsSet_6, w_X8_bitsSet_9, w_X8_bitsSet_10, w_X8_bitsSet_13, w_X8_bitsSet_14, w_X8_bitsSet_15, w_X8_bitsSet_18, w_X8_bitsSet_19, w_X8_bitsSet_20, w_X8_bitsSet_23, w_X8_bitsSet_24, w_X8_bitsSet_27, w_X8_bitsSet_28, w_X8_bitsSet_29, w_X8_bitsSet_30, w_X8_bitsSet_33, w_X8_bitsSet_36, w_X8_bitsSet_37, pm_1i_c, pm_2i_c, pm_1l_c, pm_2l_c, pm_1a_c, pm_ia_c, pm_iia_c, pm_va_c, pm_cp_c, pm_k0_c, pm_k1_c, pm_k2_c, pm_k3_c, pm_s1_c, pm_s2_c, pm_s3_c, pm_s4_c, pm_ri_c, pm_ra_c, pm_rn_c, pm_rk_i, pm_rk_z, pm_rk_a, pm_vk_i, pm_vk_z, pm_vk_a, pm_cti, pm_ctr, pm_ldi_z, pm_ldi_s, pm_lda_z, pm_lda_s, pm_cat_n, pm_cat_i, pm_cat_r, pm_cat_l, pm_obj, pm_arr, pm_opt, pm_ird, pm_aln, List.getElem?_cons_zero, List.getElem?_cons_succ, List.set_cons_zero, List.set_cons_succ, List.length_cons, List.length_nil, List.length_set, true_and, and_true, Nat.add_zero, Nat.zero_add, Nat.le_refl, Nat.reduceAdd, Nat.reduceLT, Nat.reduceLeDiff, Nat.zero_le, not_false_eq_true, not_true_eq_false, false_implies, implies_true, true_implies, Nat.zero_lt_succ, Nat.lt_add_one]
  exact loop 256 0 rfl (by omega)
theorem c_Sketch_countersUsed (H : skA h a A) (d : Nat) : PM (d + 1) 91 [.ref a] h (fun v h' => v = some (.int (smF (fun k => if cn A k = 0 then 0 else 1) 1024)) ∧ h' = h) := by
  obtain ⟨h1, ⟨fc, h2, h3⟩, -⟩ := H
  refine en_X8_countersUsed rfl ?_
  have loop : ∀ m k, 1024 - k = m → k ≤ 1024 → W_X8_countersUsed d (h.length + 0) 0 (fun v h' => v = some (.int (smF (fun k => if cn A k = 0 then 0 else 1) 1024)) ∧ h' = h) 4 [some (.ref a), some (.int (smF (fun k => if cn A k = 0 then 0 else 1) k)), some (.int (nI k))] [] h 0 := by
    intro m
    induction m with
    | zero =>
      intro k hn hk
      have : k = 1024 := by omega
      subst this
      have e1 : ¬ nI 1024 < nI 1024 := by decide
      rw [w_X8_countersUsed_4]
      simp only [w_X8_countersUsed_0, w_X8_countersUsed_1, w_X8_countersUsed_2, w_X8_countersUsed_3, w_X8_countersUsed_5, w_X8_countersUsed_6, w_X8_countersUsed_9, w_X8_countersUsed_10, w_X8_countersUsed_13, w_X8_countersUsed_14, w_X8_countersUsed_15, w_X8_countersUsed_18, w_X8_countersUsed_19, w_X8_countersUsed_20, w_X8_countersUsed_23, w_X8_countersUsed_24, w_X8_countersUsed_27, w_X8_countersUsed_28, w_X8_countersUsed_29, w_X8_countersUsed_30, w_X8_countersUsed_33, w_X8_countersUsed_36, w_X8_countersUsed_37, pm_1i_c, pm_2i_c, pm_1l_c, pm_2l_c, pm_1a_c, pm_ia_c, pm_iia_c, pm_va_c, pm_cp_c, pm_k0_c, pm_k1_c, pm_k2_c, pm_k3_c, pm_s1_c, pm_s2_c, pm_s3_c, pm_s4_c, pm_ri_c, pm_ra_c, pm_rn_c, pm_rk_i, pm_rk_z, pm_rk_a, pm_vk_i, pm_vk_z, pm_vk_a, pm_cti, pm_ctr, pm_ldi_z, pm_ldi_s, pm_lda_z, pm_lda_s, pm_cat_n, pm_cat_i, pm_cat_r, pm_cat_l, pm_obj, pm_arr, pm_opt, pm_ird, pm_aln, List.getElem?_cons_zero, List.getElem?_cons_succ, List.set_cons_zero, List.set_cons_succ, List.length_cons, List.length_nil, List.length_set, true_and, and_true, Nat.add_zero, Nat.zero_add, Nat.le_refl, Nat.reduceAdd, Nat.reduceLT, Nat.reduceLeDiff, Nat.zero_le, not_false_eq_true, not_true_eq_false, false_implies, implies_true, true_implies, Nat.zero_lt_succ, Nat.lt_add_one, h1, h2, e1]
    | succ m ih =>
      intro k hn hk
      have e1 : nI k < nI 1024 := nI_lt (by omega) (by omega)
      have e3 : vp_in (nI k) 1024 := vp_in_nI (by omega) (by omega)
      have e4 : (nI k).toNatClampNeg = k := nI_clamp (by omega)
      rw [w_X8_countersUsed_4]
      simp only [w_X8_countersUsed_0, w_X8_countersUsed_1, w_X8_countersUsed_2, w_X8_countersUsed_3, w_X8_countersUsed_5, w_X8_countersUsed_6, w_X8_countersUsed_9, w_X8_countersUsed_10, w_X8_countersUsed_13, w_X8_countersUsed_14, w_X8_countersUsed_15, w_X8_countersUsed_18, w_X8_countersUsed_19, w_X8_countersUsed_20, w_X8_countersUsed_23, w_X8_countersUsed_24, w_X8_countersUsed_27, w_X8_countersUsed_28, w_X8_countersUsed_29, w_X8_countersUsed_30, w_X8_countersUsed_33, w_X8_countersUsed_36, w_X8_countersUsed_37, pm_1i_c, pm_2i_c, pm_1l_c, pm_2l_c, pm_1a_c, pm_ia_c, pm_iia_c, pm_va_c, pm_cp_c, pm_k0_c, pm_k1_c, pm_k2_c, pm_k3_c, pm_s1_c, pm_s2_c, pm_s3_c, pm_s4_c, pm_ri_c, pm_ra_c, pm_rn_c, pm_rk_i, pm_rk_z, pm_rk_a, pm_vk_i, pm_vk_z, pm_vk_a, pm_cti, pm_ctr, pm_ldi_z, pm_ldi_s, pm_lda_z, pm_lda_s, pm_cat_n, pm_cat_i, pm_cat_r, pm_cat_l, pm_obj, pm_arr, pm_opt, pm_ird, pm_aln, List.getElem?_cons_zero, List.getElem?_cons_succ, List.set_cons_zero, List.set_cons_succ, List.length_cons, List.length_nil, List.length_set, true_and, and_true, Nat.add_zero, Nat.zero_add, Nat.le_refl, Nat.reduceAdd, Nat.reduceLT, Nat.reduceLeDiff, Nat.zero_le, not_false_eq_true, not_true_eq_false, false_implies, implies_true, true_implies, Nat.zero_lt_succ, Nat.lt_add_one, h1, h2, e1, e3, e4, nI_1, h3 k (by omega)]
      have K := ih (k + 1) (by omega) (by omega)
      refine ⟨fun c => ?_, fun c => ?_⟩
      · have e : smF (fun k => if cn A k = 0 then 0 else 1) (k + 1) = smF (fun k => if cn A k = 0 then 0 else 1) k + 0 := by show _ + (if cn A k = 0 then (0 : Int32) else 1) = _; rw [if_pos c]
        rw [e] at K
        exact K
      · have e : smF (fun k => if cn A k = 0 then 0 else 1) (k + 1) = smF (fun k => if cn A k = 0 then 0 else 1) k + 1 := by show _ + (if cn A k = 0 then (0 : Int32) else 1) = _; rw [if_neg c]
        rw [e] at K
        exact K
  simp only [w_X8_countersUsed_0, w_X8_countersUsed_1, w_X8_countersUsed_2, w_X8_countersUsed_3, w_X8_countersUsed_5, w_X8_countersUsed_6, w_X8_countersUsed_9, w_X8_countersUsed_10, w_X8_countersUsed_13, w_X8_countersUsed_14, w_X8_countersUsed_15, w_X8_countersUsed_18, w_X8_countersUsed_19, w_X8_countersUsed_20, w_X8_countersUsed_23, w_X8_countersUsed_24, w_X8_countersUsed_27, w_X8_countersUsed_28, w_X8_countersUsed_29, w_X8_countersUsed_30, w_X8_countersUsed_33, w_X8_countersUsed_36, w_X8_countersUsed_37, pm_1i_c, pm_2i_c, pm_1l_c, pm_2l_c, pm_1a_c, pm_ia_c, pm_iia_c, pm_va_c, pm_cp_c, pm_k0_c, pm_k1_c, pm_k2_c, pm_k3_c, pm_s1_c, pm_s2_c, pm_s3_c, pm_s4_c, pm_ri_c, pm_ra_c, pm_rn_c, pm_rk_i, pm_rk_z, pm_rk_a, pm_vk_i, pm_vk_z, pm_vk_a, pm_cti, pm_ctr, pm_ldi_z, pm_ldi_s, pm_lda_z, pm_lda_s, pm_cat_n, pm_cat_i, pm_cat_r, pm_cat_l, pm_obj, pm_arr, pm_opt, pm_ird, pm_aln, List.getElem?_cons_zero, List.getElem?_cons_succ, List.set_cons_zero, List.set_cons_succ, List.length_cons, List.length_nil, List.length_set, true_and, and_true, Nat.add_zero, Nat.zero_add, Nat.le_refl, Nat.reduceAdd, Nat.reduceLT, Nat.reduceLeDiff, Nat.zero_le, not_false_eq_true, not_true_eq_false, false_implies, implies_true, true_implies, Nat.zero_lt_succ, Nat.lt_add_one]
  exact loop 1024 0 rfl (by omega)
theorem c_Sketch_countersTogether (H : skA h a A) (d : Nat) : PM (d + 1) 92 [.ref a] h (fun v h' => v = some (.int (smF (cn A) 1024)) ∧ h' = h) := by
  obtain ⟨h1, ⟨fc, h2, h3⟩, -⟩ := H
  refine en_X8_countersTogether rfl ?_
  have loop : ∀ m k, 1024 - k = m → k ≤ 1024 → W_X8_countersTogether d (h.length + 0) 0 (fun v h' => v = some (.int (smF (cn A) 1024)) ∧ h' = h) 4 [some (.ref a), some (.int (smF (cn A) k)), some (.int (nI k))] [] h 0 := by
    intro m
    induction m with
    | zero =>
      intro k hn hk
      have : k = 1024 := by omega
      subst this
      have e1 : ¬ nI 1024 < nI 1024 := by decide
      rw [w_X8_countersTogether_4]
      simp only [w_X8_countersTogether_0, w_X8_countersTogether_1, w_X8_countersTogether_2, w_X8_countersTogether_3, w_X8_countersTogether_5, w_X8_countersTogether_6, w_X8_countersTogether_9, w_X8_countersTogether_10, w_X8_countersTogether_13, w_X8_countersTogether_14, w_X8_countersTogether_15, w_X8_countersTogether_18, w_X8_countersTogether_19, w_X8_countersTogether_20, w_X8_countersTogether_21, w_X8_countersTogether_22, w_X8_countersTogether_25, w_X8_countersTogether_28, w_X8_countersTogether_29, pm_1i_c, pm_2i_c, pm_1l_c, pm_2l_c, pm_1a_c, pm_ia_c, pm_iia_c, pm_va_c, pm_cp_c, pm_k0_c, pm_k1_c, pm_k2_c, pm_k3_c, pm_s1_c, pm_s2_c, pm_s3_c, pm_s4_c, pm_ri_c, pm_ra_c, pm_rn_c, pm_rk_i, pm_rk_z, pm_rk_a, pm_vk_i, pm_vk_z, pm_vk_a, pm_cti, pm_ctr, pm_ldi_z, pm_ldi_s, pm_lda_z, pm_lda_s, pm_cat_n, pm_cat_i, pm_cat_r, pm_cat_l, pm_obj, pm_arr, pm_opt, pm_ird, pm_aln, List.getElem?_cons_zero, List.getElem?_cons_succ, List.set_cons_zero, List.set_cons_succ, List.length_cons, List.length_nil, List.length_set, true_and, and_true, Nat.add_zero, Nat.zero_add, Nat.le_refl, Nat.reduceAdd, Nat.reduceLT, Nat.reduceLeDiff, Nat.zero_le, not_false_eq_true, not_true_eq_false, false_implies, implies_true, true_implies, Nat.zero_lt_succ, Nat.lt_add_one, h1, h2, e1]
    | succ m ih =>
      intro k hn hk
      have e1 : nI k < nI 1024 := nI_lt (by omega) (by omega)
      have e3 : vp_in (nI k) 1024 := vp_in_nI (by omega) (by omega)
      have e4 : (nI k).toNatClampNeg = k := nI_clamp (by omega)
      rw [w_X8_countersTogether_4]
      simp only [w_X8_countersTogether_0, w_X8_countersTogether_1, w_X8_countersTogether_2, w_X8_countersTogether_3, w_X8_countersTogether_5, w_X8_countersTogether_6, w_X8_countersTogether_9, w_X8_countersTogether_10, w_X8_countersTogether_13, w_X8_countersTogether_14, w_X8_countersTogether_15, w_X8_countersTogether_18, w_X8_countersTogether_19, w_X8_countersTogether_20, w_X8_countersTogether_21, w_X8_countersTogether_22, w_X8_countersTogether_25, w_X8_countersTogether_28, w_X8_countersTogether_29, pm_1i_c, pm_2i_c, pm_1l_c, pm_2l_c, pm_1a_c, pm_ia_c, pm_iia_c, pm_va_c, pm_cp_c, pm_k0_c, pm_k1_c, pm_k2_c, pm_k3_c, pm_s1_c, pm_s2_c, pm_s3_c, pm_s4_c, pm_ri_c, pm_ra_c, pm_rn_c, pm_rk_i, pm_rk_z, pm_rk_a, pm_vk_i, pm_vk_z, pm_vk_a, pm_cti, pm_ctr, pm_ldi_z, pm_ldi_s, pm_lda_z, pm_lda_s, pm_cat_n, pm_cat_i, pm_cat_r, pm_cat_l, pm_obj, pm_arr, pm_opt, pm_ird, pm_aln, List.getElem?_cons_zero, List.getElem?_cons_succ, List.set_cons_zero, List.set_cons_succ, List.length_cons, List.length_nil, List.length_set, true_and, and_true, Nat.add_zero, Nat.zero_add, Nat.le_refl, Nat.reduceAdd, Nat.reduceLT, Nat.reduceLeDiff, Nat.zero_le, not_false_eq_true, not_true_eq_false, false_implies, implies_true, true_implies, Nat.zero_lt_succ, Nat.lt_add_one, h1, h2, e1, e3, e4, nI_1, h3 k (by omega)]
      exact ih (k + 1) (by omega) (by omega)
  simp only [w_X8_countersTogether_0, w_X8_countersTogether_1, w_X8_countersTogether_2, w_X8_countersTogether_3, w_X8_countersTogether_5, w_X8_countersTogether_6, w_X8_countersTogether_9, w_X8_countersTogether_10, w_X8_countersTogether_13, w_X8_countersTogether_14, w_X8_countersTogether_15, w_X8_countersTogether_18, w_X8_countersTogether_19, w_X8_countersTogether_20, w_X8_countersTogether_21, w_X8_countersTogether_22, w_X8_countersTogether_25, w_X8_countersTogether_28, w_X8_countersTogether_29, pm_1i_c, pm_2i_c, pm_1l_c, pm_2l_c, pm_1a_c, pm_ia_c, pm_iia_c, pm_va_c, pm_cp_c, pm_k0_c, pm_k1_c, pm_k2_c, pm_k3_c, pm_s1_c, pm_s2_c, pm_s3_c, pm_s4_c, pm_ri_c, pm_ra_c, pm_rn_c, pm_rk_i, pm_rk_z, pm_rk_a, pm_vk_i, pm_vk_z, pm_vk_a, pm_cti, pm_ctr, pm_ldi_z, pm_ldi_s, pm_lda_z, pm_lda_s, pm_cat_n, pm_cat_i, pm_cat_r, pm_cat_l, pm_obj, pm_arr, pm_opt, pm_ird, pm_aln, List.getElem?_cons_zero, List.getElem?_cons_succ, List.set_cons_zero, List.set_cons_succ, List.length_cons, List.length_nil, List.length_set, true_and, and_true, Nat.add_zero, Nat.zero_add, Nat.le_refl, Nat.reduceAdd, Nat.reduceLT, Nat.reduceLeDiff, Nat.zero_le, not_false_eq_true, not_true_eq_false, false_implies, implies_true, true_implies, Nat.zero_lt_succ, Nat.lt_add_one]
  exact loop 1024 0 rfl (by omega)
end SKH
