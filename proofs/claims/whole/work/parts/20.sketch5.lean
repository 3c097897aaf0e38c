/-! Sketch: starting like another, copying another. -/
section SKI
variable {h : pmH} {a b : Nat} {A B : AD}
def strF (B : AD) : AD := uS (uS (uN (uC B (fun _ => 0)) (fun _ => 0)) 0 0) 1 0
theorem c_Sketch_startLike (H : skA h a A) (O : skA h b B) (V : sc B 14 = 0 ∨ sc B 14 = 1) (nd : b + 2 < a ∨ a + 2 < b) (d : Nat) : PM (d + 3) 93 [.ref a, .ref b] h (fun v h' => v = none ∧ skA h' a (strF B) ∧ fr3 h h' a) := by
  have o1 := O.1
  have h1 := H.1
  refine en_X8_startLike rfl rfl ?_
  simp only [w_X8_startLike_0, w_X8_startLike_1, w_X8_startLike_2, w_X8_startLike_5, w_X8_startLike_8, w_X8_startLike_9, w_X8_startLike_10, w_X8_startLike_13, w_X8_startLike_16, w_X8_startLike_17, w_X8_startLike_18, w_X8_startLike_21, w_X8_startLike_24, w_X8_startLike_25, w_X8_startLike_26, w_X8_startLike_29, pm_1i_c, pm_2i_c, pm_1l_c, pm_2l_c, pm_1a_c, pm_ia_c, pm_iia_c, pm_va_c, pm_cp_c, pm_k0_c, pm_k1_c, pm_k2_c, pm_k3_c, pm_s1_c, pm_s2_c, pm_s3_c, pm_s4_c, pm_ri_c, pm_ra_c, pm_rn_c, pm_rk_i, pm_rk_z, pm_rk_a, pm_vk_i, pm_vk_z, pm_vk_a, pm_cti, pm_ctr, pm_ldi_z, pm_ldi_s, pm_lda_z, pm_lda_s, pm_cat_n, pm_cat_i, pm_cat_r, pm_cat_l, pm_obj, pm_arr, pm_opt, pm_ird, pm_aln, List.getElem?_cons_zero, List.getElem?_cons_succ, List.set_cons_zero, List.set_cons_succ, List.length_cons, List.length_nil, List.length_set, true_and, and_true, Nat.add_zero, Nat.zero_add, Nat.le_refl, Nat.reduceAdd, Nat.reduceLT, Nat.reduceLeDiff, Nat.zero_le, not_false_eq_true, not_true_eq_false, false_implies, implies_true, true_implies, Nat.zero_lt_succ, Nat.lt_add_one, o1, h1]
  refine PM_use (c_Sketch_setWide H (sc B 13) d) ?_
  rintro v h2 l2 ⟨rfl, K1, K2⟩
  show W_X8_startLike _ _ _ _ _ _ _ _ _
  have k1 := K1.1
  have k2 : h2[b]? = h[b]? := K2 b (by omega) (by omega) (by omega)
  have hb : ∀ (l : pmH) (c : pmC), (l.set a c)[b]? = l[b]? := fun _ _ => hset_n (by omega)
  simp only [w_X8_startLike_0, w_X8_startLike_1, w_X8_startLike_2, w_X8_startLike_5, w_X8_startLike_8, w_X8_startLike_9, w_X8_startLike_10, w_X8_startLike_13, w_X8_startLike_16, w_X8_startLike_17, w_X8_startLike_18, w_X8_startLike_21, w_X8_startLike_24, w_X8_startLike_25, w_X8_startLike_26, w_X8_startLike_29, pm_1i_c, pm_2i_c, pm_1l_c, pm_2l_c, pm_1a_c, pm_ia_c, pm_iia_c, pm_va_c, pm_cp_c, pm_k0_c, pm_k1_c, pm_k2_c, pm_k3_c, pm_s1_c, pm_s2_c, pm_s3_c, pm_s4_c, pm_ri_c, pm_ra_c, pm_rn_c, pm_rk_i, pm_rk_z, pm_rk_a, pm_vk_i, pm_vk_z, pm_vk_a, pm_cti, pm_ctr, pm_ldi_z, pm_ldi_s, pm_lda_z, pm_lda_s, pm_cat_n, pm_cat_i, pm_cat_r, pm_cat_l, pm_obj, pm_arr, pm_opt, pm_ird, pm_aln, List.getElem?_cons_zero, List.getElem?_cons_succ, List.set_cons_zero, List.set_cons_succ, List.length_cons, List.length_nil, List.length_set, true_and, and_true, Nat.add_zero, Nat.zero_add, Nat.le_refl, Nat.reduceAdd, Nat.reduceLT, Nat.reduceLeDiff, Nat.zero_le, not_false_eq_true, not_true_eq_false, false_implies, implies_true, true_implies, Nat.zero_lt_succ, Nat.lt_add_one, pm_tl_n, k1, k2, o1, l2, hb, hset_s, Option.map_some, List.set_set]
  refine ⟨V, ⟨by rw [hset_s, k1]; rfl, by rw [hset_r2]; exact K1.2.1, by rw [hset_34]; exact K1.2.2⟩, K2.tr (fun i x y z => hset_n (Ne.symm x))⟩
theorem c_Sketch_copyFrom (H : skA h a A) (O : skA h b B) (V : skV B) (nd : b + 2 < a ∨ a + 2 < b) (d : Nat) : PM (d + 1) 94 [.ref a, .ref b] h (fun v h' => v = none ∧ skA h' a B ∧ fr3 h h' a) := by
  obtain ⟨o1, ⟨gc, o2, o3⟩, gn, o4, o5⟩ := O
  obtain ⟨h1, ⟨fc, h2, h3⟩, fn, h4, h5⟩ := H
  have hb : ∀ (l : pmH) (c : pmC), (l.set a c)[b]? = l[b]? := fun _ _ => hset_n (by omega)
  refine en_X8_copyFrom rfl rfl ?_
  have tail : ∀ (hh : pmH) (f g : Nat → Int32) (x2 : Option Value), hh[a]? = h[a]? → hh[a + 1]? = some (.inl (0, 1024, .inl f)) → (∀ j, j < 1024 → f j = cn B j) → hh[a + 2]? = some (.inl (2, 256, .inl g)) → (∀ j, j < 256 → g j = nt B j) → hh.length = h.length → fr3 h hh a → W_X8_copyFrom d (h.length + 0) 0 (fun v h' => v = none ∧ skA h' a B ∧ fr3 h h' a) 76 [some (.ref a), some (.ref b), x2] [] hh 0 := by
    intro hh f g x2 q1 q2 q3 q4 q5 q6 q7
    have qb : hh[b]? = h[b]? := q7 b (by omega) (by omega) (by omega)
    simp only [w_X8_copyFrom_76, w_X8_copyFrom_77, w_X8_copyFrom_78, w_X8_copyFrom_81, w_X8_copyFrom_84, w_X8_copyFrom_85, w_X8_copyFrom_86, w_X8_copyFrom_89, w_X8_copyFrom_92, w_X8_copyFrom_93, w_X8_copyFrom_94, w_X8_copyFrom_97, w_X8_copyFrom_100, w_X8_copyFrom_101, w_X8_copyFrom_102, w_X8_copyFrom_105, w_X8_copyFrom_108, w_X8_copyFrom_109, w_X8_copyFrom_110, w_X8_copyFrom_113, w_X8_copyFrom_116, pm_1i_c, pm_2i_c, pm_1l_c, pm_2l_c, pm_1a_c, pm_ia_c, pm_iia_c, pm_va_c, pm_cp_c, pm_k0_c, pm_k1_c, pm_k2_c, pm_k3_c, pm_s1_c, pm_s2_c, pm_s3_c, pm_s4_c, pm_ri_c, pm_ra_c, pm_rn_c, pm_rk_i, pm_rk_z, pm_rk_a, pm_vk_i, pm_vk_z, pm_vk_a, pm_cti, pm_ctr, pm_ldi_z, pm_ldi_s, pm_lda_z, pm_lda_s, pm_cat_n, pm_cat_i, pm_cat_r, pm_cat_l, pm_obj, pm_arr, pm_opt, pm_ird, pm_aln, List.getElem?_cons_zero, List.getElem?_cons_succ, List.set_cons_zero, List.set_cons_succ, List.length_cons, List.length_nil, List.length_set, true_and, and_true, Nat.add_zero, Nat.zero_add, Nat.le_refl, Nat.reduceAdd, Nat.reduceLT, Nat.reduceLeDiff, Nat.zero_le, not_false_eq_true, not_true_eq_false, false_implies, implies_true, true_implies, Nat.zero_lt_succ, Nat.lt_add_one, q1, h1, qb, o1, hb, hset_s, Option.map_some, List.set_set, q6]
    refine ⟨V.2.1, ⟨by rw [hset_s, q1, h1]; rfl, ⟨f, by rw [hset_r2]; exact q2, q3⟩, g, by rw [hset_34]; exact q4, q5⟩, q7.tr (fun i x y z => hset_n (Ne.symm x))⟩
  have loop2 : ∀ n k, 256 - k = n → k ≤ 256 → ∀ (hh : pmH) (f g : Nat → Int32), hh[a]? = h[a]? → hh[a + 1]? = some (.inl (0, 1024, .inl f)) → (∀ j, j < 1024 → f j = cn B j) → hh[a + 2]? = some (.inl (2, 256, .inl g)) → (∀ j, j < k → g j = nt B j) → hh.length = h.length → fr3 h hh a → W_X8_copyFrom d (h.length + 0) 0 (fun v h' => v = none ∧ skA h' a B ∧ fr3 h h' a) 40 [some (.ref a), some (.ref b), some (.int (nI k))] [] hh 0 := by
    intro n
    induction n with
    | zero =>
      intro k hn hk hh f g q1 q2 q3 q4 q5 q6 q7
      have : k = 256 := by omega
      subst this
      have e1 : ¬ nI 256 < nI 256 := by decide
      rw [w_X8_copyFrom_40]
      simp only [w_X8_copyFrom_41, w_X8_copyFrom_42, w_X8_copyFrom_45, w_X8_copyFrom_46, pm_1i_c, pm_2i_c, pm_1l_c, pm_2l_c, pm_1a_c, pm_ia_c, pm_iia_c, pm_va_c, pm_cp_c, pm_k0_c, pm_k1_c, pm_k2_c, pm_k3_c, pm_s1_c, pm_s2_c, pm_s3_c, pm_s4_c, pm_ri_c, pm_ra_c, pm_rn_c, pm_rk_i, pm_rk_z, pm_rk_a, pm_vk_i, pm_vk_z, pm_vk_a, pm_cti, pm_ctr, pm_ldi_z, pm_ldi_s, pm_lda_z, pm_lda_s, pm_cat_n, pm_cat_i, pm_cat_r, pm_cat_l, pm_obj, pm_arr, pm_opt, pm_ird, pm_aln, List.getElem?_cons_zero, List.getElem?_cons_succ, List.set_cons_zero, List.set_cons_succ, List.length_cons, List.length_nil, List.length_set, true_and, and_true, Nat.add_zero, Nat.zero_add, Nat.le_refl, Nat.reduceAdd, Nat.reduceLT, Nat.reduceLeDiff, Nat.zero_le, not_false_eq_true, not_true_eq_false, false_implies, implies_true, true_implies, Nat.zero_lt_succ, Nat.lt_add_one, q1, h1, q4, e1]
      exact tail hh f g _ q1 q2 q3 q4 q5 q6 q7
    | succ n ih =>
      intro k hn hk hh f g q1 q2 q3 q4 q5 q6 q7
      have qb : hh[b]? = h[b]? := q7 b (by omega) (by omega) (by omega)
      have qn : hh[b + 2]? = h[b + 2]? := q7 _ (by omega) (by omega) (by omega)
      have e1 : nI k < nI 256 := nI_lt (by omega) (by omega)
      have e3 : vp_in (nI k) 256 := vp_in_nI (by omega) (by omega)
      have e4 : (nI k).toNatClampNeg = k := nI_clamp (by omega)
      have e5 : vp_nar .boolean (nt B k) = nt B k := by rcases V.2.2 k (by omega) with z | z <;> rw [z] <;> decide
      rw [w_X8_copyFrom_40]
      simp only [w_X8_copyFrom_41, w_X8_copyFrom_42, w_X8_copyFrom_45, w_X8_copyFrom_46, w_X8_copyFrom_49, w_X8_copyFrom_50, w_X8_copyFrom_51, w_X8_copyFrom_54, w_X8_copyFrom_55, w_X8_copyFrom_58, w_X8_copyFrom_59, w_X8_copyFrom_62, w_X8_copyFrom_63, w_X8_copyFrom_64, w_X8_copyFrom_67, w_X8_copyFrom_68, w_X8_copyFrom_69, w_X8_copyFrom_70, w_X8_copyFrom_73, pm_1i_c, pm_2i_c, pm_1l_c, pm_2l_c, pm_1a_c, pm_ia_c, pm_iia_c, pm_va_c, pm_cp_c, pm_k0_c, pm_k1_c, pm_k2_c, pm_k3_c, pm_s1_c, pm_s2_c, pm_s3_c, pm_s4_c, pm_ri_c, pm_ra_c, pm_rn_c, pm_rk_i, pm_rk_z, pm_rk_a, pm_vk_i, pm_vk_z, pm_vk_a, pm_cti, pm_ctr, pm_ldi_z, pm_ldi_s, pm_lda_z, pm_lda_s, pm_cat_n, pm_cat_i, pm_cat_r, pm_cat_l, pm_obj, pm_arr, pm_opt, pm_ird, pm_aln, List.getElem?_cons_zero, List.getElem?_cons_succ, List.set_cons_zero, List.set_cons_succ, List.length_cons, List.length_nil, List.length_set, true_and, and_true, Nat.add_zero, Nat.zero_add, Nat.le_refl, Nat.reduceAdd, Nat.reduceLT, Nat.reduceLeDiff, Nat.zero_le, not_false_eq_true, not_true_eq_false, false_implies, implies_true, true_implies, Nat.zero_lt_succ, Nat.lt_add_one, q1, h1, q4, qb, o1, qn, o4, e1, e3, e4, nI_1, o5 k (by omega)]
      refine ⟨Or.inr trivial, Or.inr trivial, ih (k + 1) (by omega) (by omega) _ f _ (by rw [hset_31]; exact q1) (by rw [hset_32]; exact q2) q3 (by rw [hset_s, q4]; rfl) (fun j hj => ?_) (by rw [List.length_set]; exact q6) (q7.tr (fun i x y z => hset_n (Ne.symm z)))⟩
      show upd g k _ j = _
      unfold upd
      split
      · rename_i c
        rw [c]
        exact e5
      · exact q5 j (by omega)
  have loop1 : ∀ n k, 1024 - k = n → k ≤ 1024 → ∀ (hh : pmH) (f : Nat → Int32), hh[a]? = h[a]? → hh[a + 1]? = some (.inl (0, 1024, .inl f)) → (∀ j, j < k → f j = cn B j) → hh[a + 2]? = h[a + 2]? → hh.length = h.length → fr3 h hh a → W_X8_copyFrom d (h.length + 0) 0 (fun v h' => v = none ∧ skA h' a B ∧ fr3 h h' a) 2 [some (.ref a), some (.ref b), some (.int (nI k))] [] hh 0 := by
    intro n
    induction n with
    | zero =>
      intro k hn hk hh f q1 q2 q3 q4 q6 q7
      have : k = 1024 := by omega
      subst this
      have e1 : ¬ nI 1024 < nI 1024 := by decide
      rw [w_X8_copyFrom_2]
      simp only [w_X8_copyFrom_3, w_X8_copyFrom_4, w_X8_copyFrom_7, w_X8_copyFrom_8, w_X8_copyFrom_11, w_X8_copyFrom_12, w_X8_copyFrom_13, w_X8_copyFrom_16, w_X8_copyFrom_17, w_X8_copyFrom_20, w_X8_copyFrom_21, w_X8_copyFrom_24, w_X8_copyFrom_25, w_X8_copyFrom_26, w_X8_copyFrom_29, w_X8_copyFrom_30, w_X8_copyFrom_31, w_X8_copyFrom_32, w_X8_copyFrom_35, w_X8_copyFrom_38, w_X8_copyFrom_39, pm_1i_c, pm_2i_c, pm_1l_c, pm_2l_c, pm_1a_c, pm_ia_c, pm_iia_c, pm_va_c, pm_cp_c, pm_k0_c, pm_k1_c, pm_k2_c, pm_k3_c, pm_s1_c, pm_s2_c, pm_s3_c, pm_s4_c, pm_ri_c, pm_ra_c, pm_rn_c, pm_rk_i, pm_rk_z, pm_rk_a, pm_vk_i, pm_vk_z, pm_vk_a, pm_cti, pm_ctr, pm_ldi_z, pm_ldi_s, pm_lda_z, pm_lda_s, pm_cat_n, pm_cat_i, pm_cat_r, pm_cat_l, pm_obj, pm_arr, pm_opt, pm_ird, pm_aln, List.getElem?_cons_zero, List.getElem?_cons_succ, List.set_cons_zero, List.set_cons_succ, List.length_cons, List.length_nil, List.length_set, true_and, and_true, Nat.add_zero, Nat.zero_add, Nat.le_refl, Nat.reduceAdd, Nat.reduceLT, Nat.reduceLeDiff, Nat.zero_le, not_false_eq_true, not_true_eq_false, false_implies, implies_true, true_implies, Nat.zero_lt_succ, Nat.lt_add_one, q1, h1, q2, e1]
      exact loop2 256 0 rfl (by omega) hh f fn q1 q2 q3 (by rw [q4]; exact h4) (fun j hj => by omega) q6 q7
    | succ n ih =>
      intro k hn hk hh f q1 q2 q3 q4 q6 q7
      have qb : hh[b]? = h[b]? := q7 b (by omega) (by omega) (by omega)
      have qn : hh[b + 1]? = h[b + 1]? := q7 _ (by omega) (by omega) (by omega)
      have e1 : nI k < nI 1024 := nI_lt (by omega) (by omega)
      have e3 : vp_in (nI k) 1024 := vp_in_nI (by omega) (by omega)
      have e4 : (nI k).toNatClampNeg = k := nI_clamp (by omega)
      rw [w_X8_copyFrom_2]
      simp only [w_X8_copyFrom_3, w_X8_copyFrom_4, w_X8_copyFrom_7, w_X8_copyFrom_8, w_X8_copyFrom_11, w_X8_copyFrom_12, w_X8_copyFrom_13, w_X8_copyFrom_16, w_X8_copyFrom_17, w_X8_copyFrom_20, w_X8_copyFrom_21, w_X8_copyFrom_24, w_X8_copyFrom_25, w_X8_copyFrom_26, w_X8_copyFrom_29, w_X8_copyFrom_30, w_X8_copyFrom_31, w_X8_copyFrom_32, w_X8_copyFrom_35, pm_1i_c, pm_2i_c, pm_1l_c, pm_2l_c, pm_1a_c, pm_ia_c, pm_iia_c, pm_va_c, pm_cp_c, pm_k0_c, pm_k1_c, pm_k2_c, pm_k3_c, pm_s1_c, pm_s2_c, pm_s3_c, pm_s4_c, pm_ri_c, pm_ra_c, pm_rn_c, pm_rk_i, pm_rk_z, pm_rk_a, pm_vk_i, pm_vk_z, pm_vk_a, pm_cti, pm_ctr, pm_ldi_z, pm_ldi_s, pm_lda_z, pm_lda_s, pm_cat_n, pm_cat_i, pm_cat_r, pm_cat_l, pm_obj, pm_arr, pm_opt, pm_ird, pm_aln, List.getElem?_cons_zero, List.getElem?_cons_succ, List.set_cons_zero, List.set_cons_succ, List.length_cons, List.length_nil, List.length_set, true_and, and_true, Nat.add_zero, Nat.zero_add, Nat.le_refl, Nat.reduceAdd, Nat.reduceLT, Nat.reduceLeDiff, Nat.zero_le, not_false_eq_true, not_true_eq_false, false_implies, implies_true, true_implies, Nat.zero_lt_succ, Nat.lt_add_one, q1, h1, q2, qb, o1, qn, o2, e1, e3, e4, nI_1, o3 k (by omega)]
      refine ih (k + 1) (by omega) (by omega) _ _ (by rw [hset_r1]; exact q1) (by rw [hset_s, q2]; rfl) (fun j hj => ?_) (by rw [hset_33]; exact q4) (by rw [List.length_set]; exact q6) (q7.tr (fun i x y z => hset_n (Ne.symm y)))
      show upd f k _ j = _
      unfold upd
      split
      · rename_i c
        rw [c]
      · exact q3 j (by omega)
  simp only [w_X8_copyFrom_0, w_X8_copyFrom_1, pm_1i_c, pm_2i_c, pm_1l_c, pm_2l_c, pm_1a_c, pm_ia_c, pm_iia_c, pm_va_c, pm_cp_c, pm_k0_c, pm_k1_c, pm_k2_c, pm_k3_c, pm_s1_c, pm_s2_c, pm_s3_c, pm_s4_c, pm_ri_c, pm_ra_c, pm_rn_c, pm_rk_i, pm_rk_z, pm_rk_a, pm_vk_i, pm_vk_z, pm_vk_a, pm_cti, pm_ctr, pm_ldi_z, pm_ldi_s, pm_lda_z, pm_lda_s, pm_cat_n, pm_cat_i, pm_cat_r, pm_cat_l, pm_obj, pm_arr, pm_opt, pm_ird, pm_aln, List.getElem?_cons_zero, List.getElem?_cons_succ, List.set_cons_zero, List.set_cons_succ, List.length_cons, List.length_nil, List.length_set, true_and, and_true, Nat.add_zero, Nat.zero_add, Nat.le_refl, Nat.reduceAdd, Nat.reduceLT, Nat.reduceLeDiff, Nat.zero_le, not_false_eq_true, not_true_eq_false, false_implies, implies_true, true_implies, Nat.zero_lt_succ, Nat.lt_add_one]
  exact loop1 1024 0 rfl (by omega) h fc rfl h2 (fun j hj => by omega) rfl rfl fr3.rf
end SKI
