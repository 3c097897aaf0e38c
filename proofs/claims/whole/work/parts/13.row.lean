/-! Row: a row of numbers; what each method does, on lists. -/
theorem hset_s {l : pmH} {a : Nat} {c : pmC} : (l.set a c)[a]? = (l[a]?).map (fun _ => c) := by
  rw [List.getElem?_set]
  simp only [if_true]
  split
  · rename_i hl
    rw [List.getElem?_eq_getElem hl]
    rfl
  · rename_i hl
    rw [List.getElem?_eq_none (by omega)]
    rfl
theorem hset_n {l : pmH} {a b : Nat} {c : pmC} (h : a ≠ b) : (l.set a c)[b]? = l[b]? := List.getElem?_set_ne h
theorem hset_r1 {l : pmH} {r : Nat} {c : pmC} : (l.set (r + 1) c)[r]? = l[r]? := hset_n (by omega)
theorem hset_r2 {l : pmH} {r : Nat} {c : pmC} : (l.set r c)[r + 1]? = l[r + 1]? := hset_n (by omega)
theorem nI_one : (1 : Int32) = nI 1 := rfl
theorem nI_zero : (0 : Int32) = nI 0 := rfl
def rw_ (h : pmH) (r cap : Nat) (xs : List Int32) : Prop := ∃ f : Nat → Int32, h[r]? = some (.inr (6, [.ref (r + 1), .int (nI xs.length)])) ∧ h[r + 1]? = some (.inl (0, cap, .inl f)) ∧ xs.length ≤ cap ∧ cap ≤ 1000 ∧ ∀ k, k < xs.length → f k = xs.getD k 0
def fr2 (h h' : pmH) (r : Nat) : Prop := ∀ i, i ≠ r → i ≠ r + 1 → h'[i]? = h[i]?
theorem fr2.rf {h : pmH} {r : Nat} : fr2 h h r := fun _ _ _ => rfl
theorem fr2.tr {h h1 h2 : pmH} {r : Nat} (a : fr2 h h1 r) (b : fr2 h1 h2 r) : fr2 h h2 r := fun i x y => (b i x y).trans (a i x y)
theorem rw_.kept {h h' : pmH} {r cap : Nat} {xs : List Int32} (H : rw_ h r cap xs) (e1 : h'[r]? = h[r]?) (e2 : h'[r + 1]? = h[r + 1]?) : rw_ h' r cap xs := by
  obtain ⟨f, h1, h2, h3⟩ := H
  exact ⟨f, by rw [e1]; exact h1, by rw [e2]; exact h2, h3⟩
def rw_get (xs : List Int32) (k : Int32) : Int32 := if k < 0 then -1 else xs.getD k.toNatClampNeg (-1)
theorem rw_getN {xs : List Int32} {j : Nat} (hj : j < 2 ^ 31) : rw_get xs (nI j) = xs.getD j (-1) := by
  unfold rw_get
  rw [if_neg (nI_pos hj), nI_clamp hj]
theorem c_Row_size {h : pmH} {r cap : Nat} {xs : List Int32} (H : rw_ h r cap xs) (d : Nat) : PM (d + 1) 56 [.ref r] h (fun v h' => v = some (.int (nI xs.length)) ∧ h' = h) := by
  obtain ⟨f, h1, h2, h3, h4, h5⟩ := H
  refine en_X6_size rfl ?_
  simp only [w_X6_size_0, w_X6_size_1, w_X6_size_4, pm_1i_c, pm_2i_c, pm_1l_c, pm_2l_c, pm_1a_c, pm_ia_c, pm_iia_c, pm_va_c, pm_cp_c, pm_k0_c, pm_k1_c, pm_k2_c, pm_k3_c, pm_s1_c, pm_s2_c, pm_s3_c, pm_s4_c, pm_ri_c, pm_ra_c, pm_rn_c, pm_rk_i, pm_rk_z, pm_rk_a, pm_vk_i, pm_vk_z, pm_vk_a, pm_cti, pm_ctr, pm_ldi_z, pm_ldi_s, pm_lda_z, pm_lda_s, pm_cat_n, pm_cat_i, pm_cat_r, pm_cat_l, pm_obj, pm_arr, pm_opt, pm_ird, pm_aln, List.getElem?_cons_zero, List.getElem?_cons_succ, List.set_cons_zero, List.set_cons_succ, List.length_cons, List.length_nil, List.length_set, true_and, and_true, Nat.add_zero, Nat.zero_add, Nat.le_refl, Nat.reduceAdd, Nat.reduceLT, Nat.reduceLeDiff, Nat.zero_le, not_false_eq_true, not_true_eq_false, false_implies, implies_true, true_implies, Nat.zero_lt_succ, Nat.lt_add_one, h1]
theorem c_Row_get {h : pmH} {r cap : Nat} {xs : List Int32} (H : rw_ h r cap xs) (k : Int32) (d : Nat) : PM (d + 1) 57 [.ref r, .int k] h (fun v h' => v = some (.int (rw_get xs k)) ∧ h' = h) := by
  obtain ⟨f, h1, h2, h3, h4, h5⟩ := H
  refine en_X6_get rfl rfl ?_
  simp only [w_X6_get_0, w_X6_get_1, w_X6_get_4, w_X6_get_5, w_X6_get_6, w_X6_get_9, w_X6_get_12, w_X6_get_13, w_X6_get_14, w_X6_get_17, w_X6_get_18, w_X6_get_21, w_X6_get_22, w_X6_get_25, w_X6_get_26, w_X6_get_27, w_X6_get_30, w_X6_get_31, pm_1i_c, pm_2i_c, pm_1l_c, pm_2l_c, pm_1a_c, pm_ia_c, pm_iia_c, pm_va_c, pm_cp_c, pm_k0_c, pm_k1_c, pm_k2_c, pm_k3_c, pm_s1_c, pm_s2_c, pm_s3_c, pm_s4_c, pm_ri_c, pm_ra_c, pm_rn_c, pm_rk_i, pm_rk_z, pm_rk_a, pm_vk_i, pm_vk_z, pm_vk_a, pm_cti, pm_ctr, pm_ldi_z, pm_ldi_s, pm_lda_z, pm_lda_s, pm_cat_n, pm_cat_i, pm_cat_r, pm_cat_l, pm_obj, pm_arr, pm_opt, pm_ird, pm_aln, List.getElem?_cons_zero, List.getElem?_cons_succ, List.set_cons_zero, List.set_cons_succ, List.length_cons, List.length_nil, List.length_set, true_and, and_true, Nat.add_zero, Nat.zero_add, Nat.le_refl, Nat.reduceAdd, Nat.reduceLT, Nat.reduceLeDiff, Nat.zero_le, not_false_eq_true, not_true_eq_false, false_implies, implies_true, true_implies, Nat.zero_lt_succ, Nat.lt_add_one, h1, h2]
  refine ⟨fun c1 => by unfold rw_get; rw [if_pos c1], fun c1 => ?_⟩
  obtain ⟨j, hj, rfl⟩ := nI_of c1
  rw [rw_getN hj, nI_ltI hj (by omega), nI_ltI hj (by omega)]
  refine ⟨fun c2 => by rw [List.getD_eq_getElem?_getD, List.getElem?_eq_none (by omega)]; rfl, fun c2 => ⟨fun c3 => by omega, fun c3 => ⟨vp_in_nI c3 (by omega), ?_⟩⟩⟩
  rw [nI_clamp hj, h5 j c2, List.getD_eq_getElem?_getD, List.getD_eq_getElem?_getD, List.getElem?_eq_getElem c2]
  rfl
theorem rw_last (xs : List Int32) (hl : xs.length ≤ 1000) : rw_get xs (nI xs.length - 1) = xs.getLastD (-1) := by
  cases hx : xs.length with
  | zero =>
    rw [List.length_eq_zero_iff] at hx
    subst hx
    rfl
  | succ n =>
    rw [nI_pred, rw_getN (by omega), List.getLastD_eq_getLast?, List.getLast?_eq_getElem?, hx, List.getD_eq_getElem?_getD]
    rfl
theorem c_Row_last {h : pmH} {r cap : Nat} {xs : List Int32} (H : rw_ h r cap xs) (d : Nat) : PM (d + 2) 58 [.ref r] h (fun v h' => v = some (.int (xs.getLastD (-1))) ∧ h' = h) := by
  have H2 := H
  obtain ⟨f, h1, h2, h3, h4, h5⟩ := H
  refine en_X6_last rfl ?_
  simp only [w_X6_last_0, w_X6_last_1, w_X6_last_2, w_X6_last_5, w_X6_last_6, w_X6_last_7, w_X6_last_10, pm_1i_c, pm_2i_c, pm_1l_c, pm_2l_c, pm_1a_c, pm_ia_c, pm_iia_c, pm_va_c, pm_cp_c, pm_k0_c, pm_k1_c, pm_k2_c, pm_k3_c, pm_s1_c, pm_s2_c, pm_s3_c, pm_s4_c, pm_ri_c, pm_ra_c, pm_rn_c, pm_rk_i, pm_rk_z, pm_rk_a, pm_vk_i, pm_vk_z, pm_vk_a, pm_cti, pm_ctr, pm_ldi_z, pm_ldi_s, pm_lda_z, pm_lda_s, pm_cat_n, pm_cat_i, pm_cat_r, pm_cat_l, pm_obj, pm_arr, pm_opt, pm_ird, pm_aln, List.getElem?_cons_zero, List.getElem?_cons_succ, List.set_cons_zero, List.set_cons_succ, List.length_cons, List.length_nil, List.length_set, true_and, and_true, Nat.add_zero, Nat.zero_add, Nat.le_refl, Nat.reduceAdd, Nat.reduceLT, Nat.reduceLeDiff, Nat.zero_le, not_false_eq_true, not_true_eq_false, false_implies, implies_true, true_implies, Nat.zero_lt_succ, Nat.lt_add_one, h1]
  refine PM_use (c_Row_get H2 _ d) ?_
  rintro v h' - ⟨rfl, rfl⟩
  show W_X6_last _ _ _ _ _ _ _ _ _
  simp only [w_X6_last_0, w_X6_last_1, w_X6_last_2, w_X6_last_5, w_X6_last_6, w_X6_last_7, w_X6_last_10, pm_1i_c, pm_2i_c, pm_1l_c, pm_2l_c, pm_1a_c, pm_ia_c, pm_iia_c, pm_va_c, pm_cp_c, pm_k0_c, pm_k1_c, pm_k2_c, pm_k3_c, pm_s1_c, pm_s2_c, pm_s3_c, pm_s4_c, pm_ri_c, pm_ra_c, pm_rn_c, pm_rk_i, pm_rk_z, pm_rk_a, pm_vk_i, pm_vk_z, pm_vk_a, pm_cti, pm_ctr, pm_ldi_z, pm_ldi_s, pm_lda_z, pm_lda_s, pm_cat_n, pm_cat_i, pm_cat_r, pm_cat_l, pm_obj, pm_arr, pm_opt, pm_ird, pm_aln, List.getElem?_cons_zero, List.getElem?_cons_succ, List.set_cons_zero, List.set_cons_succ, List.length_cons, List.length_nil, List.length_set, true_and, and_true, Nat.add_zero, Nat.zero_add, Nat.le_refl, Nat.reduceAdd, Nat.reduceLT, Nat.reduceLeDiff, Nat.zero_le, not_false_eq_true, not_true_eq_false, false_implies, implies_true, true_implies, Nat.zero_lt_succ, Nat.lt_add_one, pm_tl_s, rw_last xs (by omega)]
theorem c_Row_put {h : pmH} {r cap : Nat} {xs : List Int32} (H : rw_ h r cap xs) {j : Nat} (hj : j < xs.length) (x : Int32) (d : Nat) : PM (d + 1) 59 [.ref r, .int (nI j), .int x] h (fun v h' => v = none ∧ rw_ h' r cap (xs.set j x) ∧ fr2 h h' r) := by
  obtain ⟨f, h1, h2, h3, h4, h5⟩ := H
  refine en_X6_put rfl rfl rfl ?_
  have e1 : ¬ nI j < 0 := nI_pos (by omega)
  have e2 : nI j < nI xs.length := nI_lt hj (by omega)
  have e3 : nI j < nI cap := nI_lt (by omega) (by omega)
  have e4 : vp_in (nI j) cap := vp_in_nI (by omega) (by omega)
  simp only [w_X6_put_0, w_X6_put_1, w_X6_put_4, w_X6_put_5, w_X6_put_6, w_X6_put_9, w_X6_put_12, w_X6_put_13, w_X6_put_14, w_X6_put_17, w_X6_put_18, w_X6_put_21, w_X6_put_22, w_X6_put_25, w_X6_put_26, w_X6_put_27, w_X6_put_28, pm_1i_c, pm_2i_c, pm_1l_c, pm_2l_c, pm_1a_c, pm_ia_c, pm_iia_c, pm_va_c, pm_cp_c, pm_k0_c, pm_k1_c, pm_k2_c, pm_k3_c, pm_s1_c, pm_s2_c, pm_s3_c, pm_s4_c, pm_ri_c, pm_ra_c, pm_rn_c, pm_rk_i, pm_rk_z, pm_rk_a, pm_vk_i, pm_vk_z, pm_vk_a, pm_cti, pm_ctr, pm_ldi_z, pm_ldi_s, pm_lda_z, pm_lda_s, pm_cat_n, pm_cat_i, pm_cat_r, pm_cat_l, pm_obj, pm_arr, pm_opt, pm_ird, pm_aln, List.getElem?_cons_zero, List.getElem?_cons_succ, List.set_cons_zero, List.set_cons_succ, List.length_cons, List.length_nil, List.length_set, true_and, and_true, Nat.add_zero, Nat.zero_add, Nat.le_refl, Nat.reduceAdd, Nat.reduceLT, Nat.reduceLeDiff, Nat.zero_le, not_false_eq_true, not_true_eq_false, false_implies, implies_true, true_implies, Nat.zero_lt_succ, Nat.lt_add_one, h1, h2, e1, e2, e3, e4]
  refine ⟨⟨_, by rw [hset_r1]; rw [List.length_set]; exact h1, by rw [hset_s, h2]; rfl, by rw [List.length_set]; exact h3, h4, fun k hk => ?_⟩, fun i a b => hset_n (Ne.symm b)⟩
  rw [List.length_set] at hk
  rw [nI_clamp (by omega)]
  unfold upd
  rw [List.getD_eq_getElem?_getD, List.getElem?_set]
  by_cases e : k = j
  · subst e
    simp [hk]
  · rw [if_neg e, if_neg (Ne.symm e), h5 k hk, List.getD_eq_getElem?_getD]
theorem c_Row_append {h : pmH} {r cap : Nat} {xs : List Int32} (H : rw_ h r cap xs) (x : Int32) (d : Nat) : PM (d + 1) 60 [.ref r, .int x] h (fun v h' => v = none ∧ rw_ h' r cap (if xs.length < cap then xs ++ [x] else xs) ∧ fr2 h h' r) := by
  have H2 := H
  obtain ⟨f, h1, h2, h3, h4, h5⟩ := H
  refine en_X6_append rfl rfl ?_
  have e1 : ¬ nI xs.length < 0 := nI_pos (by omega)
  by_cases hc : xs.length < cap
  · have e2 : nI xs.length < nI cap := nI_lt hc (by omega)
    have e4 : vp_in (nI xs.length) cap := vp_in_nI hc (by omega)
    simp only [w_X6_append_0, w_X6_append_1, w_X6_append_4, w_X6_append_7, w_X6_append_8, w_X6_append_11, w_X6_append_12, w_X6_append_15, w_X6_append_16, w_X6_append_19, w_X6_append_20, w_X6_append_23, w_X6_append_24, w_X6_append_27, w_X6_append_28, w_X6_append_29, w_X6_append_30, w_X6_append_31, w_X6_append_34, w_X6_append_35, w_X6_append_36, w_X6_append_39, pm_1i_c, pm_2i_c, pm_1l_c, pm_2l_c, pm_1a_c, pm_ia_c, pm_iia_c, pm_va_c, pm_cp_c, pm_k0_c, pm_k1_c, pm_k2_c, pm_k3_c, pm_s1_c, pm_s2_c, pm_s3_c, pm_s4_c, pm_ri_c, pm_ra_c, pm_rn_c, pm_rk_i, pm_rk_z, pm_rk_a, pm_vk_i, pm_vk_z, pm_vk_a, pm_cti, pm_ctr, pm_ldi_z, pm_ldi_s, pm_lda_z, pm_lda_s, pm_cat_n, pm_cat_i, pm_cat_r, pm_cat_l, pm_obj, pm_arr, pm_opt, pm_ird, pm_aln, List.getElem?_cons_zero, List.getElem?_cons_succ, List.set_cons_zero, List.set_cons_succ, List.length_cons, List.length_nil, List.length_set, true_and, and_true, Nat.add_zero, Nat.zero_add, Nat.le_refl, Nat.reduceAdd, Nat.reduceLT, Nat.reduceLeDiff, Nat.zero_le, not_false_eq_true, not_true_eq_false, false_implies, implies_true, true_implies, Nat.zero_lt_succ, Nat.lt_add_one, h1, h2, e1, e2, e4, hset_s, hset_r1, hset_r2, Option.map_some, nI_1, if_pos hc]
    refine ⟨⟨_, by rw [hset_s, hset_r1, h1, List.length_append]; rfl, by rw [hset_r2, hset_s, h2]; rfl, by rw [List.length_append]; exact hc, h4, fun k hk => ?_⟩, fun i a b => by rw [hset_n (Ne.symm a), hset_n (Ne.symm b)]⟩
    rw [nI_clamp (by omega)]
    rw [List.length_append] at hk
    unfold upd
    rw [List.getD_eq_getElem?_getD, List.getElem?_append]
    by_cases e : k = xs.length
    · subst e
      simp
    · have : k < xs.length := by simp at hk; omega
      rw [if_neg e, if_pos this, h5 k this, List.getD_eq_getElem?_getD]
  · have e2 : ¬ nI xs.length < nI cap := nI_nlt (by omega) (by omega)
    simp only [w_X6_append_0, w_X6_append_1, w_X6_append_4, w_X6_append_7, w_X6_append_8, w_X6_append_11, w_X6_append_12, w_X6_append_15, w_X6_append_16, w_X6_append_19, w_X6_append_20, w_X6_append_23, w_X6_append_24, w_X6_append_27, w_X6_append_28, w_X6_append_29, w_X6_append_30, w_X6_append_31, w_X6_append_34, w_X6_append_35, w_X6_append_36, w_X6_append_39, pm_1i_c, pm_2i_c, pm_1l_c, pm_2l_c, pm_1a_c, pm_ia_c, pm_iia_c, pm_va_c, pm_cp_c, pm_k0_c, pm_k1_c, pm_k2_c, pm_k3_c, pm_s1_c, pm_s2_c, pm_s3_c, pm_s4_c, pm_ri_c, pm_ra_c, pm_rn_c, pm_rk_i, pm_rk_z, pm_rk_a, pm_vk_i, pm_vk_z, pm_vk_a, pm_cti, pm_ctr, pm_ldi_z, pm_ldi_s, pm_lda_z, pm_lda_s, pm_cat_n, pm_cat_i, pm_cat_r, pm_cat_l, pm_obj, pm_arr, pm_opt, pm_ird, pm_aln, List.getElem?_cons_zero, List.getElem?_cons_succ, List.set_cons_zero, List.set_cons_succ, List.length_cons, List.length_nil, List.length_set, true_and, and_true, Nat.add_zero, Nat.zero_add, Nat.le_refl, Nat.reduceAdd, Nat.reduceLT, Nat.reduceLeDiff, Nat.zero_le, not_false_eq_true, not_true_eq_false, false_implies, implies_true, true_implies, Nat.zero_lt_succ, Nat.lt_add_one, h1, h2, e1, e2, if_neg hc]
    exact ⟨H2, fr2.rf⟩
theorem c_Row_cut {h : pmH} {r cap : Nat} {xs : List Int32} (H : rw_ h r cap xs) (n : Int32) (d : Nat) : PM (d + 1) 65 [.ref r, .int n] h (fun v h' => v = none ∧ rw_ h' r cap (if n < 0 then xs else xs.take n.toNatClampNeg) ∧ fr2 h h' r) := by
  have H2 := H
  obtain ⟨f, h1, h2, h3, h4, h5⟩ := H
  refine en_X6_cut rfl rfl ?_
  simp only [w_X6_cut_0, w_X6_cut_1, w_X6_cut_4, w_X6_cut_5, w_X6_cut_6, w_X6_cut_9, w_X6_cut_12, w_X6_cut_13, w_X6_cut_14, w_X6_cut_17, pm_1i_c, pm_2i_c, pm_1l_c, pm_2l_c, pm_1a_c, pm_ia_c, pm_iia_c, pm_va_c, pm_cp_c, pm_k0_c, pm_k1_c, pm_k2_c, pm_k3_c, pm_s1_c, pm_s2_c, pm_s3_c, pm_s4_c, pm_ri_c, pm_ra_c, pm_rn_c, pm_rk_i, pm_rk_z, pm_rk_a, pm_vk_i, pm_vk_z, pm_vk_a, pm_cti, pm_ctr, pm_ldi_z, pm_ldi_s, pm_lda_z, pm_lda_s, pm_cat_n, pm_cat_i, pm_cat_r, pm_cat_l, pm_obj, pm_arr, pm_opt, pm_ird, pm_aln, List.getElem?_cons_zero, List.getElem?_cons_succ, List.set_cons_zero, List.set_cons_succ, List.length_cons, List.length_nil, List.length_set, true_and, and_true, Nat.add_zero, Nat.zero_add, Nat.le_refl, Nat.reduceAdd, Nat.reduceLT, Nat.reduceLeDiff, Nat.zero_le, not_false_eq_true, not_true_eq_false, false_implies, implies_true, true_implies, Nat.zero_lt_succ, Nat.lt_add_one, h1, h2]
  refine ⟨fun c1 => by rw [if_pos c1]; exact ⟨H2, fr2.rf⟩, fun c1 => ?_⟩
  rw [if_neg c1]
  obtain ⟨j, hj, rfl⟩ := nI_of c1
  rw [nI_ltI hj (by omega), nI_clamp hj]
  refine ⟨fun c2 => by rw [List.take_of_length_le (by omega)]; exact ⟨H2, fr2.rf⟩, fun c2 => ⟨⟨f, ?_, ?_, ?_, h4, fun k hk => ?_⟩, fun i a b => hset_n (Ne.symm a)⟩⟩
  · rw [hset_s, h1, List.length_take, Nat.min_eq_left (by omega)]
    rfl
  · rw [hset_r2, h2]
  · rw [List.length_take]
    omega
  · rw [List.length_take] at hk
    rw [h5 k (by omega), List.getD_eq_getElem?_getD, List.getD_eq_getElem?_getD, List.getElem?_take, if_pos (by omega)]
theorem rw_cutl (xs : List Int32) (hl : xs.length ≤ 1000) : (if nI xs.length - 1 < 0 then xs else xs.take (nI xs.length - 1).toNatClampNeg) = xs.dropLast := by
  cases hx : xs.length with
  | zero =>
    rw [List.length_eq_zero_iff] at hx
    subst hx
    rfl
  | succ n =>
    rw [nI_pred, if_neg (nI_pos (by omega)), nI_clamp (by omega), List.dropLast_eq_take, hx]
    rfl
theorem c_Row_removeLast {h : pmH} {r cap : Nat} {xs : List Int32} (H : rw_ h r cap xs) (d : Nat) : PM (d + 2) 63 [.ref r] h (fun v h' => v = some (.int (xs.getLastD (-1))) ∧ rw_ h' r cap xs.dropLast ∧ fr2 h h' r) := by
  have H2 := H
  obtain ⟨f, h1, h2, h3, h4, h5⟩ := H
  refine en_X6_removeLast rfl ?_
  simp only [w_X6_removeLast_0, w_X6_removeLast_1, w_X6_removeLast_2, w_X6_removeLast_5, w_X6_removeLast_6, w_X6_removeLast_7, w_X6_removeLast_10, w_X6_removeLast_11, w_X6_removeLast_12, w_X6_removeLast_13, w_X6_removeLast_16, w_X6_removeLast_17, w_X6_removeLast_18, w_X6_removeLast_21, w_X6_removeLast_22, pm_1i_c, pm_2i_c, pm_1l_c, pm_2l_c, pm_1a_c, pm_ia_c, pm_iia_c, pm_va_c, pm_cp_c, pm_k0_c, pm_k1_c, pm_k2_c, pm_k3_c, pm_s1_c, pm_s2_c, pm_s3_c, pm_s4_c, pm_ri_c, pm_ra_c, pm_rn_c, pm_rk_i, pm_rk_z, pm_rk_a, pm_vk_i, pm_vk_z, pm_vk_a, pm_cti, pm_ctr, pm_ldi_z, pm_ldi_s, pm_lda_z, pm_lda_s, pm_cat_n, pm_cat_i, pm_cat_r, pm_cat_l, pm_obj, pm_arr, pm_opt, pm_ird, pm_aln, List.getElem?_cons_zero, List.getElem?_cons_succ, List.set_cons_zero, List.set_cons_succ, List.length_cons, List.length_nil, List.length_set, true_and, and_true, Nat.add_zero, Nat.zero_add, Nat.le_refl, Nat.reduceAdd, Nat.reduceLT, Nat.reduceLeDiff, Nat.zero_le, not_false_eq_true, not_true_eq_false, false_implies, implies_true, true_implies, Nat.zero_lt_succ, Nat.lt_add_one, h1]
  refine PM_use (c_Row_get H2 _ d) ?_
  rintro v h' - ⟨rfl, rfl⟩
  show W_X6_removeLast _ _ _ _ _ _ _ _ _
  simp only [w_X6_removeLast_0, w_X6_removeLast_1, w_X6_removeLast_2, w_X6_removeLast_5, w_X6_removeLast_6, w_X6_removeLast_7, w_X6_removeLast_10, w_X6_removeLast_11, w_X6_removeLast_12, w_X6_removeLast_13, w_X6_removeLast_16, w_X6_removeLast_17, w_X6_removeLast_18, w_X6_removeLast_21, w_X6_removeLast_22, pm_1i_c, pm_2i_c, pm_1l_c, pm_2l_c, pm_1a_c, pm_ia_c, pm_iia_c, pm_va_c, pm_cp_c, pm_k0_c, pm_k1_c, pm_k2_c, pm_k3_c, pm_s1_c, pm_s2_c, pm_s3_c, pm_s4_c, pm_ri_c, pm_ra_c, pm_rn_c, pm_rk_i, pm_rk_z, pm_rk_a, pm_vk_i, pm_vk_z, pm_vk_a, pm_cti, pm_ctr, pm_ldi_z, pm_ldi_s, pm_lda_z, pm_lda_s, pm_cat_n, pm_cat_i, pm_cat_r, pm_cat_l, pm_obj, pm_arr, pm_opt, pm_ird, pm_aln, List.getElem?_cons_zero, List.getElem?_cons_succ, List.set_cons_zero, List.set_cons_succ, List.length_cons, List.length_nil, List.length_set, true_and, and_true, Nat.add_zero, Nat.zero_add, Nat.le_refl, Nat.reduceAdd, Nat.reduceLT, Nat.reduceLeDiff, Nat.zero_le, not_false_eq_true, not_true_eq_false, false_implies, implies_true, true_implies, Nat.zero_lt_succ, Nat.lt_add_one, pm_tl_s, rw_last xs (by omega), h1]
  refine PM_use (c_Row_cut H2 _ d) ?_
  rintro v h' hl ⟨rfl, hR, hF⟩
  show W_X6_removeLast _ _ _ _ _ _ _ _ _
  rw [rw_cutl xs (by omega)] at hR
  simp only [w_X6_removeLast_0, w_X6_removeLast_1, w_X6_removeLast_2, w_X6_removeLast_5, w_X6_removeLast_6, w_X6_removeLast_7, w_X6_removeLast_10, w_X6_removeLast_11, w_X6_removeLast_12, w_X6_removeLast_13, w_X6_removeLast_16, w_X6_removeLast_17, w_X6_removeLast_18, w_X6_removeLast_21, w_X6_removeLast_22, pm_1i_c, pm_2i_c, pm_1l_c, pm_2l_c, pm_1a_c, pm_ia_c, pm_iia_c, pm_va_c, pm_cp_c, pm_k0_c, pm_k1_c, pm_k2_c, pm_k3_c, pm_s1_c, pm_s2_c, pm_s3_c, pm_s4_c, pm_ri_c, pm_ra_c, pm_rn_c, pm_rk_i, pm_rk_z, pm_rk_a, pm_vk_i, pm_vk_z, pm_vk_a, pm_cti, pm_ctr, pm_ldi_z, pm_ldi_s, pm_lda_z, pm_lda_s, pm_cat_n, pm_cat_i, pm_cat_r, pm_cat_l, pm_obj, pm_arr, pm_opt, pm_ird, pm_aln, List.getElem?_cons_zero, List.getElem?_cons_succ, List.set_cons_zero, List.set_cons_succ, List.length_cons, List.length_nil, List.length_set, true_and, and_true, Nat.add_zero, Nat.zero_add, Nat.le_refl, Nat.reduceAdd, Nat.reduceLT, Nat.reduceLeDiff, Nat.zero_le, not_false_eq_true, not_true_eq_false, false_implies, implies_true, true_implies, Nat.zero_lt_succ, Nat.lt_add_one, pm_tl_n]
  exact ⟨by simpa using hl, hR, hF⟩
