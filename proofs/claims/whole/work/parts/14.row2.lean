/-! Row: insert, removeAt, find, copyFrom, its constructor. -/
def rw_ins (xs : List Int32) (j : Nat) (x : Int32) (cap : Nat) : List Int32 := (xs.take j ++ x :: xs.drop j).take cap
theorem rw_ins_at {f : Nat → Int32} {xs : List Int32} {j top : Nat} {x : Int32} (hf : ∀ k, k < xs.length → f k = xs.getD k 0) (hj : j ≤ top) (ht : top ≤ xs.length) {g : Nat → Int32} (hg : ∀ k, k < top + 1 → g k = if k < j then f k else if k = j then x else f (k - 1)) : ∀ k, k < top + 1 → g k = ((xs.take j ++ x :: xs.drop j).take (top + 1)).getD k 0 := by
  intro k hk
  rw [hg k hk, List.getD_eq_getElem?_getD, List.getElem?_take, if_pos hk, List.getElem?_append, List.length_take, Nat.min_eq_left (by omega)]
  by_cases h1 : k < j
  · rw [if_pos h1, if_pos h1, List.getElem?_take, if_pos h1, hf k (by omega), List.getD_eq_getElem?_getD]
  · rw [if_neg h1, if_neg h1]
    by_cases h2 : k = j
    · subst h2
      simp
    · rw [if_neg h2]
      obtain ⟨i, hi⟩ : ∃ i, k = j + 1 + i := ⟨k - (j + 1), by omega⟩
      subst hi
      rw [show j + 1 + i - j = i + 1 by omega, List.getElem?_cons_succ, List.getElem?_drop, show j + 1 + i - 1 = j + i by omega, hf (j + i) (by omega), List.getD_eq_getElem?_getD]
theorem rw_ins_len {xs : List Int32} {j cap top : Nat} {x : Int32} (hj : j ≤ xs.length) (ht : top + 1 = min cap (xs.length + 1)) : rw_ins xs j x cap = (xs.take j ++ x :: xs.drop j).take (top + 1) ∧ (rw_ins xs j x cap).length = top + 1 := by
  have hl : (xs.take j ++ x :: xs.drop j).length = xs.length + 1 := by
    rw [List.length_append, List.length_take, List.length_cons, List.length_drop]
    omega
  unfold rw_ins
  refine ⟨?_, by rw [List.length_take, hl]; omega⟩
  rcases Nat.le_total cap (xs.length + 1) with h | h
  · rw [ht, Nat.min_eq_left h]
  · rw [ht, Nat.min_eq_right h]
    exact (List.take_of_length_le (by rw [hl]; omega)).trans (List.take_of_length_le (by rw [hl]; omega)).symm
theorem rw_mk {h : pmH} {r cap n : Nat} {xs : List Int32} {f : Nat → Int32} (h1 : h[r]? = some (.inr (6, [.ref (r + 1), .int (nI n)]))) (h2 : h[r + 1]? = some (.inl (0, cap, .inl f))) (hn : xs.length = n) (h3 : n ≤ cap) (h4 : cap ≤ 1000) (h5 : ∀ k, k < n → f k = xs.getD k 0) : rw_ h r cap xs := by
  subst hn
  exact ⟨f, h1, h2, h3, h4, h5⟩
set_option maxHeartbeats 1000000 in
theorem c_Row_insert {h : pmH} {r cap : Nat} {xs : List Int32} (H : rw_ h r cap xs) {j : Nat} (hj : j ≤ xs.length) (hjc : j < cap) (x : Int32) (d : Nat) : PM (d + 1) 61 [.ref r, .int (nI j), .int x] h (fun v h' => v = none ∧ rw_ h' r cap (rw_ins xs j x cap) ∧ fr2 h h' r) := by
  obtain ⟨f, h1, h2, h3, h4, h5⟩ := H
  refine en_X6_insert rfl rfl rfl ?_
  have e1 : ¬ nI j < 0 := nI_pos (by omega)
  have e2 : ¬ nI xs.length < nI j := nI_nlt (by omega) (by omega)
  have e3 : nI j < nI cap := nI_lt (by omega) (by omega)
  have e4 : vp_in (nI j) cap := vp_in_nI (by omega) (by omega)
  have key : ∀ top : Nat, top + 1 = min cap (xs.length + 1) → ∀ g : Nat → Int32, (∀ k, k < top + 1 → g k = if k < j then f k else if k = j then x else f (k - 1)) → ∀ h' : pmH, h'[r]? = some (.inr (6, [.ref (r + 1), .int (nI (top + 1))])) → h'[r + 1]? = some (.inl (0, cap, .inl g)) → rw_ h' r cap (rw_ins xs j x cap) := by
    intro top ht g hg h' q1 q2
    obtain ⟨z1, z2⟩ := rw_ins_len (x := x) hj ht
    refine rw_mk q1 q2 z2 (by omega) h4 ?_
    rw [z1]
    exact rw_ins_at h5 (by omega) (by omega) hg
  have fin : ∀ top : Nat, top + 1 = min cap (xs.length + 1) → (¬ nI j < nI top → rw_ ((h.set (r + 1) (.inl (0, cap, .inl (upd f j x)))).set r (.inr (6, [.ref (r + 1), .int (nI (top + 1))]))) r cap (rw_ins xs j x cap)) ∧ (nI j < nI top → rw_ (((h.set (r + 1) (.inl (0, cap, .inl (va_cpy f f j (j + 1) (top - j))))).set (r + 1) (.inl (0, cap, .inl (upd (va_cpy f f j (j + 1) (top - j)) j x)))).set r (.inr (6, [.ref (r + 1), .int (nI (top + 1))]))) r cap (rw_ins xs j x cap)) := by
    intro top ht
    constructor
    · intro c
      have hjt : ¬ j < top := fun z => c (nI_lt z (by omega))
      refine key top ht (upd f j x) (fun k hk => ?_) _ (by rw [hset_s, hset_r1, h1]; rfl) (by rw [hset_r2, hset_s, h2]; rfl)
      unfold upd
      by_cases c1 : k = j
      · subst c1
        simp
      · rw [if_neg c1, if_pos (by omega)]
    · intro c
      have hjt : j < top := by rwa [nI_ltI (by omega) (by omega)] at c
      refine key top ht _ (fun k hk => ?_) _ (by rw [hset_s, hset_r1, hset_r1, h1]; rfl) (by rw [hset_r2, hset_s, hset_s, h2]; rfl)
      unfold upd va_cpy
      by_cases c1 : k = j
      · subst c1
        simp
      · rw [if_neg c1]
        by_cases c2 : k < j
        · rw [if_neg (by omega), if_pos c2]
        · rw [if_pos (by omega), if_neg c2, if_neg c1]
          congr 1
          omega
  have e5 : ¬ (nI j + 1) < 0 := by rw [nI_1]; exact nI_pos (by omega)
  have e6 : (nI j + 1).toNatClampNeg = j + 1 := by rw [nI_1]; exact nI_clamp (by omega)
  have e7 : (nI j).toNatClampNeg = j := nI_clamp (by omega)
  have e8 : ∀ top, j ≤ top → top ≤ 1000 → (¬ nI top - nI j < 0) ∧ (nI top - nI j).toNatClampNeg = top - j := fun top a b => by
    rw [pk_sub a]
    exact ⟨nI_pos (by omega), nI_clamp (by omega)⟩
  by_cases hc : xs.length < cap
  · have c1 : nI xs.length < nI cap := nI_lt hc (by omega)
    obtain ⟨q1, q2⟩ := e8 xs.length hj (by omega)
    simp only [w_X6_insert_0, w_X6_insert_1, w_X6_insert_4, w_X6_insert_5, w_X6_insert_6, w_X6_insert_9, w_X6_insert_12, w_X6_insert_13, w_X6_insert_14, w_X6_insert_17, w_X6_insert_18, w_X6_insert_21, w_X6_insert_22, w_X6_insert_23, w_X6_insert_26, w_X6_insert_27, w_X6_insert_30, w_X6_insert_31, w_X6_insert_34, w_X6_insert_35, w_X6_insert_38, w_X6_insert_41, w_X6_insert_42, w_X6_insert_45, w_X6_insert_46, w_X6_insert_47, w_X6_insert_48, w_X6_insert_49, w_X6_insert_50, w_X6_insert_51, w_X6_insert_54, w_X6_insert_55, w_X6_insert_58, w_X6_insert_59, w_X6_insert_60, w_X6_insert_63, w_X6_insert_64, w_X6_insert_65, w_X6_insert_66, w_X6_insert_67, w_X6_insert_68, w_X6_insert_69, w_X6_insert_72, w_X6_insert_73, w_X6_insert_76, w_X6_insert_77, w_X6_insert_78, w_X6_insert_79, w_X6_insert_80, w_X6_insert_81, w_X6_insert_82, w_X6_insert_83, w_X6_insert_86, pm_1i_c, pm_2i_c, pm_1l_c, pm_2l_c, pm_1a_c, pm_ia_c, pm_iia_c, pm_va_c, pm_cp_c, pm_k0_c, pm_k1_c, pm_k2_c, pm_k3_c, pm_s1_c, pm_s2_c, pm_s3_c, pm_s4_c, pm_ri_c, pm_ra_c, pm_rn_c, pm_rk_i, pm_rk_z, pm_rk_a, pm_vk_i, pm_vk_z, pm_vk_a, pm_cti, pm_ctr, pm_ldi_z, pm_ldi_s, pm_lda_z, pm_lda_s, pm_cat_n, pm_cat_i, pm_cat_r, pm_cat_l, pm_obj, pm_arr, pm_opt, pm_ird, pm_aln, List.getElem?_cons_zero, List.getElem?_cons_succ, List.set_cons_zero, List.set_cons_succ, List.length_cons, List.length_nil, List.length_set, true_and, and_true, Nat.add_zero, Nat.zero_add, Nat.le_refl, Nat.reduceAdd, Nat.reduceLT, Nat.reduceLeDiff, Nat.zero_le, not_false_eq_true, not_true_eq_false, false_implies, implies_true, true_implies, Nat.zero_lt_succ, Nat.lt_add_one, h1, h2, e1, e2, e3, e4, c1, hset_s, hset_r1, hset_r2, Option.map_some, e5, e6, e7, q1, q2]
    obtain ⟨k1, k2⟩ := fin xs.length (by omega)
    rw [nI_1]
    refine ⟨fun c => ⟨k1 c, fun i a b => by rw [hset_n (Ne.symm a), hset_n (Ne.symm b)]⟩, fun c => ⟨by omega, by omega, k2 c, fun i a b => by rw [hset_n (Ne.symm a), hset_n (Ne.symm b), hset_n (Ne.symm b)]⟩⟩
  · have c1 : ¬ nI xs.length < nI cap := nI_nlt (by omega) (by omega)
    have hcap : nI cap - 1 = nI (cap - 1) := by rw [nI_one, pk_sub (by omega)]
    obtain ⟨q1, q2⟩ := e8 (cap - 1) (by omega) (by omega)
    simp only [w_X6_insert_0, w_X6_insert_1, w_X6_insert_4, w_X6_insert_5, w_X6_insert_6, w_X6_insert_9, w_X6_insert_12, w_X6_insert_13, w_X6_insert_14, w_X6_insert_17, w_X6_insert_18, w_X6_insert_21, w_X6_insert_22, w_X6_insert_23, w_X6_insert_26, w_X6_insert_27, w_X6_insert_30, w_X6_insert_31, w_X6_insert_34, w_X6_insert_35, w_X6_insert_38, w_X6_insert_41, w_X6_insert_42, w_X6_insert_45, w_X6_insert_46, w_X6_insert_47, w_X6_insert_48, w_X6_insert_49, w_X6_insert_50, w_X6_insert_51, w_X6_insert_54, w_X6_insert_55, w_X6_insert_58, w_X6_insert_59, w_X6_insert_60, w_X6_insert_63, w_X6_insert_64, w_X6_insert_65, w_X6_insert_66, w_X6_insert_67, w_X6_insert_68, w_X6_insert_69, w_X6_insert_72, w_X6_insert_73, w_X6_insert_76, w_X6_insert_77, w_X6_insert_78, w_X6_insert_79, w_X6_insert_80, w_X6_insert_81, w_X6_insert_82, w_X6_insert_83, w_X6_insert_86, pm_1i_c, pm_2i_c, pm_1l_c, pm_2l_c, pm_1a_c, pm_ia_c, pm_iia_c, pm_va_c, pm_cp_c, pm_k0_c, pm_k1_c, pm_k2_c, pm_k3_c, pm_s1_c, pm_s2_c, pm_s3_c, pm_s4_c, pm_ri_c, pm_ra_c, pm_rn_c, pm_rk_i, pm_rk_z, pm_rk_a, pm_vk_i, pm_vk_z, pm_vk_a, pm_cti, pm_ctr, pm_ldi_z, pm_ldi_s, pm_lda_z, pm_lda_s, pm_cat_n, pm_cat_i, pm_cat_r, pm_cat_l, pm_obj, pm_arr, pm_opt, pm_ird, pm_aln, List.getElem?_cons_zero, List.getElem?_cons_succ, List.set_cons_zero, List.set_cons_succ, List.length_cons, List.length_nil, List.length_set, true_and, and_true, Nat.add_zero, Nat.zero_add, Nat.le_refl, Nat.reduceAdd, Nat.reduceLT, Nat.reduceLeDiff, Nat.zero_le, not_false_eq_true, not_true_eq_false, false_implies, implies_true, true_implies, Nat.zero_lt_succ, Nat.lt_add_one, h1, h2, e1, e2, e3, e4, c1, hset_s, hset_r1, hset_r2, Option.map_some, e5, e6, e7, hcap, q1, q2]
    obtain ⟨k1, k2⟩ := fin (cap - 1) (by omega)
    rw [nI_1]
    refine ⟨fun c => ⟨k1 c, fun i a b => by rw [hset_n (Ne.symm a), hset_n (Ne.symm b)]⟩, fun c => ⟨by omega, by omega, k2 c, fun i a b => by rw [hset_n (Ne.symm a), hset_n (Ne.symm b), hset_n (Ne.symm b)]⟩⟩
set_option maxHeartbeats 1000000 in
theorem c_Row_removeAt {h : pmH} {r cap : Nat} {xs : List Int32} (H : rw_ h r cap xs) (k : Int32) (d : Nat) : PM (d + 1) 62 [.ref r, .int k] h (fun v h' => v = some (.int (rw_get xs k)) ∧ rw_ h' r cap (if k < 0 then xs else xs.eraseIdx k.toNatClampNeg) ∧ fr2 h h' r) := by
  have H2 := H
  obtain ⟨f, h1, h2, h3, h4, h5⟩ := H
  refine en_X6_removeAt rfl rfl ?_
  by_cases c1 : k < 0
  · simp only [w_X6_removeAt_0, w_X6_removeAt_1, w_X6_removeAt_4, w_X6_removeAt_5, w_X6_removeAt_6, w_X6_removeAt_9, w_X6_removeAt_12, w_X6_removeAt_13, w_X6_removeAt_16, w_X6_removeAt_17, w_X6_removeAt_20, w_X6_removeAt_21, w_X6_removeAt_24, w_X6_removeAt_25, w_X6_removeAt_26, w_X6_removeAt_27, w_X6_removeAt_30, w_X6_removeAt_31, w_X6_removeAt_32, w_X6_removeAt_33, w_X6_removeAt_34, w_X6_removeAt_35, w_X6_removeAt_36, w_X6_removeAt_37, w_X6_removeAt_40, w_X6_removeAt_43, w_X6_removeAt_44, w_X6_removeAt_47, w_X6_removeAt_48, w_X6_removeAt_49, w_X6_removeAt_50, w_X6_removeAt_51, w_X6_removeAt_54, w_X6_removeAt_55, w_X6_removeAt_56, w_X6_removeAt_59, w_X6_removeAt_60, w_X6_removeAt_61, w_X6_removeAt_62, w_X6_removeAt_63, w_X6_removeAt_66, w_X6_removeAt_67, w_X6_removeAt_68, w_X6_removeAt_71, w_X6_removeAt_72, w_X6_removeAt_73, w_X6_removeAt_76, w_X6_removeAt_77, pm_1i_c, pm_2i_c, pm_1l_c, pm_2l_c, pm_1a_c, pm_ia_c, pm_iia_c, pm_va_c, pm_cp_c, pm_k0_c, pm_k1_c, pm_k2_c, pm_k3_c, pm_s1_c, pm_s2_c, pm_s3_c, pm_s4_c, pm_ri_c, pm_ra_c, pm_rn_c, pm_rk_i, pm_rk_z, pm_rk_a, pm_vk_i, pm_vk_z, pm_vk_a, pm_cti, pm_ctr, pm_ldi_z, pm_ldi_s, pm_lda_z, pm_lda_s, pm_cat_n, pm_cat_i, pm_cat_r, pm_cat_l, pm_obj, pm_arr, pm_opt, pm_ird, pm_aln, List.getElem?_cons_zero, List.getElem?_cons_succ, List.set_cons_zero, List.set_cons_succ, List.length_cons, List.length_nil, List.length_set, true_and, and_true, Nat.add_zero, Nat.zero_add, Nat.le_refl, Nat.reduceAdd, Nat.reduceLT, Nat.reduceLeDiff, Nat.zero_le, not_false_eq_true, not_true_eq_false, false_implies, implies_true, true_implies, Nat.zero_lt_succ, Nat.lt_add_one, h1, h2, c1]
    rw [if_pos trivial]
    exact ⟨by unfold rw_get; rw [if_pos c1], H2, fr2.rf⟩
  obtain ⟨j, hj, rfl⟩ := nI_of c1
  rw [if_neg c1, nI_clamp hj, rw_getN hj]
  by_cases c2 : j < xs.length
  · have e2 : nI j < nI xs.length := nI_lt c2 (by omega)
    have e3 : ¬ nI cap < nI xs.length := nI_nlt (by omega) (by omega)
    have e4 : vp_in (nI j) cap := vp_in_nI (by omega) (by omega)
    have e5 : ¬ nI (j + 1) < 0 := nI_pos (by omega)
    have e6 : nI xs.length - nI j - 1 = nI (xs.length - j - 1) := by rw [nI_one, pk_sub (by omega), pk_sub (by omega)]
    have e7 : ¬ nI (xs.length - j - 1) < 0 := nI_pos (by omega)
    have e8 : nI xs.length - 1 = nI (xs.length - 1) := by rw [nI_one, pk_sub (by omega)]
    have e9 : (nI j).toNatClampNeg = j := nI_clamp hj
    have e10 : (nI (j + 1)).toNatClampNeg = j + 1 := nI_clamp (by omega)
    have e11 : (nI (xs.length - j - 1)).toNatClampNeg = xs.length - j - 1 := nI_clamp (by omega)
    have hget : f j = xs.getD j (-1) := by
      rw [h5 j c2, List.getD_eq_getElem?_getD, List.getD_eq_getElem?_getD, List.getElem?_eq_getElem c2]
      rfl
    have hlen : (xs.eraseIdx j).length = xs.length - 1 := List.length_eraseIdx_of_lt c2
    have herase : ∀ k, k < xs.length - 1 → (xs.eraseIdx j).getD k 0 = if k < j then f k else f (k + 1) := by
      intro k hk
      rw [List.getD_eq_getElem?_getD, List.getElem?_eraseIdx]
      split
      · rw [h5 k (by omega), List.getD_eq_getElem?_getD]
      · rw [h5 (k + 1) (by omega), List.getD_eq_getElem?_getD]
    simp only [w_X6_removeAt_0, w_X6_removeAt_1, w_X6_removeAt_4, w_X6_removeAt_5, w_X6_removeAt_6, w_X6_removeAt_9, w_X6_removeAt_12, w_X6_removeAt_13, w_X6_removeAt_16, w_X6_removeAt_17, w_X6_removeAt_20, w_X6_removeAt_21, w_X6_removeAt_24, w_X6_removeAt_25, w_X6_removeAt_26, w_X6_removeAt_27, w_X6_removeAt_30, w_X6_removeAt_31, w_X6_removeAt_32, w_X6_removeAt_33, w_X6_removeAt_34, w_X6_removeAt_35, w_X6_removeAt_36, w_X6_removeAt_37, w_X6_removeAt_40, w_X6_removeAt_43, w_X6_removeAt_44, w_X6_removeAt_47, w_X6_removeAt_48, w_X6_removeAt_49, w_X6_removeAt_50, w_X6_removeAt_51, w_X6_removeAt_54, w_X6_removeAt_55, w_X6_removeAt_56, w_X6_removeAt_59, w_X6_removeAt_60, w_X6_removeAt_61, w_X6_removeAt_62, w_X6_removeAt_63, w_X6_removeAt_66, w_X6_removeAt_67, w_X6_removeAt_68, w_X6_removeAt_71, w_X6_removeAt_72, w_X6_removeAt_73, w_X6_removeAt_76, w_X6_removeAt_77, pm_1i_c, pm_2i_c, pm_1l_c, pm_2l_c, pm_1a_c, pm_ia_c, pm_iia_c, pm_va_c, pm_cp_c, pm_k0_c, pm_k1_c, pm_k2_c, pm_k3_c, pm_s1_c, pm_s2_c, pm_s3_c, pm_s4_c, pm_ri_c, pm_ra_c, pm_rn_c, pm_rk_i, pm_rk_z, pm_rk_a, pm_vk_i, pm_vk_z, pm_vk_a, pm_cti, pm_ctr, pm_ldi_z, pm_ldi_s, pm_lda_z, pm_lda_s, pm_cat_n, pm_cat_i, pm_cat_r, pm_cat_l, pm_obj, pm_arr, pm_opt, pm_ird, pm_aln, List.getElem?_cons_zero, List.getElem?_cons_succ, List.set_cons_zero, List.set_cons_succ, List.length_cons, List.length_nil, List.length_set, true_and, and_true, Nat.add_zero, Nat.zero_add, Nat.le_refl, Nat.reduceAdd, Nat.reduceLT, Nat.reduceLeDiff, Nat.zero_le, not_false_eq_true, not_true_eq_false, false_implies, implies_true, true_implies, Nat.zero_lt_succ, Nat.lt_add_one, h1, h2, c1, e2, e3, e4, nI_1, hset_s, hset_r1, hset_r2, Option.map_some, e5, e6, e7, e8, e9, e10, e11, hget]
    refine ⟨fun c => ⟨rw_mk (by rw [hset_s, h1]; rfl) (by rw [hset_r2, h2]) hlen (by omega) h4 (fun k hk => ?_), fun i a b => hset_n (Ne.symm a)⟩, fun c => ⟨by omega, by omega, rw_mk (by rw [hset_s, hset_r1, h1]; rfl) (by rw [hset_r2, hset_s, h2]; rfl) hlen (by omega) h4 (fun k hk => ?_), fun i a b => by rw [hset_n (Ne.symm a), hset_n (Ne.symm b)]⟩⟩
    · rw [herase k hk, if_pos]
      have : ¬ j + 1 < xs.length := fun z => c (nI_lt z (by omega))
      omega
    · rw [herase k hk]
      unfold va_cpy
      by_cases c3 : k < j
      · rw [if_pos c3, if_neg (by omega)]
      · rw [if_neg c3, if_pos (by omega)]
        congr 1
        omega
  · have e2 : ¬ nI j < nI xs.length := nI_nlt (by omega) hj
    simp only [w_X6_removeAt_0, w_X6_removeAt_1, w_X6_removeAt_4, w_X6_removeAt_5, w_X6_removeAt_6, w_X6_removeAt_9, w_X6_removeAt_12, w_X6_removeAt_13, w_X6_removeAt_16, w_X6_removeAt_17, w_X6_removeAt_20, w_X6_removeAt_21, w_X6_removeAt_24, w_X6_removeAt_25, w_X6_removeAt_26, w_X6_removeAt_27, w_X6_removeAt_30, w_X6_removeAt_31, w_X6_removeAt_32, w_X6_removeAt_33, w_X6_removeAt_34, w_X6_removeAt_35, w_X6_removeAt_36, w_X6_removeAt_37, w_X6_removeAt_40, w_X6_removeAt_43, w_X6_removeAt_44, w_X6_removeAt_47, w_X6_removeAt_48, w_X6_removeAt_49, w_X6_removeAt_50, w_X6_removeAt_51, w_X6_removeAt_54, w_X6_removeAt_55, w_X6_removeAt_56, w_X6_removeAt_59, w_X6_removeAt_60, w_X6_removeAt_61, w_X6_removeAt_62, w_X6_removeAt_63, w_X6_removeAt_66, w_X6_removeAt_67, w_X6_removeAt_68, w_X6_removeAt_71, w_X6_removeAt_72, w_X6_removeAt_73, w_X6_removeAt_76, w_X6_removeAt_77, pm_1i_c, pm_2i_c, pm_1l_c, pm_2l_c, pm_1a_c, pm_ia_c, pm_iia_c, pm_va_c, pm_cp_c, pm_k0_c, pm_k1_c, pm_k2_c, pm_k3_c, pm_s1_c, pm_s2_c, pm_s3_c, pm_s4_c, pm_ri_c, pm_ra_c, pm_rn_c, pm_rk_i, pm_rk_z, pm_rk_a, pm_vk_i, pm_vk_z, pm_vk_a, pm_cti, pm_ctr, pm_ldi_z, pm_ldi_s, pm_lda_z, pm_lda_s, pm_cat_n, pm_cat_i, pm_cat_r, pm_cat_l, pm_obj, pm_arr, pm_opt, pm_ird, pm_aln, List.getElem?_cons_zero, List.getElem?_cons_succ, List.set_cons_zero, List.set_cons_succ, List.length_cons, List.length_nil, List.length_set, true_and, and_true, Nat.add_zero, Nat.zero_add, Nat.le_refl, Nat.reduceAdd, Nat.reduceLT, Nat.reduceLeDiff, Nat.zero_le, not_false_eq_true, not_true_eq_false, false_implies, implies_true, true_implies, Nat.zero_lt_succ, Nat.lt_add_one, h1, h2, c1, e2]
    refine ⟨by rw [List.getD_eq_getElem?_getD, List.getElem?_eq_none (by omega)]; rfl, ?_, fr2.rf⟩
    rw [List.eraseIdx_of_length_le (by omega)]
    exact H2
def rw_fnd (xs : List Int32) (v : Int32) : Int32 := if v ∈ xs then nI (xs.idxOf v) else -1
theorem rw_take_succ {xs : List Int32} {k : Nat} (hk : k < xs.length) : xs.take (k + 1) = xs.take k ++ [xs.getD k 0] := by
  rw [List.take_succ, List.getD_eq_getElem?_getD, List.getElem?_eq_getElem hk]
  rfl
set_option maxHeartbeats 1000000 in
theorem c_Row_find {h : pmH} {r cap : Nat} {xs : List Int32} (H : rw_ h r cap xs) (x : Int32) (d : Nat) : PM (d + 1) 64 [.ref r, .int x] h (fun v h' => v = some (.int (rw_fnd xs x)) ∧ h' = h) := by
  obtain ⟨f, h1, h2, h3, h4, h5⟩ := H
  refine en_X6_find rfl rfl ?_
  have loop : ∀ n k, xs.length - k = n → k ≤ xs.length → x ∉ xs.take k → W_X6_find d (h.length + 0) 0 (fun v h' => v = some (.int (rw_fnd xs x)) ∧ h' = h) 2 [some (.ref r), some (.int x), some (.int (nI k))] [] h 0 := by
    intro n
    induction n with
    | zero =>
      intro k hn hk hx
      have : k = xs.length := by omega
      subst this
      have e1 : ¬ nI xs.length < nI xs.length := nI_nlt (Nat.le_refl _) (by omega)
      rw [w_X6_find_2]
      simp only [w_X6_find_0, w_X6_find_1, w_X6_find_3, w_X6_find_4, w_X6_find_7, w_X6_find_10, w_X6_find_11, w_X6_find_12, w_X6_find_15, w_X6_find_16, w_X6_find_19, w_X6_find_20, w_X6_find_23, w_X6_find_24, w_X6_find_25, w_X6_find_26, w_X6_find_29, w_X6_find_30, w_X6_find_31, w_X6_find_34, w_X6_find_37, w_X6_find_38, pm_1i_c, pm_2i_c, pm_1l_c, pm_2l_c, pm_1a_c, pm_ia_c, pm_iia_c, pm_va_c, pm_cp_c, pm_k0_c, pm_k1_c, pm_k2_c, pm_k3_c, pm_s1_c, pm_s2_c, pm_s3_c, pm_s4_c, pm_ri_c, pm_ra_c, pm_rn_c, pm_rk_i, pm_rk_z, pm_rk_a, pm_vk_i, pm_vk_z, pm_vk_a, pm_cti, pm_ctr, pm_ldi_z, pm_ldi_s, pm_lda_z, pm_lda_s, pm_cat_n, pm_cat_i, pm_cat_r, pm_cat_l, pm_obj, pm_arr, pm_opt, pm_ird, pm_aln, List.getElem?_cons_zero, List.getElem?_cons_succ, List.set_cons_zero, List.set_cons_succ, List.length_cons, List.length_nil, List.length_set, true_and, and_true, Nat.add_zero, Nat.zero_add, Nat.le_refl, Nat.reduceAdd, Nat.reduceLT, Nat.reduceLeDiff, Nat.zero_le, not_false_eq_true, not_true_eq_false, false_implies, implies_true, true_implies, Nat.zero_lt_succ, Nat.lt_add_one, h1, h2, e1]
      rw [List.take_of_length_le (Nat.le_refl _)] at hx
      unfold rw_fnd
      rw [if_neg hx]
    | succ n ih =>
      intro k hn hk hx
      have hk' : k < xs.length := by omega
      have e1 : nI k < nI xs.length := nI_lt hk' (by omega)
      have e2 : nI k < nI cap := nI_lt (by omega) (by omega)
      have e3 : vp_in (nI k) cap := vp_in_nI (by omega) (by omega)
      have e4 : (nI k).toNatClampNeg = k := nI_clamp (by omega)
      rw [w_X6_find_2]
      simp only [w_X6_find_0, w_X6_find_1, w_X6_find_3, w_X6_find_4, w_X6_find_7, w_X6_find_10, w_X6_find_11, w_X6_find_12, w_X6_find_15, w_X6_find_16, w_X6_find_19, w_X6_find_20, w_X6_find_23, w_X6_find_24, w_X6_find_25, w_X6_find_26, w_X6_find_29, w_X6_find_30, w_X6_find_31, w_X6_find_34, w_X6_find_37, w_X6_find_38, pm_1i_c, pm_2i_c, pm_1l_c, pm_2l_c, pm_1a_c, pm_ia_c, pm_iia_c, pm_va_c, pm_cp_c, pm_k0_c, pm_k1_c, pm_k2_c, pm_k3_c, pm_s1_c, pm_s2_c, pm_s3_c, pm_s4_c, pm_ri_c, pm_ra_c, pm_rn_c, pm_rk_i, pm_rk_z, pm_rk_a, pm_vk_i, pm_vk_z, pm_vk_a, pm_cti, pm_ctr, pm_ldi_z, pm_ldi_s, pm_lda_z, pm_lda_s, pm_cat_n, pm_cat_i, pm_cat_r, pm_cat_l, pm_obj, pm_arr, pm_opt, pm_ird, pm_aln, List.getElem?_cons_zero, List.getElem?_cons_succ, List.set_cons_zero, List.set_cons_succ, List.length_cons, List.length_nil, List.length_set, true_and, and_true, Nat.add_zero, Nat.zero_add, Nat.le_refl, Nat.reduceAdd, Nat.reduceLT, Nat.reduceLeDiff, Nat.zero_le, not_false_eq_true, not_true_eq_false, false_implies, implies_true, true_implies, Nat.zero_lt_succ, Nat.lt_add_one, h1, h2, e1, e2, e3, e4, h5 k hk', nI_1]
      constructor
      · intro c
        refine ih (k + 1) (by omega) (by omega) ?_
        rw [rw_take_succ hk', List.mem_append]
        rintro (q | q)
        · exact hx q
        · exact c (List.mem_singleton.mp q).symm
      · intro c
        unfold rw_fnd
        have hxs : xs[k]'hk' = x := by
          rw [List.getD_eq_getElem?_getD, List.getElem?_eq_getElem hk'] at c
          exact c
        have hm : x ∈ xs := hxs ▸ List.getElem_mem hk'
        rw [if_pos hm]
        congr 3
        have : xs = xs.take k ++ x :: xs.drop (k + 1) := by
          rw [← hxs, List.getElem_cons_drop, List.take_append_drop]
        rw [this, List.idxOf_append, if_neg hx, List.idxOf_cons_self, List.length_take]
        omega
  simp only [w_X6_find_0, w_X6_find_1, w_X6_find_3, w_X6_find_4, w_X6_find_7, w_X6_find_10, w_X6_find_11, w_X6_find_12, w_X6_find_15, w_X6_find_16, w_X6_find_19, w_X6_find_20, w_X6_find_23, w_X6_find_24, w_X6_find_25, w_X6_find_26, w_X6_find_29, w_X6_find_30, w_X6_find_31, w_X6_find_34, w_X6_find_37, w_X6_find_38, pm_1i_c, pm_2i_c, pm_1l_c, pm_2l_c, pm_1a_c, pm_ia_c, pm_iia_c, pm_va_c, pm_cp_c, pm_k0_c, pm_k1_c, pm_k2_c, pm_k3_c, pm_s1_c, pm_s2_c, pm_s3_c, pm_s4_c, pm_ri_c, pm_ra_c, pm_rn_c, pm_rk_i, pm_rk_z, pm_rk_a, pm_vk_i, pm_vk_z, pm_vk_a, pm_cti, pm_ctr, pm_ldi_z, pm_ldi_s, pm_lda_z, pm_lda_s, pm_cat_n, pm_cat_i, pm_cat_r, pm_cat_l, pm_obj, pm_arr, pm_opt, pm_ird, pm_aln, List.getElem?_cons_zero, List.getElem?_cons_succ, List.set_cons_zero, List.set_cons_succ, List.length_cons, List.length_nil, List.length_set, true_and, and_true, Nat.add_zero, Nat.zero_add, Nat.le_refl, Nat.reduceAdd, Nat.reduceLT, Nat.reduceLeDiff, Nat.zero_le, not_false_eq_true, not_true_eq_false, false_implies, implies_true, true_implies, Nat.zero_lt_succ, Nat.lt_add_one]
  exact loop _ 0 rfl (Nat.zero_le _) (by simp)
set_option maxHeartbeats 1000000 in
theorem c_Row_copyFrom {h : pmH} {r o cap co : Nat} {xs ys : List Int32} (H : rw_ h r cap xs) (O : rw_ h o co ys) (hy : ys.length ≤ cap) (n1 : r ≠ o) (n2 : r ≠ o + 1) (n3 : r + 1 ≠ o) (d : Nat) : PM (d + 1) 66 [.ref r, .ref o] h (fun v h' => v = none ∧ rw_ h' r cap ys ∧ fr2 h h' r) := by
  obtain ⟨f, h1, h2, h3, h4, h5⟩ := H
  obtain ⟨g, o1, o2, o3, o4, o5⟩ := O
  refine en_X6_copyFrom rfl rfl ?_
  have n4 : r + 1 ≠ o + 1 := by omega
  have key : (¬ 0 < nI ys.length → rw_ (h.set r (.inr (6, [.ref (r + 1), .int (nI ys.length)]))) r cap ys ∧ fr2 h (h.set r (.inr (6, [.ref (r + 1), .int (nI ys.length)]))) r) ∧ (0 < nI ys.length → rw_ ((h.set (r + 1) (.inl (0, cap, .inl (va_cpy g f 0 0 ys.length)))).set r (.inr (6, [.ref (r + 1), .int (nI ys.length)]))) r cap ys ∧ fr2 h ((h.set (r + 1) (.inl (0, cap, .inl (va_cpy g f 0 0 ys.length)))).set r (.inr (6, [.ref (r + 1), .int (nI ys.length)]))) r) := by
    constructor
    · intro c
      have : ys.length = 0 := by
        rcases Nat.eq_zero_or_pos ys.length with z | z
        · exact z
        · exact absurd (nI_lt z (by omega)) c
      exact ⟨rw_mk (by rw [hset_s, h1]; rfl) (by rw [hset_r2, h2]) rfl hy h4 (fun k hk => by omega), fun i a b => hset_n (Ne.symm a)⟩
    · intro c
      refine ⟨rw_mk (by rw [hset_s, hset_r1, h1]; rfl) (by rw [hset_r2, hset_s, h2]; rfl) rfl hy h4 (fun k hk => ?_), fun i a b => by rw [hset_n (Ne.symm a), hset_n (Ne.symm b)]⟩
      unfold va_cpy
      rw [if_pos ⟨by omega, by omega⟩, ← o5 k hk]
      congr 1
      omega
  have e1 : ¬ nI co < nI ys.length := nI_nlt o3 (by omega)
  have e2 : ¬ nI ys.length < 0 := nI_pos (by omega)
  have e3 : (nI ys.length).toNatClampNeg = ys.length := nI_clamp (by omega)
  have e4 : (0 : Int32).toNatClampNeg = 0 := rfl
  have e5 : ¬ (0 : Int32) < 0 := by decide
  by_cases hc : ys.length < cap
  · have c1 : nI ys.length < nI cap := nI_lt hc (by omega)
    simp only [w_X6_copyFrom_0, w_X6_copyFrom_1, w_X6_copyFrom_4, w_X6_copyFrom_5, w_X6_copyFrom_8, w_X6_copyFrom_9, w_X6_copyFrom_12, w_X6_copyFrom_13, w_X6_copyFrom_16, w_X6_copyFrom_19, w_X6_copyFrom_20, w_X6_copyFrom_23, w_X6_copyFrom_24, w_X6_copyFrom_25, w_X6_copyFrom_26, w_X6_copyFrom_29, w_X6_copyFrom_30, w_X6_copyFrom_31, w_X6_copyFrom_34, w_X6_copyFrom_35, w_X6_copyFrom_38, w_X6_copyFrom_39, w_X6_copyFrom_42, w_X6_copyFrom_43, w_X6_copyFrom_44, w_X6_copyFrom_47, w_X6_copyFrom_48, w_X6_copyFrom_49, w_X6_copyFrom_52, w_X6_copyFrom_53, w_X6_copyFrom_54, w_X6_copyFrom_57, pm_1i_c, pm_2i_c, pm_1l_c, pm_2l_c, pm_1a_c, pm_ia_c, pm_iia_c, pm_va_c, pm_cp_c, pm_k0_c, pm_k1_c, pm_k2_c, pm_k3_c, pm_s1_c, pm_s2_c, pm_s3_c, pm_s4_c, pm_ri_c, pm_ra_c, pm_rn_c, pm_rk_i, pm_rk_z, pm_rk_a, pm_vk_i, pm_vk_z, pm_vk_a, pm_cti, pm_ctr, pm_ldi_z, pm_ldi_s, pm_lda_z, pm_lda_s, pm_cat_n, pm_cat_i, pm_cat_r, pm_cat_l, pm_obj, pm_arr, pm_opt, pm_ird, pm_aln, List.getElem?_cons_zero, List.getElem?_cons_succ, List.set_cons_zero, List.set_cons_succ, List.length_cons, List.length_nil, List.length_set, true_and, and_true, Nat.add_zero, Nat.zero_add, Nat.le_refl, Nat.reduceAdd, Nat.reduceLT, Nat.reduceLeDiff, Nat.zero_le, not_false_eq_true, not_true_eq_false, false_implies, implies_true, true_implies, Nat.zero_lt_succ, Nat.lt_add_one, h1, h2, o1, o2, c1, e1, e2, e3, e4, e5, hset_s, hset_r1, hset_r2, hset_n n1, hset_n n2, hset_n n3, hset_n n4, Option.map_some]
    exact ⟨key.1, fun c => ⟨o3, hy, key.2 c⟩⟩
  · have c1 : ¬ nI ys.length < nI cap := nI_nlt (by omega) (by omega)
    have c2 : cap = ys.length := by omega
    subst c2
    simp only [w_X6_copyFrom_0, w_X6_copyFrom_1, w_X6_copyFrom_4, w_X6_copyFrom_5, w_X6_copyFrom_8, w_X6_copyFrom_9, w_X6_copyFrom_12, w_X6_copyFrom_13, w_X6_copyFrom_16, w_X6_copyFrom_19, w_X6_copyFrom_20, w_X6_copyFrom_23, w_X6_copyFrom_24, w_X6_copyFrom_25, w_X6_copyFrom_26, w_X6_copyFrom_29, w_X6_copyFrom_30, w_X6_copyFrom_31, w_X6_copyFrom_34, w_X6_copyFrom_35, w_X6_copyFrom_38, w_X6_copyFrom_39, w_X6_copyFrom_42, w_X6_copyFrom_43, w_X6_copyFrom_44, w_X6_copyFrom_47, w_X6_copyFrom_48, w_X6_copyFrom_49, w_X6_copyFrom_52, w_X6_copyFrom_53, w_X6_copyFrom_54, w_X6_copyFrom_57, pm_1i_c, pm_2i_c, pm_1l_c, pm_2l_c, pm_1a_c, pm_ia_c, pm_iia_c, pm_va_c, pm_cp_c, pm_k0_c, pm_k1_c, pm_k2_c, pm_k3_c, pm_s1_c, pm_s2_c, pm_s3_c, pm_s4_c, pm_ri_c, pm_ra_c, pm_rn_c, pm_rk_i, pm_rk_z, pm_rk_a, pm_vk_i, pm_vk_z, pm_vk_a, pm_cti, pm_ctr, pm_ldi_z, pm_ldi_s, pm_lda_z, pm_lda_s, pm_cat_n, pm_cat_i, pm_cat_r, pm_cat_l, pm_obj, pm_arr, pm_opt, pm_ird, pm_aln, List.getElem?_cons_zero, List.getElem?_cons_succ, List.set_cons_zero, List.set_cons_succ, List.length_cons, List.length_nil, List.length_set, true_and, and_true, Nat.add_zero, Nat.zero_add, Nat.le_refl, Nat.reduceAdd, Nat.reduceLT, Nat.reduceLeDiff, Nat.zero_le, not_false_eq_true, not_true_eq_false, false_implies, implies_true, true_implies, Nat.zero_lt_succ, Nat.lt_add_one, h1, h2, o1, o2, c1, e1, e2, e3, e4, e5, hset_s, hset_r1, hset_r2, hset_n n1, hset_n n2, hset_n n3, hset_n n4, Option.map_some]
    exact ⟨key.1, fun c => ⟨o3, key.2 c⟩⟩
