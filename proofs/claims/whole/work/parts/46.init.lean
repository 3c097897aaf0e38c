/-! Constructors. -/
theorem new_ok {l : pmH} {n : Nat} (hl : l.length = n) (c : pmC) : ∃ g, l ++ [c] = g ∧ g.length = n + 1 ∧ g[n]? = some c ∧ ∀ i, i < n → g[i]? = l[i]? := by
  subst hl
  exact ⟨_, rfl, by simp, by simp, fun i hi => List.getElem?_append_left hi⟩
theorem set_ok {l : pmH} {a : Nat} {x : pmC} (ho : l[a]? = some x) (c : pmC) : ∃ z, l.set a c = z ∧ z.length = l.length ∧ z[a]? = some c ∧ ∀ i, i ≠ a → z[i]? = l[i]? :=
  ⟨_, rfl, List.length_set, by rw [hset_s, ho]; rfl, fun i hi => hset_n (Ne.symm hi)⟩
abbrev PN (d mi mc ms : Nat) (args : List Value) (h : pmH) (Post : pmQ) : Prop := pm_Met pm_MT d mi mc ms args h Post
theorem i_Row {h : pmH} {r cap : Nat} (hl : h.length = r + 1) (hb : r < 900000) (ho : h[r]? = some (.inr (6, pm_df 6))) (hc : 0 < cap) (hc2 : cap ≤ 1000) (d : Nat) : PN (d + 1) 55 1 cap [.ref r, .int (nI cap)] h (fun v h' => v = none ∧ rw_ h' r cap [] ∧ ∀ i, i < r → h'[i]? = h[i]?) := by
  refine en_X6_init rfl rfl ?_
  have e0 : pm_df 6 = [.null, .int 0] := rfl
  rw [e0] at ho
  have e1 : 0 < nI cap := nI_lt (a := 0) (b := cap) hc (by omega)
  have e2 : ¬ nI cap < 0 := nI_pos (by omega)
  have e3 : (nI cap).toNatClampNeg = cap := nI_clamp (by omega)
  simp only [w_X6_init_0, w_X6_init_1, w_X6_init_4, w_X6_init_5, w_X6_init_6, w_X6_init_9, w_X6_init_10, w_X6_init_13, w_X6_init_14, pm_1i_c, pm_2i_c, pm_1l_c, pm_2l_c, pm_1a_c, pm_ia_c, pm_iia_c, pm_va_c, pm_cp_c, pm_k0_c, pm_k1_c, pm_k2_c, pm_k3_c, pm_s1_c, pm_s2_c, pm_s3_c, pm_s4_c, pm_ri_c, pm_ra_c, pm_rn_c, pm_rk_i, pm_rk_z, pm_rk_a, pm_vk_i, pm_vk_z, pm_vk_a, pm_cti, pm_ctr, pm_ldi_z, pm_ldi_s, pm_lda_z, pm_lda_s, pm_cat_n, pm_cat_i, pm_cat_r, pm_cat_l, pm_obj, pm_arr, pm_opt, pm_ird, pm_aln, List.getElem?_cons_zero, List.getElem?_cons_succ, List.set_cons_zero, List.set_cons_succ, List.length_cons, List.length_nil, List.length_set, true_and, and_true, Nat.add_zero, Nat.zero_add, Nat.le_refl, Nat.reduceAdd, Nat.reduceLT, Nat.reduceLeDiff, Nat.zero_le, not_false_eq_true, not_true_eq_false, false_implies, implies_true, true_implies, Nat.zero_lt_succ, Nat.lt_add_one, e1, e2, e3, hl]
  repeat (with_reducible refine And.intro (by omega) ?_)
  obtain ⟨g, Eg, Lg, Cg, Gg⟩ := new_ok hl (.inl (0, cap, .inl (fun _ => 0)))
  rw [Eg]
  have og := (Gg r (by omega)).trans ho
  simp only [w_X6_init_16, w_X6_init_19, pm_1i_c, pm_2i_c, pm_1l_c, pm_2l_c, pm_1a_c, pm_ia_c, pm_iia_c, pm_va_c, pm_cp_c, pm_k0_c, pm_k1_c, pm_k2_c, pm_k3_c, pm_s1_c, pm_s2_c, pm_s3_c, pm_s4_c, pm_ri_c, pm_ra_c, pm_rn_c, pm_rk_i, pm_rk_z, pm_rk_a, pm_vk_i, pm_vk_z, pm_vk_a, pm_cti, pm_ctr, pm_ldi_z, pm_ldi_s, pm_lda_z, pm_lda_s, pm_cat_n, pm_cat_i, pm_cat_r, pm_cat_l, pm_obj, pm_arr, pm_opt, pm_ird, pm_aln, List.getElem?_cons_zero, List.getElem?_cons_succ, List.set_cons_zero, List.set_cons_succ, List.length_cons, List.length_nil, List.length_set, true_and, and_true, Nat.add_zero, Nat.zero_add, Nat.le_refl, Nat.reduceAdd, Nat.reduceLT, Nat.reduceLeDiff, Nat.zero_le, not_false_eq_true, not_true_eq_false, false_implies, implies_true, true_implies, Nat.zero_lt_succ, Nat.lt_add_one, og, Lg]
  obtain ⟨z, Ez, Lz, Cz, Gz⟩ := set_ok og (.inr (6, [.ref (r + 1), .int 0]))
  rw [Ez]
  exact ⟨⟨fun _ => 0, Cz, by rw [Gz _ (by omega)]; exact Cg, Nat.zero_le _, hc2, fun k hk => absurd hk (Nat.not_lt_zero _)⟩, fun i hi => by rw [Gz i (by omega), Gg i (by omega)]⟩
theorem i_Shares {h : pmH} {a : Nat} (ho : h[a]? = some (.inr (7, pm_df 7))) (d : Nat) : PN (d + 1) 67 0 0 [.ref a] h (fun v h' => v = none ∧ h' = h.set a (.inr (7, [.int 10, .int 10, .int 80]))) := by
  refine en_X7_init rfl ?_
  rw [show pm_df 7 = [.int 0, .int 0, .int 0] from rfl] at ho
  simp only [w_X7_init_0, w_X7_init_1, w_X7_init_4, w_X7_init_5, w_X7_init_7, w_X7_init_10, w_X7_init_11, w_X7_init_13, w_X7_init_16, w_X7_init_17, w_X7_init_19, w_X7_init_22, pm_1i_c, pm_2i_c, pm_1l_c, pm_2l_c, pm_1a_c, pm_ia_c, pm_iia_c, pm_va_c, pm_cp_c, pm_k0_c, pm_k1_c, pm_k2_c, pm_k3_c, pm_s1_c, pm_s2_c, pm_s3_c, pm_s4_c, pm_ri_c, pm_ra_c, pm_rn_c, pm_rk_i, pm_rk_z, pm_rk_a, pm_vk_i, pm_vk_z, pm_vk_a, pm_cti, pm_ctr, pm_ldi_z, pm_ldi_s, pm_lda_z, pm_lda_s, pm_cat_n, pm_cat_i, pm_cat_r, pm_cat_l, pm_obj, pm_arr, pm_opt, pm_ird, pm_aln, List.getElem?_cons_zero, List.getElem?_cons_succ, List.set_cons_zero, List.set_cons_succ, List.length_cons, List.length_nil, List.length_set, true_and, and_true, Nat.add_zero, Nat.zero_add, Nat.le_refl, Nat.reduceAdd, Nat.reduceLT, Nat.reduceLeDiff, Nat.zero_le, not_false_eq_true, not_true_eq_false, false_implies, implies_true, true_implies, Nat.zero_lt_succ, Nat.lt_add_one, ho, hset_s, Option.map_some, List.set_set]
theorem i_Climb {h : pmH} {a : Nat} (d : Nat) : PN (d + 1) 0 0 0 [.ref a] h (fun v h' => v = none ∧ h' = h) := by
  refine en_X0_init rfl ?_
  simp only [w_X0_init_0, w_X0_init_1, w_X0_init_4, pm_1i_c, pm_2i_c, pm_1l_c, pm_2l_c, pm_1a_c, pm_ia_c, pm_iia_c, pm_va_c, pm_cp_c, pm_k0_c, pm_k1_c, pm_k2_c, pm_k3_c, pm_s1_c, pm_s2_c, pm_s3_c, pm_s4_c, pm_ri_c, pm_ra_c, pm_rn_c, pm_rk_i, pm_rk_z, pm_rk_a, pm_vk_i, pm_vk_z, pm_vk_a, pm_cti, pm_ctr, pm_ldi_z, pm_ldi_s, pm_lda_z, pm_lda_s, pm_cat_n, pm_cat_i, pm_cat_r, pm_cat_l, pm_obj, pm_arr, pm_opt, pm_ird, pm_aln, List.getElem?_cons_zero, List.getElem?_cons_succ, List.set_cons_zero, List.set_cons_succ, List.length_cons, List.length_nil, List.length_set, true_and, and_true, Nat.add_zero, Nat.zero_add, Nat.le_refl, Nat.reduceAdd, Nat.reduceLT, Nat.reduceLeDiff, Nat.zero_le, not_false_eq_true, not_true_eq_false, false_implies, implies_true, true_implies, Nat.zero_lt_succ, Nat.lt_add_one]
theorem i_Contest {h : pmH} {a : Nat} (ho : h[a]? = some (.inr (1, pm_df 1))) (d : Nat) : PN (d + 1) 5 0 0 [.ref a] h (fun v h' => v = none ∧ h' = h.set a (.inr (1, [.int (-1), .int (-1), .int (-1), .int (-1)]))) := by
  refine en_X1_init rfl ?_
  rw [show pm_df 1 = [.int 0, .int 0, .int 0, .int 0] from rfl] at ho
  simp only [w_X1_init_0, w_X1_init_1, w_X1_init_4, w_X1_init_5, w_X1_init_6, w_X1_init_9, w_X1_init_10, w_X1_init_11, w_X1_init_14, w_X1_init_15, w_X1_init_16, w_X1_init_19, w_X1_init_20, w_X1_init_21, w_X1_init_24, pm_1i_c, pm_2i_c, pm_1l_c, pm_2l_c, pm_1a_c, pm_ia_c, pm_iia_c, pm_va_c, pm_cp_c, pm_k0_c, pm_k1_c, pm_k2_c, pm_k3_c, pm_s1_c, pm_s2_c, pm_s3_c, pm_s4_c, pm_ri_c, pm_ra_c, pm_rn_c, pm_rk_i, pm_rk_z, pm_rk_a, pm_vk_i, pm_vk_z, pm_vk_a, pm_cti, pm_ctr, pm_ldi_z, pm_ldi_s, pm_lda_z, pm_lda_s, pm_cat_n, pm_cat_i, pm_cat_r, pm_cat_l, pm_obj, pm_arr, pm_opt, pm_ird, pm_aln, List.getElem?_cons_zero, List.getElem?_cons_succ, List.set_cons_zero, List.set_cons_succ, List.length_cons, List.length_nil, List.length_set, true_and, and_true, Nat.add_zero, Nat.zero_add, Nat.le_refl, Nat.reduceAdd, Nat.reduceLT, Nat.reduceLeDiff, Nat.zero_le, not_false_eq_true, not_true_eq_false, false_implies, implies_true, true_implies, Nat.zero_lt_succ, Nat.lt_add_one, ho, hset_s, Option.map_some, List.set_set]
theorem i_Sketch {h : pmH} {a : Nat} (hl : h.length = a + 1) (hb : a < 900000) (ho : h[a]? = some (.inr (8, pm_df 8))) (d : Nat) : PN (d + 1) 74 2 1280 [.ref a] h (fun v h' => v = none ∧ (h'[a]? = some (.inr (8, [.ref (a + 1), .ref (a + 2), .int 1, .int 0, .int 200, .int 4, .int 0])) ∧ (∃ fc, h'[a + 1]? = some (.inl (0, 1024, .inl fc)) ∧ ∀ k, k < 1024 → fc k = 0) ∧ ∃ fn, h'[a + 2]? = some (.inl (2, 256, .inl fn)) ∧ ∀ k, k < 256 → fn k = 0) ∧ ∀ i, i < a → h'[i]? = h[i]?) := by
  refine en_X8_init rfl ?_
  rw [show pm_df 8 = [.null, .null, .int 0, .int 0, .int 0, .int 0, .int 0] from rfl] at ho
  have e1 : (1024 : Int32).toNatClampNeg = 1024 := rfl
  have e2 : (256 : Int32).toNatClampNeg = 256 := rfl
  simp only [w_X8_init_0, w_X8_init_1, w_X8_init_4, w_X8_init_5, w_X8_init_8, pm_1i_c, pm_2i_c, pm_1l_c, pm_2l_c, pm_1a_c, pm_ia_c, pm_iia_c, pm_va_c, pm_cp_c, pm_k0_c, pm_k1_c, pm_k2_c, pm_k3_c, pm_s1_c, pm_s2_c, pm_s3_c, pm_s4_c, pm_ri_c, pm_ra_c, pm_rn_c, pm_rk_i, pm_rk_z, pm_rk_a, pm_vk_i, pm_vk_z, pm_vk_a, pm_cti, pm_ctr, pm_ldi_z, pm_ldi_s, pm_lda_z, pm_lda_s, pm_cat_n, pm_cat_i, pm_cat_r, pm_cat_l, pm_obj, pm_arr, pm_opt, pm_ird, pm_aln, List.getElem?_cons_zero, List.getElem?_cons_succ, List.set_cons_zero, List.set_cons_succ, List.length_cons, List.length_nil, List.length_set, true_and, and_true, Nat.add_zero, Nat.zero_add, Nat.le_refl, Nat.reduceAdd, Nat.reduceLT, Nat.reduceLeDiff, Nat.zero_le, not_false_eq_true, not_true_eq_false, false_implies, implies_true, true_implies, Nat.zero_lt_succ, Nat.lt_add_one, e1, hl, show ¬ (1024 : Int32) < 0 by decide]
  repeat (with_reducible refine And.intro (by omega) ?_)
  obtain ⟨g, Eg, Lg, Cg, Gg⟩ := new_ok hl (.inl (0, 1024, .inl (fun _ => 0)))
  rw [Eg]
  have og := (Gg a (by omega)).trans ho
  simp only [w_X8_init_10, pm_1i_c, pm_2i_c, pm_1l_c, pm_2l_c, pm_1a_c, pm_ia_c, pm_iia_c, pm_va_c, pm_cp_c, pm_k0_c, pm_k1_c, pm_k2_c, pm_k3_c, pm_s1_c, pm_s2_c, pm_s3_c, pm_s4_c, pm_ri_c, pm_ra_c, pm_rn_c, pm_rk_i, pm_rk_z, pm_rk_a, pm_vk_i, pm_vk_z, pm_vk_a, pm_cti, pm_ctr, pm_ldi_z, pm_ldi_s, pm_lda_z, pm_lda_s, pm_cat_n, pm_cat_i, pm_cat_r, pm_cat_l, pm_obj, pm_arr, pm_opt, pm_ird, pm_aln, List.getElem?_cons_zero, List.getElem?_cons_succ, List.set_cons_zero, List.set_cons_succ, List.length_cons, List.length_nil, List.length_set, true_and, and_true, Nat.add_zero, Nat.zero_add, Nat.le_refl, Nat.reduceAdd, Nat.reduceLT, Nat.reduceLeDiff, Nat.zero_le, not_false_eq_true, not_true_eq_false, false_implies, implies_true, true_implies, Nat.zero_lt_succ, Nat.lt_add_one, og, Lg]
  obtain ⟨z, Ez, Lz, Cz, Gz⟩ := set_ok og (.inr (8, [.ref (a + 1), .null, .int 0, .int 0, .int 0, .int 0, .int 0]))
  rw [Ez]
  have Lz2 : z.length = a + 2 := by rw [Lz, Lg]
  simp only [w_X8_init_13, w_X8_init_14, w_X8_init_17, pm_1i_c, pm_2i_c, pm_1l_c, pm_2l_c, pm_1a_c, pm_ia_c, pm_iia_c, pm_va_c, pm_cp_c, pm_k0_c, pm_k1_c, pm_k2_c, pm_k3_c, pm_s1_c, pm_s2_c, pm_s3_c, pm_s4_c, pm_ri_c, pm_ra_c, pm_rn_c, pm_rk_i, pm_rk_z, pm_rk_a, pm_vk_i, pm_vk_z, pm_vk_a, pm_cti, pm_ctr, pm_ldi_z, pm_ldi_s, pm_lda_z, pm_lda_s, pm_cat_n, pm_cat_i, pm_cat_r, pm_cat_l, pm_obj, pm_arr, pm_opt, pm_ird, pm_aln, List.getElem?_cons_zero, List.getElem?_cons_succ, List.set_cons_zero, List.set_cons_succ, List.length_cons, List.length_nil, List.length_set, true_and, and_true, Nat.add_zero, Nat.zero_add, Nat.le_refl, Nat.reduceAdd, Nat.reduceLT, Nat.reduceLeDiff, Nat.zero_le, not_false_eq_true, not_true_eq_false, false_implies, implies_true, true_implies, Nat.zero_lt_succ, Nat.lt_add_one, e2, Lz2, show ¬ (256 : Int32) < 0 by decide]
  repeat (with_reducible refine And.intro (by omega) ?_)
  obtain ⟨g2, Eg2, Lg2, Cg2, Gg2⟩ := new_ok Lz2 (.inl (2, 256, .inl (fun _ => 0)))
  rw [Eg2]
  have og2 := (Gg2 a (by omega)).trans Cz
  simp only [w_X8_init_19, w_X8_init_22, w_X8_init_23, w_X8_init_24, w_X8_init_27, w_X8_init_28, w_X8_init_31, w_X8_init_34, w_X8_init_35, w_X8_init_36, w_X8_init_39, pm_1i_c, pm_2i_c, pm_1l_c, pm_2l_c, pm_1a_c, pm_ia_c, pm_iia_c, pm_va_c, pm_cp_c, pm_k0_c, pm_k1_c, pm_k2_c, pm_k3_c, pm_s1_c, pm_s2_c, pm_s3_c, pm_s4_c, pm_ri_c, pm_ra_c, pm_rn_c, pm_rk_i, pm_rk_z, pm_rk_a, pm_vk_i, pm_vk_z, pm_vk_a, pm_cti, pm_ctr, pm_ldi_z, pm_ldi_s, pm_lda_z, pm_lda_s, pm_cat_n, pm_cat_i, pm_cat_r, pm_cat_l, pm_obj, pm_arr, pm_opt, pm_ird, pm_aln, List.getElem?_cons_zero, List.getElem?_cons_succ, List.set_cons_zero, List.set_cons_succ, List.length_cons, List.length_nil, List.length_set, true_and, and_true, Nat.add_zero, Nat.zero_add, Nat.le_refl, Nat.reduceAdd, Nat.reduceLT, Nat.reduceLeDiff, Nat.zero_le, not_false_eq_true, not_true_eq_false, false_implies, implies_true, true_implies, Nat.zero_lt_succ, Nat.lt_add_one, og2, Lg2, hset_s, Option.map_some, List.set_set]
  obtain ⟨z2, Ez2, Lz3, Cz2, Gz2⟩ := set_ok og2 (.inr (8, [.ref (a + 1), .ref (a + 2), .int 1, .int 0, .int 200, .int 4, .int 0]))
  rw [Ez2]
  refine ⟨Or.inr trivial, ⟨⟨_, ?_, fun k _ => rfl⟩, _, ?_, fun k _ => rfl⟩, fun i hi => by rw [Gz2 i (by omega), Gg2 i (by omega), Gz i (by omega), Gg i (by omega)]⟩
  · rw [Gz2 _ (by omega), Gg2 _ (by omega), Gz _ (by omega)]
    exact Cg
  · rw [Gz2 _ (by omega)]
    exact Cg2
theorem i_Shares2 {h : pmH} {a : Nat} (ho : h[a]? = some (.inr (7, pm_df 7))) (d : Nat) : PN (d + 1) 67 0 0 [.ref a] h (fun v h' => v = none ∧ h'[a]? = some (.inr (7, [.int 10, .int 10, .int 80])) ∧ ∀ i, i < a → h'[i]? = h[i]?) := by
  refine PM_use (i_Shares ho d) ?_
  rintro v h' - ⟨rfl, rfl⟩
  exact ⟨rfl, by rw [hset_s, ho]; rfl, fun i hi => hset_n (by omega)⟩
theorem i_Climb2 {h : pmH} {a : Nat} (ho : h[a]? = some (.inr (0, pm_df 0))) (d : Nat) : PN (d + 1) 0 0 0 [.ref a] h (fun v h' => v = none ∧ h'[a]? = some (.inr (0, [.int 0, .int 0, .int 0, .int 0, .int 0])) ∧ ∀ i, i < a → h'[i]? = h[i]?) := by
  refine PM_use (i_Climb d) ?_
  rintro v h' - ⟨rfl, rfl⟩
  exact ⟨rfl, ho, fun i hi => rfl⟩
theorem i_Contest2 {h : pmH} {a : Nat} (ho : h[a]? = some (.inr (1, pm_df 1))) (d : Nat) : PN (d + 1) 5 0 0 [.ref a] h (fun v h' => v = none ∧ h'[a]? = some (.inr (1, [.int (-1), .int (-1), .int (-1), .int (-1)])) ∧ ∀ i, i < a → h'[i]? = h[i]?) := by
  refine PM_use (i_Contest ho d) ?_
  rintro v h' - ⟨rfl, rfl⟩
  exact ⟨rfl, by rw [hset_s, ho]; rfl, fun i hi => hset_n (by omega)⟩
/-- the desk that is new -/
def AD0 : AD := (fun i => if i = 8 then 10 else if i = 9 then 10 else if i = 10 then 80 else if i = 11 then 200 else if i = 13 then 4 else if i = 14 then 1 else if i = 15 then 1 else if i = 19 then -1 else if i = 20 then -1 else if i = 21 then -1 else if i = 22 then -1 else if i = 23 then -1 else 0, fun _ => [], fun _ => 0, fun _ => 0, fun _ => false)
set_option maxHeartbeats 2000000 in
theorem i_Law {h : pmH} {B : Nat} (hl : h.length = B + 1) (hb : B + 10 < 900000) (ho : h[B]? = some (.inr (3, pm_df 3))) (d : Nat) : PN (d + 2) 27 4 464 [.ref B] h (fun v h' => v = none ∧ (h'[B]? = some (.inr (3, [.ref (B + 1), .ref (B + 3), .int (-1)])) ∧ rw_ h' (B + 1) 400 [] ∧ rw_ h' (B + 3) 60 []) ∧ ∀ i, i < B → h'[i]? = h[i]?) := by
  refine en_X3_init rfl ?_
  rw [show pm_df 3 = [.null, .null, .int 0] from rfl] at ho
  have L0 : h.length = B + 1 := hl
  have o0 := ho
  simp only [w_X3_init_0, w_X3_init_1, w_X3_init_4, w_X3_init_5, pm_1i_c, pm_2i_c, pm_1l_c, pm_2l_c, pm_1a_c, pm_ia_c, pm_iia_c, pm_va_c, pm_cp_c, pm_k0_c, pm_k1_c, pm_k2_c, pm_k3_c, pm_s1_c, pm_s2_c, pm_s3_c, pm_s4_c, pm_ri_c, pm_ra_c, pm_rn_c, pm_rk_i, pm_rk_z, pm_rk_a, pm_vk_i, pm_vk_z, pm_vk_a, pm_cti, pm_ctr, pm_ldi_z, pm_ldi_s, pm_lda_z, pm_lda_s, pm_cat_n, pm_cat_i, pm_cat_r, pm_cat_l, pm_obj, pm_arr, pm_opt, pm_ird, pm_aln, List.getElem?_cons_zero, List.getElem?_cons_succ, List.set_cons_zero, List.set_cons_succ, List.length_cons, List.length_nil, List.length_set, true_and, and_true, Nat.add_zero, Nat.zero_add, Nat.le_refl, Nat.reduceAdd, Nat.reduceLT, Nat.reduceLeDiff, Nat.zero_le, not_false_eq_true, not_true_eq_false, false_implies, implies_true, true_implies, Nat.zero_lt_succ, Nat.lt_add_one, L0, o0, hl]
  repeat (with_reducible refine And.intro (by omega) ?_)
  obtain ⟨g0, Eg0, Lg0, Cg0, Gg0⟩ := new_ok L0 (.inr (6, pm_df 6))
  rw [Eg0]
  have og0 := (Gg0 B (by omega)).trans o0
  simp only [w_X3_init_8, w_X3_init_9, w_X3_init_12, pm_1i_c, pm_2i_c, pm_1l_c, pm_2l_c, pm_1a_c, pm_ia_c, pm_iia_c, pm_va_c, pm_cp_c, pm_k0_c, pm_k1_c, pm_k2_c, pm_k3_c, pm_s1_c, pm_s2_c, pm_s3_c, pm_s4_c, pm_ri_c, pm_ra_c, pm_rn_c, pm_rk_i, pm_rk_z, pm_rk_a, pm_vk_i, pm_vk_z, pm_vk_a, pm_cti, pm_ctr, pm_ldi_z, pm_ldi_s, pm_lda_z, pm_lda_s, pm_cat_n, pm_cat_i, pm_cat_r, pm_cat_l, pm_obj, pm_arr, pm_opt, pm_ird, pm_aln, List.getElem?_cons_zero, List.getElem?_cons_succ, List.set_cons_zero, List.set_cons_succ, List.length_cons, List.length_nil, List.length_set, true_and, and_true, Nat.add_zero, Nat.zero_add, Nat.le_refl, Nat.reduceAdd, Nat.reduceLT, Nat.reduceLeDiff, Nat.zero_le, not_false_eq_true, not_true_eq_false, false_implies, implies_true, true_implies, Nat.zero_lt_succ, Nat.lt_add_one, Lg0, og0, hl]
  repeat (with_reducible refine And.intro (by omega) ?_)
  refine PM_use (i_Row (r := B + 1) (cap := 400) Lg0 (by omega) Cg0 (by omega) (by omega) d) ?_
  rintro v q0 lq0 ⟨rfl, P0, Q0⟩
  have Lq0 : q0.length = B + 3 := by omega
  have oq0 := (Q0 B (by omega)).trans og0
  obtain ⟨h1, E1, L1', o1, G1⟩ := set_ok oq0 (.inr (3, [.ref (B + 1), .null, .int 0]))
  show W_X3_init _ _ _ _ _ _ _ _ _
  simp only [w_X3_init_15, pm_1i_c, pm_2i_c, pm_1l_c, pm_2l_c, pm_1a_c, pm_ia_c, pm_iia_c, pm_va_c, pm_cp_c, pm_k0_c, pm_k1_c, pm_k2_c, pm_k3_c, pm_s1_c, pm_s2_c, pm_s3_c, pm_s4_c, pm_ri_c, pm_ra_c, pm_rn_c, pm_rk_i, pm_rk_z, pm_rk_a, pm_vk_i, pm_vk_z, pm_vk_a, pm_cti, pm_ctr, pm_ldi_z, pm_ldi_s, pm_lda_z, pm_lda_s, pm_cat_n, pm_cat_i, pm_cat_r, pm_cat_l, pm_obj, pm_arr, pm_opt, pm_ird, pm_aln, List.getElem?_cons_zero, List.getElem?_cons_succ, List.set_cons_zero, List.set_cons_succ, List.length_cons, List.length_nil, List.length_set, true_and, and_true, Nat.add_zero, Nat.zero_add, Nat.le_refl, Nat.reduceAdd, Nat.reduceLT, Nat.reduceLeDiff, Nat.zero_le, not_false_eq_true, not_true_eq_false, false_implies, implies_true, true_implies, Nat.zero_lt_succ, Nat.lt_add_one, pm_tl_n, pm_tl_s, sc_uL, oq0, Lq0]
  rw [E1]
  have L1 : h1.length = B + 3 := by omega
  have T0 : ∀ i, i ≠ B → i < B + 1 → h1[i]? = h[i]? := fun i a b => by rw [G1 i a, Q0 i (by omega), Gg0 i (by omega)]
  clear Eg0 Lg0 Cg0 Gg0 og0 lq0 Lq0 oq0 E1 L1' Q0 o0
  simp only [w_X3_init_18, w_X3_init_19, pm_1i_c, pm_2i_c, pm_1l_c, pm_2l_c, pm_1a_c, pm_ia_c, pm_iia_c, pm_va_c, pm_cp_c, pm_k0_c, pm_k1_c, pm_k2_c, pm_k3_c, pm_s1_c, pm_s2_c, pm_s3_c, pm_s4_c, pm_ri_c, pm_ra_c, pm_rn_c, pm_rk_i, pm_rk_z, pm_rk_a, pm_vk_i, pm_vk_z, pm_vk_a, pm_cti, pm_ctr, pm_ldi_z, pm_ldi_s, pm_lda_z, pm_lda_s, pm_cat_n, pm_cat_i, pm_cat_r, pm_cat_l, pm_obj, pm_arr, pm_opt, pm_ird, pm_aln, List.getElem?_cons_zero, List.getElem?_cons_succ, List.set_cons_zero, List.set_cons_succ, List.length_cons, List.length_nil, List.length_set, true_and, and_true, Nat.add_zero, Nat.zero_add, Nat.le_refl, Nat.reduceAdd, Nat.reduceLT, Nat.reduceLeDiff, Nat.zero_le, not_false_eq_true, not_true_eq_false, false_implies, implies_true, true_implies, Nat.zero_lt_succ, Nat.lt_add_one, L1, o1, hl]
  repeat (with_reducible refine And.intro (by omega) ?_)
  obtain ⟨g1, Eg1, Lg1, Cg1, Gg1⟩ := new_ok L1 (.inr (6, pm_df 6))
  rw [Eg1]
  have og1 := (Gg1 B (by omega)).trans o1
  simp only [w_X3_init_22, w_X3_init_23, w_X3_init_25, pm_1i_c, pm_2i_c, pm_1l_c, pm_2l_c, pm_1a_c, pm_ia_c, pm_iia_c, pm_va_c, pm_cp_c, pm_k0_c, pm_k1_c, pm_k2_c, pm_k3_c, pm_s1_c, pm_s2_c, pm_s3_c, pm_s4_c, pm_ri_c, pm_ra_c, pm_rn_c, pm_rk_i, pm_rk_z, pm_rk_a, pm_vk_i, pm_vk_z, pm_vk_a, pm_cti, pm_ctr, pm_ldi_z, pm_ldi_s, pm_lda_z, pm_lda_s, pm_cat_n, pm_cat_i, pm_cat_r, pm_cat_l, pm_obj, pm_arr, pm_opt, pm_ird, pm_aln, List.getElem?_cons_zero, List.getElem?_cons_succ, List.set_cons_zero, List.set_cons_succ, List.length_cons, List.length_nil, List.length_set, true_and, and_true, Nat.add_zero, Nat.zero_add, Nat.le_refl, Nat.reduceAdd, Nat.reduceLT, Nat.reduceLeDiff, Nat.zero_le, not_false_eq_true, not_true_eq_false, false_implies, implies_true, true_implies, Nat.zero_lt_succ, Nat.lt_add_one, Lg1, og1, hl]
  repeat (with_reducible refine And.intro (by omega) ?_)
  refine PM_use (i_Row (r := B + 3) (cap := 60) Lg1 (by omega) Cg1 (by omega) (by omega) d) ?_
  rintro v q1 lq1 ⟨rfl, P1, Q1⟩
  have Lq1 : q1.length = B + 5 := by omega
  have oq1 := (Q1 B (by omega)).trans og1
  obtain ⟨h2, E2, L2', o2, G2⟩ := set_ok oq1 (.inr (3, [.ref (B + 1), .ref (B + 3), .int 0]))
  show W_X3_init _ _ _ _ _ _ _ _ _
  simp only [w_X3_init_28, pm_1i_c, pm_2i_c, pm_1l_c, pm_2l_c, pm_1a_c, pm_ia_c, pm_iia_c, pm_va_c, pm_cp_c, pm_k0_c, pm_k1_c, pm_k2_c, pm_k3_c, pm_s1_c, pm_s2_c, pm_s3_c, pm_s4_c, pm_ri_c, pm_ra_c, pm_rn_c, pm_rk_i, pm_rk_z, pm_rk_a, pm_vk_i, pm_vk_z, pm_vk_a, pm_cti, pm_ctr, pm_ldi_z, pm_ldi_s, pm_lda_z, pm_lda_s, pm_cat_n, pm_cat_i, pm_cat_r, pm_cat_l, pm_obj, pm_arr, pm_opt, pm_ird, pm_aln, List.getElem?_cons_zero, List.getElem?_cons_succ, List.set_cons_zero, List.set_cons_succ, List.length_cons, List.length_nil, List.length_set, true_and, and_true, Nat.add_zero, Nat.zero_add, Nat.le_refl, Nat.reduceAdd, Nat.reduceLT, Nat.reduceLeDiff, Nat.zero_le, not_false_eq_true, not_true_eq_false, false_implies, implies_true, true_implies, Nat.zero_lt_succ, Nat.lt_add_one, pm_tl_n, pm_tl_s, sc_uL, oq1, Lq1]
  rw [E2]
  have L2 : h2.length = B + 5 := by omega
  have T1 : ∀ i, i ≠ B → i < B + 3 → h2[i]? = h1[i]? := fun i a b => by rw [G2 i a, Q1 i (by omega), Gg1 i (by omega)]
  clear Eg1 Lg1 Cg1 Gg1 og1 lq1 Lq1 oq1 E2 L2' Q1 o1 L1
  simp only [w_X3_init_31, w_X3_init_32, w_X3_init_33, pm_1i_c, pm_2i_c, pm_1l_c, pm_2l_c, pm_1a_c, pm_ia_c, pm_iia_c, pm_va_c, pm_cp_c, pm_k0_c, pm_k1_c, pm_k2_c, pm_k3_c, pm_s1_c, pm_s2_c, pm_s3_c, pm_s4_c, pm_ri_c, pm_ra_c, pm_rn_c, pm_rk_i, pm_rk_z, pm_rk_a, pm_vk_i, pm_vk_z, pm_vk_a, pm_cti, pm_ctr, pm_ldi_z, pm_ldi_s, pm_lda_z, pm_lda_s, pm_cat_n, pm_cat_i, pm_cat_r, pm_cat_l, pm_obj, pm_arr, pm_opt, pm_ird, pm_aln, List.getElem?_cons_zero, List.getElem?_cons_succ, List.set_cons_zero, List.set_cons_succ, List.length_cons, List.length_nil, List.length_set, true_and, and_true, Nat.add_zero, Nat.zero_add, Nat.le_refl, Nat.reduceAdd, Nat.reduceLT, Nat.reduceLeDiff, Nat.zero_le, not_false_eq_true, not_true_eq_false, false_implies, implies_true, true_implies, Nat.zero_lt_succ, Nat.lt_add_one, L2, o2]
  obtain ⟨h3, E3, L3', o3, G3⟩ := set_ok o2 (.inr (3, [.ref (B + 1), .ref (B + 3), .int (-1)]))
  rw [E3]
  have L3 : h3.length = B + 5 := by omega
  have T2 : ∀ i, i ≠ B → i < B + 5 → h3[i]? = h2[i]? := fun i a b => G3 i a
  simp only [w_X3_init_36, pm_1i_c, pm_2i_c, pm_1l_c, pm_2l_c, pm_1a_c, pm_ia_c, pm_iia_c, pm_va_c, pm_cp_c, pm_k0_c, pm_k1_c, pm_k2_c, pm_k3_c, pm_s1_c, pm_s2_c, pm_s3_c, pm_s4_c, pm_ri_c, pm_ra_c, pm_rn_c, pm_rk_i, pm_rk_z, pm_rk_a, pm_vk_i, pm_vk_z, pm_vk_a, pm_cti, pm_ctr, pm_ldi_z, pm_ldi_s, pm_lda_z, pm_lda_s, pm_cat_n, pm_cat_i, pm_cat_r, pm_cat_l, pm_obj, pm_arr, pm_opt, pm_ird, pm_aln, List.getElem?_cons_zero, List.getElem?_cons_succ, List.set_cons_zero, List.set_cons_succ, List.length_cons, List.length_nil, List.length_set, true_and, and_true, Nat.add_zero, Nat.zero_add, Nat.le_refl, Nat.reduceAdd, Nat.reduceLT, Nat.reduceLeDiff, Nat.zero_le, not_false_eq_true, not_true_eq_false, false_implies, implies_true, true_implies, Nat.zero_lt_succ, Nat.lt_add_one, L3]
  have F3 : ∀ i, i ≠ B → i < B + 5 → h3[i]? = h3[i]? := fun _ _ _ => rfl
  have F2 : ∀ i, i ≠ B → i < B + 5 → h3[i]? = h2[i]? := fun i a b => (F3 i a (by omega)).trans (T2 i a b)
  have F1 : ∀ i, i ≠ B → i < B + 3 → h3[i]? = h1[i]? := fun i a b => (F2 i a (by omega)).trans (T1 i a b)
  have F0 : ∀ i, i ≠ B → i < B + 1 → h3[i]? = h[i]? := fun i a b => (F1 i a (by omega)).trans (T0 i a b)
  have R0 : ∀ i, i ≠ B → i < B + 3 → h3[i]? = q0[i]? := fun i a b => (F1 i a (by omega)).trans (G1 i a)
  have R1 : ∀ i, i ≠ B → i < B + 5 → h3[i]? = q1[i]? := fun i a b => (F2 i a (by omega)).trans (G2 i a)
  have FF : ∀ i, i < B → h3[i]? = h[i]? := fun i hi => F0 i (by omega) (by omega)
  repeat (with_reducible refine And.intro (by omega) ?_)
  refine ⟨?_, FF⟩
  exact ⟨o3, P0.kept (R0 _ (by omega) (by omega)) (R0 _ (by omega) (by omega)), P1.kept (R1 _ (by omega) (by omega)) (R1 _ (by omega) (by omega))⟩
set_option maxHeartbeats 2000000 in
theorem i_Lookback {h : pmH} {B : Nat} (hl : h.length = B + 1) (hb : B + 10 < 900000) (ho : h[B]? = some (.inr (5, pm_df 5))) (d : Nat) : PN (d + 2) 40 6 306 [.ref B] h (fun v h' => v = none ∧ (lb_ h' B [] [] []) ∧ ∀ i, i < B → h'[i]? = h[i]?) := by
  refine en_X5_init rfl ?_
  rw [show pm_df 5 = [.null, .null, .null] from rfl] at ho
  have L0 : h.length = B + 1 := hl
  have o0 := ho
  simp only [w_X5_init_0, w_X5_init_1, w_X5_init_4, w_X5_init_5, pm_1i_c, pm_2i_c, pm_1l_c, pm_2l_c, pm_1a_c, pm_ia_c, pm_iia_c, pm_va_c, pm_cp_c, pm_k0_c, pm_k1_c, pm_k2_c, pm_k3_c, pm_s1_c, pm_s2_c, pm_s3_c, pm_s4_c, pm_ri_c, pm_ra_c, pm_rn_c, pm_rk_i, pm_rk_z, pm_rk_a, pm_vk_i, pm_vk_z, pm_vk_a, pm_cti, pm_ctr, pm_ldi_z, pm_ldi_s, pm_lda_z, pm_lda_s, pm_cat_n, pm_cat_i, pm_cat_r, pm_cat_l, pm_obj, pm_arr, pm_opt, pm_ird, pm_aln, List.getElem?_cons_zero, List.getElem?_cons_succ, List.set_cons_zero, List.set_cons_succ, List.length_cons, List.length_nil, List.length_set, true_and, and_true, Nat.add_zero, Nat.zero_add, Nat.le_refl, Nat.reduceAdd, Nat.reduceLT, Nat.reduceLeDiff, Nat.zero_le, not_false_eq_true, not_true_eq_false, false_implies, implies_true, true_implies, Nat.zero_lt_succ, Nat.lt_add_one, L0, o0, hl]
  repeat (with_reducible refine And.intro (by omega) ?_)
  obtain ⟨g0, Eg0, Lg0, Cg0, Gg0⟩ := new_ok L0 (.inr (6, pm_df 6))
  rw [Eg0]
  have og0 := (Gg0 B (by omega)).trans o0
  simp only [w_X5_init_8, w_X5_init_9, w_X5_init_11, pm_1i_c, pm_2i_c, pm_1l_c, pm_2l_c, pm_1a_c, pm_ia_c, pm_iia_c, pm_va_c, pm_cp_c, pm_k0_c, pm_k1_c, pm_k2_c, pm_k3_c, pm_s1_c, pm_s2_c, pm_s3_c, pm_s4_c, pm_ri_c, pm_ra_c, pm_rn_c, pm_rk_i, pm_rk_z, pm_rk_a, pm_vk_i, pm_vk_z, pm_vk_a, pm_cti, pm_ctr, pm_ldi_z, pm_ldi_s, pm_lda_z, pm_lda_s, pm_cat_n, pm_cat_i, pm_cat_r, pm_cat_l, pm_obj, pm_arr, pm_opt, pm_ird, pm_aln, List.getElem?_cons_zero, List.getElem?_cons_succ, List.set_cons_zero, List.set_cons_succ, List.length_cons, List.length_nil, List.length_set, true_and, and_true, Nat.add_zero, Nat.zero_add, Nat.le_refl, Nat.reduceAdd, Nat.reduceLT, Nat.reduceLeDiff, Nat.zero_le, not_false_eq_true, not_true_eq_false, false_implies, implies_true, true_implies, Nat.zero_lt_succ, Nat.lt_add_one, Lg0, og0, hl]
  repeat (with_reducible refine And.intro (by omega) ?_)
  refine PM_use (i_Row (r := B + 1) (cap := 100) Lg0 (by omega) Cg0 (by omega) (by omega) d) ?_
  rintro v q0 lq0 ⟨rfl, P0, Q0⟩
  have Lq0 : q0.length = B + 3 := by omega
  have oq0 := (Q0 B (by omega)).trans og0
  obtain ⟨h1, E1, L1', o1, G1⟩ := set_ok oq0 (.inr (5, [.ref (B + 1), .null, .null]))
  show W_X5_init _ _ _ _ _ _ _ _ _
  simp only [w_X5_init_14, pm_1i_c, pm_2i_c, pm_1l_c, pm_2l_c, pm_1a_c, pm_ia_c, pm_iia_c, pm_va_c, pm_cp_c, pm_k0_c, pm_k1_c, pm_k2_c, pm_k3_c, pm_s1_c, pm_s2_c, pm_s3_c, pm_s4_c, pm_ri_c, pm_ra_c, pm_rn_c, pm_rk_i, pm_rk_z, pm_rk_a, pm_vk_i, pm_vk_z, pm_vk_a, pm_cti, pm_ctr, pm_ldi_z, pm_ldi_s, pm_lda_z, pm_lda_s, pm_cat_n, pm_cat_i, pm_cat_r, pm_cat_l, pm_obj, pm_arr, pm_opt, pm_ird, pm_aln, List.getElem?_cons_zero, List.getElem?_cons_succ, List.set_cons_zero, List.set_cons_succ, List.length_cons, List.length_nil, List.length_set, true_and, and_true, Nat.add_zero, Nat.zero_add, Nat.le_refl, Nat.reduceAdd, Nat.reduceLT, Nat.reduceLeDiff, Nat.zero_le, not_false_eq_true, not_true_eq_false, false_implies, implies_true, true_implies, Nat.zero_lt_succ, Nat.lt_add_one, pm_tl_n, pm_tl_s, sc_uL, oq0, Lq0]
  rw [E1]
  have L1 : h1.length = B + 3 := by omega
  have T0 : ∀ i, i ≠ B → i < B + 1 → h1[i]? = h[i]? := fun i a b => by rw [G1 i a, Q0 i (by omega), Gg0 i (by omega)]
  clear Eg0 Lg0 Cg0 Gg0 og0 lq0 Lq0 oq0 E1 L1' Q0 o0
  simp only [w_X5_init_17, w_X5_init_18, pm_1i_c, pm_2i_c, pm_1l_c, pm_2l_c, pm_1a_c, pm_ia_c, pm_iia_c, pm_va_c, pm_cp_c, pm_k0_c, pm_k1_c, pm_k2_c, pm_k3_c, pm_s1_c, pm_s2_c, pm_s3_c, pm_s4_c, pm_ri_c, pm_ra_c, pm_rn_c, pm_rk_i, pm_rk_z, pm_rk_a, pm_vk_i, pm_vk_z, pm_vk_a, pm_cti, pm_ctr, pm_ldi_z, pm_ldi_s, pm_lda_z, pm_lda_s, pm_cat_n, pm_cat_i, pm_cat_r, pm_cat_l, pm_obj, pm_arr, pm_opt, pm_ird, pm_aln, List.getElem?_cons_zero, List.getElem?_cons_succ, List.set_cons_zero, List.set_cons_succ, List.length_cons, List.length_nil, List.length_set, true_and, and_true, Nat.add_zero, Nat.zero_add, Nat.le_refl, Nat.reduceAdd, Nat.reduceLT, Nat.reduceLeDiff, Nat.zero_le, not_false_eq_true, not_true_eq_false, false_implies, implies_true, true_implies, Nat.zero_lt_succ, Nat.lt_add_one, L1, o1, hl]
  repeat (with_reducible refine And.intro (by omega) ?_)
  obtain ⟨g1, Eg1, Lg1, Cg1, Gg1⟩ := new_ok L1 (.inr (6, pm_df 6))
  rw [Eg1]
  have og1 := (Gg1 B (by omega)).trans o1
  simp only [w_X5_init_21, w_X5_init_22, w_X5_init_24, pm_1i_c, pm_2i_c, pm_1l_c, pm_2l_c, pm_1a_c, pm_ia_c, pm_iia_c, pm_va_c, pm_cp_c, pm_k0_c, pm_k1_c, pm_k2_c, pm_k3_c, pm_s1_c, pm_s2_c, pm_s3_c, pm_s4_c, pm_ri_c, pm_ra_c, pm_rn_c, pm_rk_i, pm_rk_z, pm_rk_a, pm_vk_i, pm_vk_z, pm_vk_a, pm_cti, pm_ctr, pm_ldi_z, pm_ldi_s, pm_lda_z, pm_lda_s, pm_cat_n, pm_cat_i, pm_cat_r, pm_cat_l, pm_obj, pm_arr, pm_opt, pm_ird, pm_aln, List.getElem?_cons_zero, List.getElem?_cons_succ, List.set_cons_zero, List.set_cons_succ, List.length_cons, List.length_nil, List.length_set, true_and, and_true, Nat.add_zero, Nat.zero_add, Nat.le_refl, Nat.reduceAdd, Nat.reduceLT, Nat.reduceLeDiff, Nat.zero_le, not_false_eq_true, not_true_eq_false, false_implies, implies_true, true_implies, Nat.zero_lt_succ, Nat.lt_add_one, Lg1, og1, hl]
  repeat (with_reducible refine And.intro (by omega) ?_)
  refine PM_use (i_Row (r := B + 3) (cap := 100) Lg1 (by omega) Cg1 (by omega) (by omega) d) ?_
  rintro v q1 lq1 ⟨rfl, P1, Q1⟩
  have Lq1 : q1.length = B + 5 := by omega
  have oq1 := (Q1 B (by omega)).trans og1
  obtain ⟨h2, E2, L2', o2, G2⟩ := set_ok oq1 (.inr (5, [.ref (B + 1), .ref (B + 3), .null]))
  show W_X5_init _ _ _ _ _ _ _ _ _
  simp only [w_X5_init_27, pm_1i_c, pm_2i_c, pm_1l_c, pm_2l_c, pm_1a_c, pm_ia_c, pm_iia_c, pm_va_c, pm_cp_c, pm_k0_c, pm_k1_c, pm_k2_c, pm_k3_c, pm_s1_c, pm_s2_c, pm_s3_c, pm_s4_c, pm_ri_c, pm_ra_c, pm_rn_c, pm_rk_i, pm_rk_z, pm_rk_a, pm_vk_i, pm_vk_z, pm_vk_a, pm_cti, pm_ctr, pm_ldi_z, pm_ldi_s, pm_lda_z, pm_lda_s, pm_cat_n, pm_cat_i, pm_cat_r, pm_cat_l, pm_obj, pm_arr, pm_opt, pm_ird, pm_aln, List.getElem?_cons_zero, List.getElem?_cons_succ, List.set_cons_zero, List.set_cons_succ, List.length_cons, List.length_nil, List.length_set, true_and, and_true, Nat.add_zero, Nat.zero_add, Nat.le_refl, Nat.reduceAdd, Nat.reduceLT, Nat.reduceLeDiff, Nat.zero_le, not_false_eq_true, not_true_eq_false, false_implies, implies_true, true_implies, Nat.zero_lt_succ, Nat.lt_add_one, pm_tl_n, pm_tl_s, sc_uL, oq1, Lq1]
  rw [E2]
  have L2 : h2.length = B + 5 := by omega
  have T1 : ∀ i, i ≠ B → i < B + 3 → h2[i]? = h1[i]? := fun i a b => by rw [G2 i a, Q1 i (by omega), Gg1 i (by omega)]
  clear Eg1 Lg1 Cg1 Gg1 og1 lq1 Lq1 oq1 E2 L2' Q1 o1 L1
  simp only [w_X5_init_30, w_X5_init_31, pm_1i_c, pm_2i_c, pm_1l_c, pm_2l_c, pm_1a_c, pm_ia_c, pm_iia_c, pm_va_c, pm_cp_c, pm_k0_c, pm_k1_c, pm_k2_c, pm_k3_c, pm_s1_c, pm_s2_c, pm_s3_c, pm_s4_c, pm_ri_c, pm_ra_c, pm_rn_c, pm_rk_i, pm_rk_z, pm_rk_a, pm_vk_i, pm_vk_z, pm_vk_a, pm_cti, pm_ctr, pm_ldi_z, pm_ldi_s, pm_lda_z, pm_lda_s, pm_cat_n, pm_cat_i, pm_cat_r, pm_cat_l, pm_obj, pm_arr, pm_opt, pm_ird, pm_aln, List.getElem?_cons_zero, List.getElem?_cons_succ, List.set_cons_zero, List.set_cons_succ, List.length_cons, List.length_nil, List.length_set, true_and, and_true, Nat.add_zero, Nat.zero_add, Nat.le_refl, Nat.reduceAdd, Nat.reduceLT, Nat.reduceLeDiff, Nat.zero_le, not_false_eq_true, not_true_eq_false, false_implies, implies_true, true_implies, Nat.zero_lt_succ, Nat.lt_add_one, L2, o2, hl]
  repeat (with_reducible refine And.intro (by omega) ?_)
  obtain ⟨g2, Eg2, Lg2, Cg2, Gg2⟩ := new_ok L2 (.inr (6, pm_df 6))
  rw [Eg2]
  have og2 := (Gg2 B (by omega)).trans o2
  simp only [w_X5_init_34, w_X5_init_35, w_X5_init_37, pm_1i_c, pm_2i_c, pm_1l_c, pm_2l_c, pm_1a_c, pm_ia_c, pm_iia_c, pm_va_c, pm_cp_c, pm_k0_c, pm_k1_c, pm_k2_c, pm_k3_c, pm_s1_c, pm_s2_c, pm_s3_c, pm_s4_c, pm_ri_c, pm_ra_c, pm_rn_c, pm_rk_i, pm_rk_z, pm_rk_a, pm_vk_i, pm_vk_z, pm_vk_a, pm_cti, pm_ctr, pm_ldi_z, pm_ldi_s, pm_lda_z, pm_lda_s, pm_cat_n, pm_cat_i, pm_cat_r, pm_cat_l, pm_obj, pm_arr, pm_opt, pm_ird, pm_aln, List.getElem?_cons_zero, List.getElem?_cons_succ, List.set_cons_zero, List.set_cons_succ, List.length_cons, List.length_nil, List.length_set, true_and, and_true, Nat.add_zero, Nat.zero_add, Nat.le_refl, Nat.reduceAdd, Nat.reduceLT, Nat.reduceLeDiff, Nat.zero_le, not_false_eq_true, not_true_eq_false, false_implies, implies_true, true_implies, Nat.zero_lt_succ, Nat.lt_add_one, Lg2, og2, hl]
  repeat (with_reducible refine And.intro (by omega) ?_)
  refine PM_use (i_Row (r := B + 5) (cap := 100) Lg2 (by omega) Cg2 (by omega) (by omega) d) ?_
  rintro v q2 lq2 ⟨rfl, P2, Q2⟩
  have Lq2 : q2.length = B + 7 := by omega
  have oq2 := (Q2 B (by omega)).trans og2
  obtain ⟨h3, E3, L3', o3, G3⟩ := set_ok oq2 (.inr (5, [.ref (B + 1), .ref (B + 3), .ref (B + 5)]))
  show W_X5_init _ _ _ _ _ _ _ _ _
  simp only [w_X5_init_40, pm_1i_c, pm_2i_c, pm_1l_c, pm_2l_c, pm_1a_c, pm_ia_c, pm_iia_c, pm_va_c, pm_cp_c, pm_k0_c, pm_k1_c, pm_k2_c, pm_k3_c, pm_s1_c, pm_s2_c, pm_s3_c, pm_s4_c, pm_ri_c, pm_ra_c, pm_rn_c, pm_rk_i, pm_rk_z, pm_rk_a, pm_vk_i, pm_vk_z, pm_vk_a, pm_cti, pm_ctr, pm_ldi_z, pm_ldi_s, pm_lda_z, pm_lda_s, pm_cat_n, pm_cat_i, pm_cat_r, pm_cat_l, pm_obj, pm_arr, pm_opt, pm_ird, pm_aln, List.getElem?_cons_zero, List.getElem?_cons_succ, List.set_cons_zero, List.set_cons_succ, List.length_cons, List.length_nil, List.length_set, true_and, and_true, Nat.add_zero, Nat.zero_add, Nat.le_refl, Nat.reduceAdd, Nat.reduceLT, Nat.reduceLeDiff, Nat.zero_le, not_false_eq_true, not_true_eq_false, false_implies, implies_true, true_implies, Nat.zero_lt_succ, Nat.lt_add_one, pm_tl_n, pm_tl_s, sc_uL, oq2, Lq2]
  rw [E3]
  have L3 : h3.length = B + 7 := by omega
  have T2 : ∀ i, i ≠ B → i < B + 5 → h3[i]? = h2[i]? := fun i a b => by rw [G3 i a, Q2 i (by omega), Gg2 i (by omega)]
  clear Eg2 Lg2 Cg2 Gg2 og2 lq2 Lq2 oq2 E3 L3' Q2 o2 L2
  simp only [w_X5_init_43, pm_1i_c, pm_2i_c, pm_1l_c, pm_2l_c, pm_1a_c, pm_ia_c, pm_iia_c, pm_va_c, pm_cp_c, pm_k0_c, pm_k1_c, pm_k2_c, pm_k3_c, pm_s1_c, pm_s2_c, pm_s3_c, pm_s4_c, pm_ri_c, pm_ra_c, pm_rn_c, pm_rk_i, pm_rk_z, pm_rk_a, pm_vk_i, pm_vk_z, pm_vk_a, pm_cti, pm_ctr, pm_ldi_z, pm_ldi_s, pm_lda_z, pm_lda_s, pm_cat_n, pm_cat_i, pm_cat_r, pm_cat_l, pm_obj, pm_arr, pm_opt, pm_ird, pm_aln, List.getElem?_cons_zero, List.getElem?_cons_succ, List.set_cons_zero, List.set_cons_succ, List.length_cons, List.length_nil, List.length_set, true_and, and_true, Nat.add_zero, Nat.zero_add, Nat.le_refl, Nat.reduceAdd, Nat.reduceLT, Nat.reduceLeDiff, Nat.zero_le, not_false_eq_true, not_true_eq_false, false_implies, implies_true, true_implies, Nat.zero_lt_succ, Nat.lt_add_one, L3]
  have F3 : ∀ i, i ≠ B → i < B + 7 → h3[i]? = h3[i]? := fun _ _ _ => rfl
  have F2 : ∀ i, i ≠ B → i < B + 5 → h3[i]? = h2[i]? := fun i a b => (F3 i a (by omega)).trans (T2 i a b)
  have F1 : ∀ i, i ≠ B → i < B + 3 → h3[i]? = h1[i]? := fun i a b => (F2 i a (by omega)).trans (T1 i a b)
  have F0 : ∀ i, i ≠ B → i < B + 1 → h3[i]? = h[i]? := fun i a b => (F1 i a (by omega)).trans (T0 i a b)
  have R0 : ∀ i, i ≠ B → i < B + 3 → h3[i]? = q0[i]? := fun i a b => (F1 i a (by omega)).trans (G1 i a)
  have R1 : ∀ i, i ≠ B → i < B + 5 → h3[i]? = q1[i]? := fun i a b => (F2 i a (by omega)).trans (G2 i a)
  have R2 : ∀ i, i ≠ B → i < B + 7 → h3[i]? = q2[i]? := fun i a b => (F3 i a (by omega)).trans (G3 i a)
  have FF : ∀ i, i < B → h3[i]? = h[i]? := fun i hi => F0 i (by omega) (by omega)
  repeat (with_reducible refine And.intro (by omega) ?_)
  refine ⟨?_, FF⟩
  exact ⟨o3, P0.kept (R0 _ (by omega) (by omega)) (R0 _ (by omega) (by omega)), P1.kept (R1 _ (by omega) (by omega)) (R1 _ (by omega) (by omega)), P2.kept (R2 _ (by omega) (by omega)) (R2 _ (by omega) (by omega))⟩
set_option maxHeartbeats 2000000 in
theorem i_Tokens {h : pmH} {B : Nat} (hl : h.length = B + 1) (hb : B + 10 < 900000) (ho : h[B]? = some (.inr (9, pm_df 9))) (d : Nat) : PN (d + 2) 95 6 1206 [.ref B] h (fun v h' => v = none ∧ (tk_ h' B ([], [], []) 0 0 (-1)) ∧ ∀ i, i < B → h'[i]? = h[i]?) := by
  refine en_X9_init rfl ?_
  rw [show pm_df 9 = [.null, .null, .null, .int 0, .int 0, .int 0] from rfl] at ho
  have L0 : h.length = B + 1 := hl
  have o0 := ho
  simp only [w_X9_init_0, w_X9_init_1, w_X9_init_4, w_X9_init_5, pm_1i_c, pm_2i_c, pm_1l_c, pm_2l_c, pm_1a_c, pm_ia_c, pm_iia_c, pm_va_c, pm_cp_c, pm_k0_c, pm_k1_c, pm_k2_c, pm_k3_c, pm_s1_c, pm_s2_c, pm_s3_c, pm_s4_c, pm_ri_c, pm_ra_c, pm_rn_c, pm_rk_i, pm_rk_z, pm_rk_a, pm_vk_i, pm_vk_z, pm_vk_a, pm_cti, pm_ctr, pm_ldi_z, pm_ldi_s, pm_lda_z, pm_lda_s, pm_cat_n, pm_cat_i, pm_cat_r, pm_cat_l, pm_obj, pm_arr, pm_opt, pm_ird, pm_aln, List.getElem?_cons_zero, List.getElem?_cons_succ, List.set_cons_zero, List.set_cons_succ, List.length_cons, List.length_nil, List.length_set, true_and, and_true, Nat.add_zero, Nat.zero_add, Nat.le_refl, Nat.reduceAdd, Nat.reduceLT, Nat.reduceLeDiff, Nat.zero_le, not_false_eq_true, not_true_eq_false, false_implies, implies_true, true_implies, Nat.zero_lt_succ, Nat.lt_add_one, L0, o0, hl]
  repeat (with_reducible refine And.intro (by omega) ?_)
  obtain ⟨g0, Eg0, Lg0, Cg0, Gg0⟩ := new_ok L0 (.inr (6, pm_df 6))
  rw [Eg0]
  have og0 := (Gg0 B (by omega)).trans o0
  simp only [w_X9_init_8, w_X9_init_9, w_X9_init_12, pm_1i_c, pm_2i_c, pm_1l_c, pm_2l_c, pm_1a_c, pm_ia_c, pm_iia_c, pm_va_c, pm_cp_c, pm_k0_c, pm_k1_c, pm_k2_c, pm_k3_c, pm_s1_c, pm_s2_c, pm_s3_c, pm_s4_c, pm_ri_c, pm_ra_c, pm_rn_c, pm_rk_i, pm_rk_z, pm_rk_a, pm_vk_i, pm_vk_z, pm_vk_a, pm_cti, pm_ctr, pm_ldi_z, pm_ldi_s, pm_lda_z, pm_lda_s, pm_cat_n, pm_cat_i, pm_cat_r, pm_cat_l, pm_obj, pm_arr, pm_opt, pm_ird, pm_aln, List.getElem?_cons_zero, List.getElem?_cons_succ, List.set_cons_zero, List.set_cons_succ, List.length_cons, List.length_nil, List.length_set, true_and, and_true, Nat.add_zero, Nat.zero_add, Nat.le_refl, Nat.reduceAdd, Nat.reduceLT, Nat.reduceLeDiff, Nat.zero_le, not_false_eq_true, not_true_eq_false, false_implies, implies_true, true_implies, Nat.zero_lt_succ, Nat.lt_add_one, Lg0, og0, hl]
  repeat (with_reducible refine And.intro (by omega) ?_)
  refine PM_use (i_Row (r := B + 1) (cap := 400) Lg0 (by omega) Cg0 (by omega) (by omega) d) ?_
  rintro v q0 lq0 ⟨rfl, P0, Q0⟩
  have Lq0 : q0.length = B + 3 := by omega
  have oq0 := (Q0 B (by omega)).trans og0
  obtain ⟨h1, E1, L1', o1, G1⟩ := set_ok oq0 (.inr (9, [.ref (B + 1), .null, .null, .int 0, .int 0, .int 0]))
  show W_X9_init _ _ _ _ _ _ _ _ _
  simp only [w_X9_init_15, pm_1i_c, pm_2i_c, pm_1l_c, pm_2l_c, pm_1a_c, pm_ia_c, pm_iia_c, pm_va_c, pm_cp_c, pm_k0_c, pm_k1_c, pm_k2_c, pm_k3_c, pm_s1_c, pm_s2_c, pm_s3_c, pm_s4_c, pm_ri_c, pm_ra_c, pm_rn_c, pm_rk_i, pm_rk_z, pm_rk_a, pm_vk_i, pm_vk_z, pm_vk_a, pm_cti, pm_ctr, pm_ldi_z, pm_ldi_s, pm_lda_z, pm_lda_s, pm_cat_n, pm_cat_i, pm_cat_r, pm_cat_l, pm_obj, pm_arr, pm_opt, pm_ird, pm_aln, List.getElem?_cons_zero, List.getElem?_cons_succ, List.set_cons_zero, List.set_cons_succ, List.length_cons, List.length_nil, List.length_set, true_and, and_true, Nat.add_zero, Nat.zero_add, Nat.le_refl, Nat.reduceAdd, Nat.reduceLT, Nat.reduceLeDiff, Nat.zero_le, not_false_eq_true, not_true_eq_false, false_implies, implies_true, true_implies, Nat.zero_lt_succ, Nat.lt_add_one, pm_tl_n, pm_tl_s, sc_uL, oq0, Lq0]
  rw [E1]
  have L1 : h1.length = B + 3 := by omega
  have T0 : ∀ i, i ≠ B → i < B + 1 → h1[i]? = h[i]? := fun i a b => by rw [G1 i a, Q0 i (by omega), Gg0 i (by omega)]
  clear Eg0 Lg0 Cg0 Gg0 og0 lq0 Lq0 oq0 E1 L1' Q0 o0
  simp only [w_X9_init_18, w_X9_init_19, pm_1i_c, pm_2i_c, pm_1l_c, pm_2l_c, pm_1a_c, pm_ia_c, pm_iia_c, pm_va_c, pm_cp_c, pm_k0_c, pm_k1_c, pm_k2_c, pm_k3_c, pm_s1_c, pm_s2_c, pm_s3_c, pm_s4_c, pm_ri_c, pm_ra_c, pm_rn_c, pm_rk_i, pm_rk_z, pm_rk_a, pm_vk_i, pm_vk_z, pm_vk_a, pm_cti, pm_ctr, pm_ldi_z, pm_ldi_s, pm_lda_z, pm_lda_s, pm_cat_n, pm_cat_i, pm_cat_r, pm_cat_l, pm_obj, pm_arr, pm_opt, pm_ird, pm_aln, List.getElem?_cons_zero, List.getElem?_cons_succ, List.set_cons_zero, List.set_cons_succ, List.length_cons, List.length_nil, List.length_set, true_and, and_true, Nat.add_zero, Nat.zero_add, Nat.le_refl, Nat.reduceAdd, Nat.reduceLT, Nat.reduceLeDiff, Nat.zero_le, not_false_eq_true, not_true_eq_false, false_implies, implies_true, true_implies, Nat.zero_lt_succ, Nat.lt_add_one, L1, o1, hl]
  repeat (with_reducible refine And.intro (by omega) ?_)
  obtain ⟨g1, Eg1, Lg1, Cg1, Gg1⟩ := new_ok L1 (.inr (6, pm_df 6))
  rw [Eg1]
  have og1 := (Gg1 B (by omega)).trans o1
  simp only [w_X9_init_22, w_X9_init_23, w_X9_init_26, pm_1i_c, pm_2i_c, pm_1l_c, pm_2l_c, pm_1a_c, pm_ia_c, pm_iia_c, pm_va_c, pm_cp_c, pm_k0_c, pm_k1_c, pm_k2_c, pm_k3_c, pm_s1_c, pm_s2_c, pm_s3_c, pm_s4_c, pm_ri_c, pm_ra_c, pm_rn_c, pm_rk_i, pm_rk_z, pm_rk_a, pm_vk_i, pm_vk_z, pm_vk_a, pm_cti, pm_ctr, pm_ldi_z, pm_ldi_s, pm_lda_z, pm_lda_s, pm_cat_n, pm_cat_i, pm_cat_r, pm_cat_l, pm_obj, pm_arr, pm_opt, pm_ird, pm_aln, List.getElem?_cons_zero, List.getElem?_cons_succ, List.set_cons_zero, List.set_cons_succ, List.length_cons, List.length_nil, List.length_set, true_and, and_true, Nat.add_zero, Nat.zero_add, Nat.le_refl, Nat.reduceAdd, Nat.reduceLT, Nat.reduceLeDiff, Nat.zero_le, not_false_eq_true, not_true_eq_false, false_implies, implies_true, true_implies, Nat.zero_lt_succ, Nat.lt_add_one, Lg1, og1, hl]
  repeat (with_reducible refine And.intro (by omega) ?_)
  refine PM_use (i_Row (r := B + 3) (cap := 400) Lg1 (by omega) Cg1 (by omega) (by omega) d) ?_
  rintro v q1 lq1 ⟨rfl, P1, Q1⟩
  have Lq1 : q1.length = B + 5 := by omega
  have oq1 := (Q1 B (by omega)).trans og1
  obtain ⟨h2, E2, L2', o2, G2⟩ := set_ok oq1 (.inr (9, [.ref (B + 1), .ref (B + 3), .null, .int 0, .int 0, .int 0]))
  show W_X9_init _ _ _ _ _ _ _ _ _
  simp only [w_X9_init_29, pm_1i_c, pm_2i_c, pm_1l_c, pm_2l_c, pm_1a_c, pm_ia_c, pm_iia_c, pm_va_c, pm_cp_c, pm_k0_c, pm_k1_c, pm_k2_c, pm_k3_c, pm_s1_c, pm_s2_c, pm_s3_c, pm_s4_c, pm_ri_c, pm_ra_c, pm_rn_c, pm_rk_i, pm_rk_z, pm_rk_a, pm_vk_i, pm_vk_z, pm_vk_a, pm_cti, pm_ctr, pm_ldi_z, pm_ldi_s, pm_lda_z, pm_lda_s, pm_cat_n, pm_cat_i, pm_cat_r, pm_cat_l, pm_obj, pm_arr, pm_opt, pm_ird, pm_aln, List.getElem?_cons_zero, List.getElem?_cons_succ, List.set_cons_zero, List.set_cons_succ, List.length_cons, List.length_nil, List.length_set, true_and, and_true, Nat.add_zero, Nat.zero_add, Nat.le_refl, Nat.reduceAdd, Nat.reduceLT, Nat.reduceLeDiff, Nat.zero_le, not_false_eq_true, not_true_eq_false, false_implies, implies_true, true_implies, Nat.zero_lt_succ, Nat.lt_add_one, pm_tl_n, pm_tl_s, sc_uL, oq1, Lq1]
  rw [E2]
  have L2 : h2.length = B + 5 := by omega
  have T1 : ∀ i, i ≠ B → i < B + 3 → h2[i]? = h1[i]? := fun i a b => by rw [G2 i a, Q1 i (by omega), Gg1 i (by omega)]
  clear Eg1 Lg1 Cg1 Gg1 og1 lq1 Lq1 oq1 E2 L2' Q1 o1 L1
  simp only [w_X9_init_32, w_X9_init_33, pm_1i_c, pm_2i_c, pm_1l_c, pm_2l_c, pm_1a_c, pm_ia_c, pm_iia_c, pm_va_c, pm_cp_c, pm_k0_c, pm_k1_c, pm_k2_c, pm_k3_c, pm_s1_c, pm_s2_c, pm_s3_c, pm_s4_c, pm_ri_c, pm_ra_c, pm_rn_c, pm_rk_i, pm_rk_z, pm_rk_a, pm_vk_i, pm_vk_z, pm_vk_a, pm_cti, pm_ctr, pm_ldi_z, pm_ldi_s, pm_lda_z, pm_lda_s, pm_cat_n, pm_cat_i, pm_cat_r, pm_cat_l, pm_obj, pm_arr, pm_opt, pm_ird, pm_aln, List.getElem?_cons_zero, List.getElem?_cons_succ, List.set_cons_zero, List.set_cons_succ, List.length_cons, List.length_nil, List.length_set, true_and, and_true, Nat.add_zero, Nat.zero_add, Nat.le_refl, Nat.reduceAdd, Nat.reduceLT, Nat.reduceLeDiff, Nat.zero_le, not_false_eq_true, not_true_eq_false, false_implies, implies_true, true_implies, Nat.zero_lt_succ, Nat.lt_add_one, L2, o2, hl]
  repeat (with_reducible refine And.intro (by omega) ?_)
  obtain ⟨g2, Eg2, Lg2, Cg2, Gg2⟩ := new_ok L2 (.inr (6, pm_df 6))
  rw [Eg2]
  have og2 := (Gg2 B (by omega)).trans o2
  simp only [w_X9_init_36, w_X9_init_37, w_X9_init_40, pm_1i_c, pm_2i_c, pm_1l_c, pm_2l_c, pm_1a_c, pm_ia_c, pm_iia_c, pm_va_c, pm_cp_c, pm_k0_c, pm_k1_c, pm_k2_c, pm_k3_c, pm_s1_c, pm_s2_c, pm_s3_c, pm_s4_c, pm_ri_c, pm_ra_c, pm_rn_c, pm_rk_i, pm_rk_z, pm_rk_a, pm_vk_i, pm_vk_z, pm_vk_a, pm_cti, pm_ctr, pm_ldi_z, pm_ldi_s, pm_lda_z, pm_lda_s, pm_cat_n, pm_cat_i, pm_cat_r, pm_cat_l, pm_obj, pm_arr, pm_opt, pm_ird, pm_aln, List.getElem?_cons_zero, List.getElem?_cons_succ, List.set_cons_zero, List.set_cons_succ, List.length_cons, List.length_nil, List.length_set, true_and, and_true, Nat.add_zero, Nat.zero_add, Nat.le_refl, Nat.reduceAdd, Nat.reduceLT, Nat.reduceLeDiff, Nat.zero_le, not_false_eq_true, not_true_eq_false, false_implies, implies_true, true_implies, Nat.zero_lt_succ, Nat.lt_add_one, Lg2, og2, hl]
  repeat (with_reducible refine And.intro (by omega) ?_)
  refine PM_use (i_Row (r := B + 5) (cap := 400) Lg2 (by omega) Cg2 (by omega) (by omega) d) ?_
  rintro v q2 lq2 ⟨rfl, P2, Q2⟩
  have Lq2 : q2.length = B + 7 := by omega
  have oq2 := (Q2 B (by omega)).trans og2
  obtain ⟨h3, E3, L3', o3, G3⟩ := set_ok oq2 (.inr (9, [.ref (B + 1), .ref (B + 3), .ref (B + 5), .int 0, .int 0, .int 0]))
  show W_X9_init _ _ _ _ _ _ _ _ _
  simp only [w_X9_init_43, pm_1i_c, pm_2i_c, pm_1l_c, pm_2l_c, pm_1a_c, pm_ia_c, pm_iia_c, pm_va_c, pm_cp_c, pm_k0_c, pm_k1_c, pm_k2_c, pm_k3_c, pm_s1_c, pm_s2_c, pm_s3_c, pm_s4_c, pm_ri_c, pm_ra_c, pm_rn_c, pm_rk_i, pm_rk_z, pm_rk_a, pm_vk_i, pm_vk_z, pm_vk_a, pm_cti, pm_ctr, pm_ldi_z, pm_ldi_s, pm_lda_z, pm_lda_s, pm_cat_n, pm_cat_i, pm_cat_r, pm_cat_l, pm_obj, pm_arr, pm_opt, pm_ird, pm_aln, List.getElem?_cons_zero, List.getElem?_cons_succ, List.set_cons_zero, List.set_cons_succ, List.length_cons, List.length_nil, List.length_set, true_and, and_true, Nat.add_zero, Nat.zero_add, Nat.le_refl, Nat.reduceAdd, Nat.reduceLT, Nat.reduceLeDiff, Nat.zero_le, not_false_eq_true, not_true_eq_false, false_implies, implies_true, true_implies, Nat.zero_lt_succ, Nat.lt_add_one, pm_tl_n, pm_tl_s, sc_uL, oq2, Lq2]
  rw [E3]
  have L3 : h3.length = B + 7 := by omega
  have T2 : ∀ i, i ≠ B → i < B + 5 → h3[i]? = h2[i]? := fun i a b => by rw [G3 i a, Q2 i (by omega), Gg2 i (by omega)]
  clear Eg2 Lg2 Cg2 Gg2 og2 lq2 Lq2 oq2 E3 L3' Q2 o2 L2
  simp only [w_X9_init_46, w_X9_init_47, w_X9_init_48, pm_1i_c, pm_2i_c, pm_1l_c, pm_2l_c, pm_1a_c, pm_ia_c, pm_iia_c, pm_va_c, pm_cp_c, pm_k0_c, pm_k1_c, pm_k2_c, pm_k3_c, pm_s1_c, pm_s2_c, pm_s3_c, pm_s4_c, pm_ri_c, pm_ra_c, pm_rn_c, pm_rk_i, pm_rk_z, pm_rk_a, pm_vk_i, pm_vk_z, pm_vk_a, pm_cti, pm_ctr, pm_ldi_z, pm_ldi_s, pm_lda_z, pm_lda_s, pm_cat_n, pm_cat_i, pm_cat_r, pm_cat_l, pm_obj, pm_arr, pm_opt, pm_ird, pm_aln, List.getElem?_cons_zero, List.getElem?_cons_succ, List.set_cons_zero, List.set_cons_succ, List.length_cons, List.length_nil, List.length_set, true_and, and_true, Nat.add_zero, Nat.zero_add, Nat.le_refl, Nat.reduceAdd, Nat.reduceLT, Nat.reduceLeDiff, Nat.zero_le, not_false_eq_true, not_true_eq_false, false_implies, implies_true, true_implies, Nat.zero_lt_succ, Nat.lt_add_one, L3, o3]
  obtain ⟨h4, E4, L4', o4, G4⟩ := set_ok o3 (.inr (9, [.ref (B + 1), .ref (B + 3), .ref (B + 5), .int 0, .int 0, .int (-1)]))
  rw [E4]
  have L4 : h4.length = B + 7 := by omega
  have T3 : ∀ i, i ≠ B → i < B + 7 → h4[i]? = h3[i]? := fun i a b => G4 i a
  simp only [w_X9_init_51, pm_1i_c, pm_2i_c, pm_1l_c, pm_2l_c, pm_1a_c, pm_ia_c, pm_iia_c, pm_va_c, pm_cp_c, pm_k0_c, pm_k1_c, pm_k2_c, pm_k3_c, pm_s1_c, pm_s2_c, pm_s3_c, pm_s4_c, pm_ri_c, pm_ra_c, pm_rn_c, pm_rk_i, pm_rk_z, pm_rk_a, pm_vk_i, pm_vk_z, pm_vk_a, pm_cti, pm_ctr, pm_ldi_z, pm_ldi_s, pm_lda_z, pm_lda_s, pm_cat_n, pm_cat_i, pm_cat_r, pm_cat_l, pm_obj, pm_arr, pm_opt, pm_ird, pm_aln, List.getElem?_cons_zero, List.getElem?_cons_succ, List.set_cons_zero, List.set_cons_succ, List.length_cons, List.length_nil, List.length_set, true_and, and_true, Nat.add_zero, Nat.zero_add, Nat.le_refl, Nat.reduceAdd, Nat.reduceLT, Nat.reduceLeDiff, Nat.zero_le, not_false_eq_true, not_true_eq_false, false_implies, implies_true, true_implies, Nat.zero_lt_succ, Nat.lt_add_one, L4]
  have F4 : ∀ i, i ≠ B → i < B + 7 → h4[i]? = h4[i]? := fun _ _ _ => rfl
  have F3 : ∀ i, i ≠ B → i < B + 7 → h4[i]? = h3[i]? := fun i a b => (F4 i a (by omega)).trans (T3 i a b)
  have F2 : ∀ i, i ≠ B → i < B + 5 → h4[i]? = h2[i]? := fun i a b => (F3 i a (by omega)).trans (T2 i a b)
  have F1 : ∀ i, i ≠ B → i < B + 3 → h4[i]? = h1[i]? := fun i a b => (F2 i a (by omega)).trans (T1 i a b)
  have F0 : ∀ i, i ≠ B → i < B + 1 → h4[i]? = h[i]? := fun i a b => (F1 i a (by omega)).trans (T0 i a b)
  have R0 : ∀ i, i ≠ B → i < B + 3 → h4[i]? = q0[i]? := fun i a b => (F1 i a (by omega)).trans (G1 i a)
  have R1 : ∀ i, i ≠ B → i < B + 5 → h4[i]? = q1[i]? := fun i a b => (F2 i a (by omega)).trans (G2 i a)
  have R2 : ∀ i, i ≠ B → i < B + 7 → h4[i]? = q2[i]? := fun i a b => (F3 i a (by omega)).trans (G3 i a)
  have FF : ∀ i, i < B → h4[i]? = h[i]? := fun i hi => F0 i (by omega) (by omega)
  repeat (with_reducible refine And.intro (by omega) ?_)
  refine ⟨?_, FF⟩
  exact ⟨o4, P0.kept (R0 _ (by omega) (by omega)) (R0 _ (by omega) (by omega)), P1.kept (R1 _ (by omega) (by omega)) (R1 _ (by omega) (by omega)), P2.kept (R2 _ (by omega) (by omega)) (R2 _ (by omega) (by omega))⟩
set_option maxHeartbeats 2000000 in
theorem i_LawReader {h : pmH} {B : Nat} (hl : h.length = B + 1) (hb : B + 30 < 900000) (ho : h[B]? = some (.inr (4, pm_df 4))) (d : Nat) : PN (d + 3) 33 12 1679 [.ref B] h (fun v h' => v = none ∧ (lr0 h' B (-1) []) ∧ ∀ i, i < B → h'[i]? = h[i]?) := by
  refine en_X4_init rfl ?_
  rw [show pm_df 4 = [.null, .null] from rfl] at ho
  have L0 : h.length = B + 1 := hl
  have o0 := ho
  simp only [w_X4_init_0, w_X4_init_1, w_X4_init_4, w_X4_init_5, pm_1i_c, pm_2i_c, pm_1l_c, pm_2l_c, pm_1a_c, pm_ia_c, pm_iia_c, pm_va_c, pm_cp_c, pm_k0_c, pm_k1_c, pm_k2_c, pm_k3_c, pm_s1_c, pm_s2_c, pm_s3_c, pm_s4_c, pm_ri_c, pm_ra_c, pm_rn_c, pm_rk_i, pm_rk_z, pm_rk_a, pm_vk_i, pm_vk_z, pm_vk_a, pm_cti, pm_ctr, pm_ldi_z, pm_ldi_s, pm_lda_z, pm_lda_s, pm_cat_n, pm_cat_i, pm_cat_r, pm_cat_l, pm_obj, pm_arr, pm_opt, pm_ird, pm_aln, List.getElem?_cons_zero, List.getElem?_cons_succ, List.set_cons_zero, List.set_cons_succ, List.length_cons, List.length_nil, List.length_set, true_and, and_true, Nat.add_zero, Nat.zero_add, Nat.le_refl, Nat.reduceAdd, Nat.reduceLT, Nat.reduceLeDiff, Nat.zero_le, not_false_eq_true, not_true_eq_false, false_implies, implies_true, true_implies, Nat.zero_lt_succ, Nat.lt_add_one, L0, o0, hl]
  repeat (with_reducible refine And.intro (by omega) ?_)
  obtain ⟨g0, Eg0, Lg0, Cg0, Gg0⟩ := new_ok L0 (.inr (9, pm_df 9))
  rw [Eg0]
  have og0 := (Gg0 B (by omega)).trans o0
  simp only [w_X4_init_8, w_X4_init_9, pm_1i_c, pm_2i_c, pm_1l_c, pm_2l_c, pm_1a_c, pm_ia_c, pm_iia_c, pm_va_c, pm_cp_c, pm_k0_c, pm_k1_c, pm_k2_c, pm_k3_c, pm_s1_c, pm_s2_c, pm_s3_c, pm_s4_c, pm_ri_c, pm_ra_c, pm_rn_c, pm_rk_i, pm_rk_z, pm_rk_a, pm_vk_i, pm_vk_z, pm_vk_a, pm_cti, pm_ctr, pm_ldi_z, pm_ldi_s, pm_lda_z, pm_lda_s, pm_cat_n, pm_cat_i, pm_cat_r, pm_cat_l, pm_obj, pm_arr, pm_opt, pm_ird, pm_aln, List.getElem?_cons_zero, List.getElem?_cons_succ, List.set_cons_zero, List.set_cons_succ, List.length_cons, List.length_nil, List.length_set, true_and, and_true, Nat.add_zero, Nat.zero_add, Nat.le_refl, Nat.reduceAdd, Nat.reduceLT, Nat.reduceLeDiff, Nat.zero_le, not_false_eq_true, not_true_eq_false, false_implies, implies_true, true_implies, Nat.zero_lt_succ, Nat.lt_add_one, Lg0, og0, hl]
  repeat (with_reducible refine And.intro (by omega) ?_)
  refine PM_use (i_Tokens (B := B + 1) Lg0 (by omega) Cg0 d) ?_
  rintro v q0 lq0 ⟨rfl, P0, Q0⟩
  have Lq0 : q0.length = B + 8 := by omega
  have oq0 := (Q0 B (by omega)).trans og0
  obtain ⟨h1, E1, L1', o1, G1⟩ := set_ok oq0 (.inr (4, [.ref (B + 1), .null]))
  show W_X4_init _ _ _ _ _ _ _ _ _
  simp only [w_X4_init_12, pm_1i_c, pm_2i_c, pm_1l_c, pm_2l_c, pm_1a_c, pm_ia_c, pm_iia_c, pm_va_c, pm_cp_c, pm_k0_c, pm_k1_c, pm_k2_c, pm_k3_c, pm_s1_c, pm_s2_c, pm_s3_c, pm_s4_c, pm_ri_c, pm_ra_c, pm_rn_c, pm_rk_i, pm_rk_z, pm_rk_a, pm_vk_i, pm_vk_z, pm_vk_a, pm_cti, pm_ctr, pm_ldi_z, pm_ldi_s, pm_lda_z, pm_lda_s, pm_cat_n, pm_cat_i, pm_cat_r, pm_cat_l, pm_obj, pm_arr, pm_opt, pm_ird, pm_aln, List.getElem?_cons_zero, List.getElem?_cons_succ, List.set_cons_zero, List.set_cons_succ, List.length_cons, List.length_nil, List.length_set, true_and, and_true, Nat.add_zero, Nat.zero_add, Nat.le_refl, Nat.reduceAdd, Nat.reduceLT, Nat.reduceLeDiff, Nat.zero_le, not_false_eq_true, not_true_eq_false, false_implies, implies_true, true_implies, Nat.zero_lt_succ, Nat.lt_add_one, pm_tl_n, pm_tl_s, sc_uL, oq0, Lq0]
  rw [E1]
  have L1 : h1.length = B + 8 := by omega
  have T0 : ∀ i, i ≠ B → i < B + 1 → h1[i]? = h[i]? := fun i a b => by rw [G1 i a, Q0 i (by omega), Gg0 i (by omega)]
  clear Eg0 Lg0 Cg0 Gg0 og0 lq0 Lq0 oq0 E1 L1' Q0 o0
  simp only [w_X4_init_15, w_X4_init_16, pm_1i_c, pm_2i_c, pm_1l_c, pm_2l_c, pm_1a_c, pm_ia_c, pm_iia_c, pm_va_c, pm_cp_c, pm_k0_c, pm_k1_c, pm_k2_c, pm_k3_c, pm_s1_c, pm_s2_c, pm_s3_c, pm_s4_c, pm_ri_c, pm_ra_c, pm_rn_c, pm_rk_i, pm_rk_z, pm_rk_a, pm_vk_i, pm_vk_z, pm_vk_a, pm_cti, pm_ctr, pm_ldi_z, pm_ldi_s, pm_lda_z, pm_lda_s, pm_cat_n, pm_cat_i, pm_cat_r, pm_cat_l, pm_obj, pm_arr, pm_opt, pm_ird, pm_aln, List.getElem?_cons_zero, List.getElem?_cons_succ, List.set_cons_zero, List.set_cons_succ, List.length_cons, List.length_nil, List.length_set, true_and, and_true, Nat.add_zero, Nat.zero_add, Nat.le_refl, Nat.reduceAdd, Nat.reduceLT, Nat.reduceLeDiff, Nat.zero_le, not_false_eq_true, not_true_eq_false, false_implies, implies_true, true_implies, Nat.zero_lt_succ, Nat.lt_add_one, L1, o1, hl]
  repeat (with_reducible refine And.intro (by omega) ?_)
  obtain ⟨g1, Eg1, Lg1, Cg1, Gg1⟩ := new_ok L1 (.inr (3, pm_df 3))
  rw [Eg1]
  have og1 := (Gg1 B (by omega)).trans o1
  simp only [w_X4_init_19, w_X4_init_20, pm_1i_c, pm_2i_c, pm_1l_c, pm_2l_c, pm_1a_c, pm_ia_c, pm_iia_c, pm_va_c, pm_cp_c, pm_k0_c, pm_k1_c, pm_k2_c, pm_k3_c, pm_s1_c, pm_s2_c, pm_s3_c, pm_s4_c, pm_ri_c, pm_ra_c, pm_rn_c, pm_rk_i, pm_rk_z, pm_rk_a, pm_vk_i, pm_vk_z, pm_vk_a, pm_cti, pm_ctr, pm_ldi_z, pm_ldi_s, pm_lda_z, pm_lda_s, pm_cat_n, pm_cat_i, pm_cat_r, pm_cat_l, pm_obj, pm_arr, pm_opt, pm_ird, pm_aln, List.getElem?_cons_zero, List.getElem?_cons_succ, List.set_cons_zero, List.set_cons_succ, List.length_cons, List.length_nil, List.length_set, true_and, and_true, Nat.add_zero, Nat.zero_add, Nat.le_refl, Nat.reduceAdd, Nat.reduceLT, Nat.reduceLeDiff, Nat.zero_le, not_false_eq_true, not_true_eq_false, false_implies, implies_true, true_implies, Nat.zero_lt_succ, Nat.lt_add_one, Lg1, og1, hl]
  repeat (with_reducible refine And.intro (by omega) ?_)
  refine PM_use (i_Law (B := B + 8) Lg1 (by omega) Cg1 d) ?_
  rintro v q1 lq1 ⟨rfl, P1, Q1⟩
  have Lq1 : q1.length = B + 13 := by omega
  have oq1 := (Q1 B (by omega)).trans og1
  obtain ⟨h2, E2, L2', o2, G2⟩ := set_ok oq1 (.inr (4, [.ref (B + 1), .ref (B + 8)]))
  show W_X4_init _ _ _ _ _ _ _ _ _
  simp only [w_X4_init_23, pm_1i_c, pm_2i_c, pm_1l_c, pm_2l_c, pm_1a_c, pm_ia_c, pm_iia_c, pm_va_c, pm_cp_c, pm_k0_c, pm_k1_c, pm_k2_c, pm_k3_c, pm_s1_c, pm_s2_c, pm_s3_c, pm_s4_c, pm_ri_c, pm_ra_c, pm_rn_c, pm_rk_i, pm_rk_z, pm_rk_a, pm_vk_i, pm_vk_z, pm_vk_a, pm_cti, pm_ctr, pm_ldi_z, pm_ldi_s, pm_lda_z, pm_lda_s, pm_cat_n, pm_cat_i, pm_cat_r, pm_cat_l, pm_obj, pm_arr, pm_opt, pm_ird, pm_aln, List.getElem?_cons_zero, List.getElem?_cons_succ, List.set_cons_zero, List.set_cons_succ, List.length_cons, List.length_nil, List.length_set, true_and, and_true, Nat.add_zero, Nat.zero_add, Nat.le_refl, Nat.reduceAdd, Nat.reduceLT, Nat.reduceLeDiff, Nat.zero_le, not_false_eq_true, not_true_eq_false, false_implies, implies_true, true_implies, Nat.zero_lt_succ, Nat.lt_add_one, pm_tl_n, pm_tl_s, sc_uL, oq1, Lq1]
  rw [E2]
  have L2 : h2.length = B + 13 := by omega
  have T1 : ∀ i, i ≠ B → i < B + 8 → h2[i]? = h1[i]? := fun i a b => by rw [G2 i a, Q1 i (by omega), Gg1 i (by omega)]
  clear Eg1 Lg1 Cg1 Gg1 og1 lq1 Lq1 oq1 E2 L2' Q1 o1 L1
  simp only [w_X4_init_26, pm_1i_c, pm_2i_c, pm_1l_c, pm_2l_c, pm_1a_c, pm_ia_c, pm_iia_c, pm_va_c, pm_cp_c, pm_k0_c, pm_k1_c, pm_k2_c, pm_k3_c, pm_s1_c, pm_s2_c, pm_s3_c, pm_s4_c, pm_ri_c, pm_ra_c, pm_rn_c, pm_rk_i, pm_rk_z, pm_rk_a, pm_vk_i, pm_vk_z, pm_vk_a, pm_cti, pm_ctr, pm_ldi_z, pm_ldi_s, pm_lda_z, pm_lda_s, pm_cat_n, pm_cat_i, pm_cat_r, pm_cat_l, pm_obj, pm_arr, pm_opt, pm_ird, pm_aln, List.getElem?_cons_zero, List.getElem?_cons_succ, List.set_cons_zero, List.set_cons_succ, List.length_cons, List.length_nil, List.length_set, true_and, and_true, Nat.add_zero, Nat.zero_add, Nat.le_refl, Nat.reduceAdd, Nat.reduceLT, Nat.reduceLeDiff, Nat.zero_le, not_false_eq_true, not_true_eq_false, false_implies, implies_true, true_implies, Nat.zero_lt_succ, Nat.lt_add_one, L2]
  have F2 : ∀ i, i ≠ B → i < B + 13 → h2[i]? = h2[i]? := fun _ _ _ => rfl
  have F1 : ∀ i, i ≠ B → i < B + 8 → h2[i]? = h1[i]? := fun i a b => (F2 i a (by omega)).trans (T1 i a b)
  have F0 : ∀ i, i ≠ B → i < B + 1 → h2[i]? = h[i]? := fun i a b => (F1 i a (by omega)).trans (T0 i a b)
  have R0 : ∀ i, i ≠ B → i < B + 8 → h2[i]? = q0[i]? := fun i a b => (F1 i a (by omega)).trans (G1 i a)
  have R1 : ∀ i, i ≠ B → i < B + 13 → h2[i]? = q1[i]? := fun i a b => (F2 i a (by omega)).trans (G2 i a)
  have FF : ∀ i, i < B → h2[i]? = h[i]? := fun i hi => F0 i (by omega) (by omega)
  repeat (with_reducible refine And.intro (by omega) ?_)
  refine ⟨?_, FF⟩
  obtain ⟨a1, a2, a3⟩ := P1
  exact ⟨o2, ⟨_, _, _, _, P0.kept2 (fun i x y => R0 i (by omega) (by omega))⟩, (R1 _ (by omega) (by omega)).trans a1, a2.kept (R1 _ (by omega) (by omega)) (R1 _ (by omega) (by omega)), _, a3.kept (R1 _ (by omega) (by omega)) (R1 _ (by omega) (by omega))⟩
set_option maxHeartbeats 2000000 in
theorem i_TraceReader {h : pmH} {B : Nat} (hl : h.length = B + 1) (hb : B + 30 < 900000) (ho : h[B]? = some (.inr (10, pm_df 10))) (d : Nat) : PN (d + 3) 112 9 1714 [.ref B] h (fun v h' => v = none ∧ (tr0 h' B []) ∧ ∀ i, i < B → h'[i]? = h[i]?) := by
  refine en_X10_init rfl ?_
  rw [show pm_df 10 = [.null, .null] from rfl] at ho
  have L0 : h.length = B + 1 := hl
  have o0 := ho
  simp only [w_X10_init_0, w_X10_init_1, w_X10_init_4, w_X10_init_5, pm_1i_c, pm_2i_c, pm_1l_c, pm_2l_c, pm_1a_c, pm_ia_c, pm_iia_c, pm_va_c, pm_cp_c, pm_k0_c, pm_k1_c, pm_k2_c, pm_k3_c, pm_s1_c, pm_s2_c, pm_s3_c, pm_s4_c, pm_ri_c, pm_ra_c, pm_rn_c, pm_rk_i, pm_rk_z, pm_rk_a, pm_vk_i, pm_vk_z, pm_vk_a, pm_cti, pm_ctr, pm_ldi_z, pm_ldi_s, pm_lda_z, pm_lda_s, pm_cat_n, pm_cat_i, pm_cat_r, pm_cat_l, pm_obj, pm_arr, pm_opt, pm_ird, pm_aln, List.getElem?_cons_zero, List.getElem?_cons_succ, List.set_cons_zero, List.set_cons_succ, List.length_cons, List.length_nil, List.length_set, true_and, and_true, Nat.add_zero, Nat.zero_add, Nat.le_refl, Nat.reduceAdd, Nat.reduceLT, Nat.reduceLeDiff, Nat.zero_le, not_false_eq_true, not_true_eq_false, false_implies, implies_true, true_implies, Nat.zero_lt_succ, Nat.lt_add_one, L0, o0, hl]
  repeat (with_reducible refine And.intro (by omega) ?_)
  obtain ⟨g0, Eg0, Lg0, Cg0, Gg0⟩ := new_ok L0 (.inr (9, pm_df 9))
  rw [Eg0]
  have og0 := (Gg0 B (by omega)).trans o0
  simp only [w_X10_init_8, w_X10_init_9, pm_1i_c, pm_2i_c, pm_1l_c, pm_2l_c, pm_1a_c, pm_ia_c, pm_iia_c, pm_va_c, pm_cp_c, pm_k0_c, pm_k1_c, pm_k2_c, pm_k3_c, pm_s1_c, pm_s2_c, pm_s3_c, pm_s4_c, pm_ri_c, pm_ra_c, pm_rn_c, pm_rk_i, pm_rk_z, pm_rk_a, pm_vk_i, pm_vk_z, pm_vk_a, pm_cti, pm_ctr, pm_ldi_z, pm_ldi_s, pm_lda_z, pm_lda_s, pm_cat_n, pm_cat_i, pm_cat_r, pm_cat_l, pm_obj, pm_arr, pm_opt, pm_ird, pm_aln, List.getElem?_cons_zero, List.getElem?_cons_succ, List.set_cons_zero, List.set_cons_succ, List.length_cons, List.length_nil, List.length_set, true_and, and_true, Nat.add_zero, Nat.zero_add, Nat.le_refl, Nat.reduceAdd, Nat.reduceLT, Nat.reduceLeDiff, Nat.zero_le, not_false_eq_true, not_true_eq_false, false_implies, implies_true, true_implies, Nat.zero_lt_succ, Nat.lt_add_one, Lg0, og0, hl]
  repeat (with_reducible refine And.intro (by omega) ?_)
  refine PM_use (i_Tokens (B := B + 1) Lg0 (by omega) Cg0 d) ?_
  rintro v q0 lq0 ⟨rfl, P0, Q0⟩
  have Lq0 : q0.length = B + 8 := by omega
  have oq0 := (Q0 B (by omega)).trans og0
  obtain ⟨h1, E1, L1', o1, G1⟩ := set_ok oq0 (.inr (10, [.ref (B + 1), .null]))
  show W_X10_init _ _ _ _ _ _ _ _ _
  simp only [w_X10_init_12, pm_1i_c, pm_2i_c, pm_1l_c, pm_2l_c, pm_1a_c, pm_ia_c, pm_iia_c, pm_va_c, pm_cp_c, pm_k0_c, pm_k1_c, pm_k2_c, pm_k3_c, pm_s1_c, pm_s2_c, pm_s3_c, pm_s4_c, pm_ri_c, pm_ra_c, pm_rn_c, pm_rk_i, pm_rk_z, pm_rk_a, pm_vk_i, pm_vk_z, pm_vk_a, pm_cti, pm_ctr, pm_ldi_z, pm_ldi_s, pm_lda_z, pm_lda_s, pm_cat_n, pm_cat_i, pm_cat_r, pm_cat_l, pm_obj, pm_arr, pm_opt, pm_ird, pm_aln, List.getElem?_cons_zero, List.getElem?_cons_succ, List.set_cons_zero, List.set_cons_succ, List.length_cons, List.length_nil, List.length_set, true_and, and_true, Nat.add_zero, Nat.zero_add, Nat.le_refl, Nat.reduceAdd, Nat.reduceLT, Nat.reduceLeDiff, Nat.zero_le, not_false_eq_true, not_true_eq_false, false_implies, implies_true, true_implies, Nat.zero_lt_succ, Nat.lt_add_one, pm_tl_n, pm_tl_s, sc_uL, oq0, Lq0]
  rw [E1]
  have L1 : h1.length = B + 8 := by omega
  have T0 : ∀ i, i ≠ B → i < B + 1 → h1[i]? = h[i]? := fun i a b => by rw [G1 i a, Q0 i (by omega), Gg0 i (by omega)]
  clear Eg0 Lg0 Cg0 Gg0 og0 lq0 Lq0 oq0 E1 L1' Q0 o0
  simp only [w_X10_init_15, w_X10_init_16, pm_1i_c, pm_2i_c, pm_1l_c, pm_2l_c, pm_1a_c, pm_ia_c, pm_iia_c, pm_va_c, pm_cp_c, pm_k0_c, pm_k1_c, pm_k2_c, pm_k3_c, pm_s1_c, pm_s2_c, pm_s3_c, pm_s4_c, pm_ri_c, pm_ra_c, pm_rn_c, pm_rk_i, pm_rk_z, pm_rk_a, pm_vk_i, pm_vk_z, pm_vk_a, pm_cti, pm_ctr, pm_ldi_z, pm_ldi_s, pm_lda_z, pm_lda_s, pm_cat_n, pm_cat_i, pm_cat_r, pm_cat_l, pm_obj, pm_arr, pm_opt, pm_ird, pm_aln, List.getElem?_cons_zero, List.getElem?_cons_succ, List.set_cons_zero, List.set_cons_succ, List.length_cons, List.length_nil, List.length_set, true_and, and_true, Nat.add_zero, Nat.zero_add, Nat.le_refl, Nat.reduceAdd, Nat.reduceLT, Nat.reduceLeDiff, Nat.zero_le, not_false_eq_true, not_true_eq_false, false_implies, implies_true, true_implies, Nat.zero_lt_succ, Nat.lt_add_one, L1, o1, hl]
  repeat (with_reducible refine And.intro (by omega) ?_)
  obtain ⟨g1, Eg1, Lg1, Cg1, Gg1⟩ := new_ok L1 (.inr (6, pm_df 6))
  rw [Eg1]
  have og1 := (Gg1 B (by omega)).trans o1
  simp only [w_X10_init_19, w_X10_init_20, w_X10_init_23, pm_1i_c, pm_2i_c, pm_1l_c, pm_2l_c, pm_1a_c, pm_ia_c, pm_iia_c, pm_va_c, pm_cp_c, pm_k0_c, pm_k1_c, pm_k2_c, pm_k3_c, pm_s1_c, pm_s2_c, pm_s3_c, pm_s4_c, pm_ri_c, pm_ra_c, pm_rn_c, pm_rk_i, pm_rk_z, pm_rk_a, pm_vk_i, pm_vk_z, pm_vk_a, pm_cti, pm_ctr, pm_ldi_z, pm_ldi_s, pm_lda_z, pm_lda_s, pm_cat_n, pm_cat_i, pm_cat_r, pm_cat_l, pm_obj, pm_arr, pm_opt, pm_ird, pm_aln, List.getElem?_cons_zero, List.getElem?_cons_succ, List.set_cons_zero, List.set_cons_succ, List.length_cons, List.length_nil, List.length_set, true_and, and_true, Nat.add_zero, Nat.zero_add, Nat.le_refl, Nat.reduceAdd, Nat.reduceLT, Nat.reduceLeDiff, Nat.zero_le, not_false_eq_true, not_true_eq_false, false_implies, implies_true, true_implies, Nat.zero_lt_succ, Nat.lt_add_one, Lg1, og1, hl]
  repeat (with_reducible refine And.intro (by omega) ?_)
  refine PM_use (i_Row (r := B + 8) (cap := 500) Lg1 (by omega) Cg1 (by omega) (by omega) (d + 1)) ?_
  rintro v q1 lq1 ⟨rfl, P1, Q1⟩
  have Lq1 : q1.length = B + 10 := by omega
  have oq1 := (Q1 B (by omega)).trans og1
  obtain ⟨h2, E2, L2', o2, G2⟩ := set_ok oq1 (.inr (10, [.ref (B + 1), .ref (B + 8)]))
  show W_X10_init _ _ _ _ _ _ _ _ _
  simp only [w_X10_init_26, pm_1i_c, pm_2i_c, pm_1l_c, pm_2l_c, pm_1a_c, pm_ia_c, pm_iia_c, pm_va_c, pm_cp_c, pm_k0_c, pm_k1_c, pm_k2_c, pm_k3_c, pm_s1_c, pm_s2_c, pm_s3_c, pm_s4_c, pm_ri_c, pm_ra_c, pm_rn_c, pm_rk_i, pm_rk_z, pm_rk_a, pm_vk_i, pm_vk_z, pm_vk_a, pm_cti, pm_ctr, pm_ldi_z, pm_ldi_s, pm_lda_z, pm_lda_s, pm_cat_n, pm_cat_i, pm_cat_r, pm_cat_l, pm_obj, pm_arr, pm_opt, pm_ird, pm_aln, List.getElem?_cons_zero, List.getElem?_cons_succ, List.set_cons_zero, List.set_cons_succ, List.length_cons, List.length_nil, List.length_set, true_and, and_true, Nat.add_zero, Nat.zero_add, Nat.le_refl, Nat.reduceAdd, Nat.reduceLT, Nat.reduceLeDiff, Nat.zero_le, not_false_eq_true, not_true_eq_false, false_implies, implies_true, true_implies, Nat.zero_lt_succ, Nat.lt_add_one, pm_tl_n, pm_tl_s, sc_uL, oq1, Lq1]
  rw [E2]
  have L2 : h2.length = B + 10 := by omega
  have T1 : ∀ i, i ≠ B → i < B + 8 → h2[i]? = h1[i]? := fun i a b => by rw [G2 i a, Q1 i (by omega), Gg1 i (by omega)]
  clear Eg1 Lg1 Cg1 Gg1 og1 lq1 Lq1 oq1 E2 L2' Q1 o1 L1
  simp only [w_X10_init_29, pm_1i_c, pm_2i_c, pm_1l_c, pm_2l_c, pm_1a_c, pm_ia_c, pm_iia_c, pm_va_c, pm_cp_c, pm_k0_c, pm_k1_c, pm_k2_c, pm_k3_c, pm_s1_c, pm_s2_c, pm_s3_c, pm_s4_c, pm_ri_c, pm_ra_c, pm_rn_c, pm_rk_i, pm_rk_z, pm_rk_a, pm_vk_i, pm_vk_z, pm_vk_a, pm_cti, pm_ctr, pm_ldi_z, pm_ldi_s, pm_lda_z, pm_lda_s, pm_cat_n, pm_cat_i, pm_cat_r, pm_cat_l, pm_obj, pm_arr, pm_opt, pm_ird, pm_aln, List.getElem?_cons_zero, List.getElem?_cons_succ, List.set_cons_zero, List.set_cons_succ, List.length_cons, List.length_nil, List.length_set, true_and, and_true, Nat.add_zero, Nat.zero_add, Nat.le_refl, Nat.reduceAdd, Nat.reduceLT, Nat.reduceLeDiff, Nat.zero_le, not_false_eq_true, not_true_eq_false, false_implies, implies_true, true_implies, Nat.zero_lt_succ, Nat.lt_add_one, L2]
  have F2 : ∀ i, i ≠ B → i < B + 10 → h2[i]? = h2[i]? := fun _ _ _ => rfl
  have F1 : ∀ i, i ≠ B → i < B + 8 → h2[i]? = h1[i]? := fun i a b => (F2 i a (by omega)).trans (T1 i a b)
  have F0 : ∀ i, i ≠ B → i < B + 1 → h2[i]? = h[i]? := fun i a b => (F1 i a (by omega)).trans (T0 i a b)
  have R0 : ∀ i, i ≠ B → i < B + 8 → h2[i]? = q0[i]? := fun i a b => (F1 i a (by omega)).trans (G1 i a)
  have R1 : ∀ i, i ≠ B → i < B + 10 → h2[i]? = q1[i]? := fun i a b => (F2 i a (by omega)).trans (G2 i a)
  have FF : ∀ i, i < B → h2[i]? = h[i]? := fun i hi => F0 i (by omega) (by omega)
  repeat (with_reducible refine And.intro (by omega) ?_)
  refine ⟨?_, FF⟩
  exact ⟨o2, ⟨_, _, _, _, P0.kept2 (fun i x y => R0 i (by omega) (by omega))⟩, P1.kept (R1 _ (by omega) (by omega)) (R1 _ (by omega) (by omega))⟩
set_option maxHeartbeats 2000000 in
theorem i_Desk {h : pmH} {B : Nat} (hl : h.length = B + 1) (hb : B + 60 < 900000) (ho : h[B]? = some (.inr (2, pm_df 2))) (d : Nat) : PN (d + 3) 8 25 2164 [.ref B] h (fun v h' => v = none ∧ (dk_ h' B AD0) ∧ ∀ i, i < B → h'[i]? = h[i]?) := by
  refine en_X2_init rfl ?_
  rw [show pm_df 2 = [.null, .null, .null, .null, .null, .null, .null, .null, .null, .null, .null, .null, .int 0, .int 0, .int 0, .int 0, .int 0, .int 0] from rfl] at ho
  have L0 : h.length = B + 1 := hl
  have o0 := ho
  simp only [w_X2_init_0, w_X2_init_1, w_X2_init_4, w_X2_init_5, pm_1i_c, pm_2i_c, pm_1l_c, pm_2l_c, pm_1a_c, pm_ia_c, pm_iia_c, pm_va_c, pm_cp_c, pm_k0_c, pm_k1_c, pm_k2_c, pm_k3_c, pm_s1_c, pm_s2_c, pm_s3_c, pm_s4_c, pm_ri_c, pm_ra_c, pm_rn_c, pm_rk_i, pm_rk_z, pm_rk_a, pm_vk_i, pm_vk_z, pm_vk_a, pm_cti, pm_ctr, pm_ldi_z, pm_ldi_s, pm_lda_z, pm_lda_s, pm_cat_n, pm_cat_i, pm_cat_r, pm_cat_l, pm_obj, pm_arr, pm_opt, pm_ird, pm_aln, List.getElem?_cons_zero, List.getElem?_cons_succ, List.set_cons_zero, List.set_cons_succ, List.length_cons, List.length_nil, List.length_set, true_and, and_true, Nat.add_zero, Nat.zero_add, Nat.le_refl, Nat.reduceAdd, Nat.reduceLT, Nat.reduceLeDiff, Nat.zero_le, not_false_eq_true, not_true_eq_false, false_implies, implies_true, true_implies, Nat.zero_lt_succ, Nat.lt_add_one, L0, o0, hl]
  repeat (with_reducible refine And.intro (by omega) ?_)
  obtain ⟨g0, Eg0, Lg0, Cg0, Gg0⟩ := new_ok L0 (.inr (7, pm_df 7))
  rw [Eg0]
  have og0 := (Gg0 B (by omega)).trans o0
  simp only [w_X2_init_8, w_X2_init_9, pm_1i_c, pm_2i_c, pm_1l_c, pm_2l_c, pm_1a_c, pm_ia_c, pm_iia_c, pm_va_c, pm_cp_c, pm_k0_c, pm_k1_c, pm_k2_c, pm_k3_c, pm_s1_c, pm_s2_c, pm_s3_c, pm_s4_c, pm_ri_c, pm_ra_c, pm_rn_c, pm_rk_i, pm_rk_z, pm_rk_a, pm_vk_i, pm_vk_z, pm_vk_a, pm_cti, pm_ctr, pm_ldi_z, pm_ldi_s, pm_lda_z, pm_lda_s, pm_cat_n, pm_cat_i, pm_cat_r, pm_cat_l, pm_obj, pm_arr, pm_opt, pm_ird, pm_aln, List.getElem?_cons_zero, List.getElem?_cons_succ, List.set_cons_zero, List.set_cons_succ, List.length_cons, List.length_nil, List.length_set, true_and, and_true, Nat.add_zero, Nat.zero_add, Nat.le_refl, Nat.reduceAdd, Nat.reduceLT, Nat.reduceLeDiff, Nat.zero_le, not_false_eq_true, not_true_eq_false, false_implies, implies_true, true_implies, Nat.zero_lt_succ, Nat.lt_add_one, Lg0, og0, hl]
  repeat (with_reducible refine And.intro (by omega) ?_)
  refine PM_use (i_Shares2 Cg0 (d + 1)) ?_
  rintro v q0 lq0 ⟨rfl, P0, Q0⟩
  have Lq0 : q0.length = B + 2 := by omega
  have oq0 := (Q0 B (by omega)).trans og0
  obtain ⟨h1, E1, L1', o1, G1⟩ := set_ok oq0 (.inr (2, [.ref (B + 1), .null, .null, .null, .null, .null, .null, .null, .null, .null, .null, .null, .int 0, .int 0, .int 0, .int 0, .int 0, .int 0]))
  show W_X2_init _ _ _ _ _ _ _ _ _
  simp only [w_X2_init_12, pm_1i_c, pm_2i_c, pm_1l_c, pm_2l_c, pm_1a_c, pm_ia_c, pm_iia_c, pm_va_c, pm_cp_c, pm_k0_c, pm_k1_c, pm_k2_c, pm_k3_c, pm_s1_c, pm_s2_c, pm_s3_c, pm_s4_c, pm_ri_c, pm_ra_c, pm_rn_c, pm_rk_i, pm_rk_z, pm_rk_a, pm_vk_i, pm_vk_z, pm_vk_a, pm_cti, pm_ctr, pm_ldi_z, pm_ldi_s, pm_lda_z, pm_lda_s, pm_cat_n, pm_cat_i, pm_cat_r, pm_cat_l, pm_obj, pm_arr, pm_opt, pm_ird, pm_aln, List.getElem?_cons_zero, List.getElem?_cons_succ, List.set_cons_zero, List.set_cons_succ, List.length_cons, List.length_nil, List.length_set, true_and, and_true, Nat.add_zero, Nat.zero_add, Nat.le_refl, Nat.reduceAdd, Nat.reduceLT, Nat.reduceLeDiff, Nat.zero_le, not_false_eq_true, not_true_eq_false, false_implies, implies_true, true_implies, Nat.zero_lt_succ, Nat.lt_add_one, pm_tl_n, pm_tl_s, sc_uL, oq0, Lq0]
  rw [E1]
  have L1 : h1.length = B + 2 := by omega
  have T0 : ∀ i, i ≠ B → i < B + 1 → h1[i]? = h[i]? := fun i a b => by rw [G1 i a, Q0 i (by omega), Gg0 i (by omega)]
  clear Eg0 Lg0 Cg0 Gg0 og0 lq0 Lq0 oq0 E1 L1' Q0 o0
  simp only [w_X2_init_15, w_X2_init_16, pm_1i_c, pm_2i_c, pm_1l_c, pm_2l_c, pm_1a_c, pm_ia_c, pm_iia_c, pm_va_c, pm_cp_c, pm_k0_c, pm_k1_c, pm_k2_c, pm_k3_c, pm_s1_c, pm_s2_c, pm_s3_c, pm_s4_c, pm_ri_c, pm_ra_c, pm_rn_c, pm_rk_i, pm_rk_z, pm_rk_a, pm_vk_i, pm_vk_z, pm_vk_a, pm_cti, pm_ctr, pm_ldi_z, pm_ldi_s, pm_lda_z, pm_lda_s, pm_cat_n, pm_cat_i, pm_cat_r, pm_cat_l, pm_obj, pm_arr, pm_opt, pm_ird, pm_aln, List.getElem?_cons_zero, List.getElem?_cons_succ, List.set_cons_zero, List.set_cons_succ, List.length_cons, List.length_nil, List.length_set, true_and, and_true, Nat.add_zero, Nat.zero_add, Nat.le_refl, Nat.reduceAdd, Nat.reduceLT, Nat.reduceLeDiff, Nat.zero_le, not_false_eq_true, not_true_eq_false, false_implies, implies_true, true_implies, Nat.zero_lt_succ, Nat.lt_add_one, L1, o1, hl]
  repeat (with_reducible refine And.intro (by omega) ?_)
  obtain ⟨g1, Eg1, Lg1, Cg1, Gg1⟩ := new_ok L1 (.inr (8, pm_df 8))
  rw [Eg1]
  have og1 := (Gg1 B (by omega)).trans o1
  simp only [w_X2_init_19, w_X2_init_20, pm_1i_c, pm_2i_c, pm_1l_c, pm_2l_c, pm_1a_c, pm_ia_c, pm_iia_c, pm_va_c, pm_cp_c, pm_k0_c, pm_k1_c, pm_k2_c, pm_k3_c, pm_s1_c, pm_s2_c, pm_s3_c, pm_s4_c, pm_ri_c, pm_ra_c, pm_rn_c, pm_rk_i, pm_rk_z, pm_rk_a, pm_vk_i, pm_vk_z, pm_vk_a, pm_cti, pm_ctr, pm_ldi_z, pm_ldi_s, pm_lda_z, pm_lda_s, pm_cat_n, pm_cat_i, pm_cat_r, pm_cat_l, pm_obj, pm_arr, pm_opt, pm_ird, pm_aln, List.getElem?_cons_zero, List.getElem?_cons_succ, List.set_cons_zero, List.set_cons_succ, List.length_cons, List.length_nil, List.length_set, true_and, and_true, Nat.add_zero, Nat.zero_add, Nat.le_refl, Nat.reduceAdd, Nat.reduceLT, Nat.reduceLeDiff, Nat.zero_le, not_false_eq_true, not_true_eq_false, false_implies, implies_true, true_implies, Nat.zero_lt_succ, Nat.lt_add_one, Lg1, og1, hl]
  repeat (with_reducible refine And.intro (by omega) ?_)
  refine PM_use (i_Sketch Lg1 (by omega) Cg1 (d + 1)) ?_
  rintro v q1 lq1 ⟨rfl, P1, Q1⟩
  have Lq1 : q1.length = B + 5 := by omega
  have oq1 := (Q1 B (by omega)).trans og1
  obtain ⟨h2, E2, L2', o2, G2⟩ := set_ok oq1 (.inr (2, [.ref (B + 1), .ref (B + 2), .null, .null, .null, .null, .null, .null, .null, .null, .null, .null, .int 0, .int 0, .int 0, .int 0, .int 0, .int 0]))
  show W_X2_init _ _ _ _ _ _ _ _ _
  simp only [w_X2_init_23, pm_1i_c, pm_2i_c, pm_1l_c, pm_2l_c, pm_1a_c, pm_ia_c, pm_iia_c, pm_va_c, pm_cp_c, pm_k0_c, pm_k1_c, pm_k2_c, pm_k3_c, pm_s1_c, pm_s2_c, pm_s3_c, pm_s4_c, pm_ri_c, pm_ra_c, pm_rn_c, pm_rk_i, pm_rk_z, pm_rk_a, pm_vk_i, pm_vk_z, pm_vk_a, pm_cti, pm_ctr, pm_ldi_z, pm_ldi_s, pm_lda_z, pm_lda_s, pm_cat_n, pm_cat_i, pm_cat_r, pm_cat_l, pm_obj, pm_arr, pm_opt, pm_ird, pm_aln, List.getElem?_cons_zero, List.getElem?_cons_succ, List.set_cons_zero, List.set_cons_succ, List.length_cons, List.length_nil, List.length_set, true_and, and_true, Nat.add_zero, Nat.zero_add, Nat.le_refl, Nat.reduceAdd, Nat.reduceLT, Nat.reduceLeDiff, Nat.zero_le, not_false_eq_true, not_true_eq_false, false_implies, implies_true, true_implies, Nat.zero_lt_succ, Nat.lt_add_one, pm_tl_n, pm_tl_s, sc_uL, oq1, Lq1]
  rw [E2]
  have L2 : h2.length = B + 5 := by omega
  have T1 : ∀ i, i ≠ B → i < B + 2 → h2[i]? = h1[i]? := fun i a b => by rw [G2 i a, Q1 i (by omega), Gg1 i (by omega)]
  clear Eg1 Lg1 Cg1 Gg1 og1 lq1 Lq1 oq1 E2 L2' Q1 o1 L1
  simp only [w_X2_init_26, w_X2_init_27, pm_1i_c, pm_2i_c, pm_1l_c, pm_2l_c, pm_1a_c, pm_ia_c, pm_iia_c, pm_va_c, pm_cp_c, pm_k0_c, pm_k1_c, pm_k2_c, pm_k3_c, pm_s1_c, pm_s2_c, pm_s3_c, pm_s4_c, pm_ri_c, pm_ra_c, pm_rn_c, pm_rk_i, pm_rk_z, pm_rk_a, pm_vk_i, pm_vk_z, pm_vk_a, pm_cti, pm_ctr, pm_ldi_z, pm_ldi_s, pm_lda_z, pm_lda_s, pm_cat_n, pm_cat_i, pm_cat_r, pm_cat_l, pm_obj, pm_arr, pm_opt, pm_ird, pm_aln, List.getElem?_cons_zero, List.getElem?_cons_succ, List.set_cons_zero, List.set_cons_succ, List.length_cons, List.length_nil, List.length_set, true_and, and_true, Nat.add_zero, Nat.zero_add, Nat.le_refl, Nat.reduceAdd, Nat.reduceLT, Nat.reduceLeDiff, Nat.zero_le, not_false_eq_true, not_true_eq_false, false_implies, implies_true, true_implies, Nat.zero_lt_succ, Nat.lt_add_one, L2, o2, hl]
  repeat (with_reducible refine And.intro (by omega) ?_)
  obtain ⟨g2, Eg2, Lg2, Cg2, Gg2⟩ := new_ok L2 (.inr (3, pm_df 3))
  rw [Eg2]
  have og2 := (Gg2 B (by omega)).trans o2
  simp only [w_X2_init_30, w_X2_init_31, pm_1i_c, pm_2i_c, pm_1l_c, pm_2l_c, pm_1a_c, pm_ia_c, pm_iia_c, pm_va_c, pm_cp_c, pm_k0_c, pm_k1_c, pm_k2_c, pm_k3_c, pm_s1_c, pm_s2_c, pm_s3_c, pm_s4_c, pm_ri_c, pm_ra_c, pm_rn_c, pm_rk_i, pm_rk_z, pm_rk_a, pm_vk_i, pm_vk_z, pm_vk_a, pm_cti, pm_ctr, pm_ldi_z, pm_ldi_s, pm_lda_z, pm_lda_s, pm_cat_n, pm_cat_i, pm_cat_r, pm_cat_l, pm_obj, pm_arr, pm_opt, pm_ird, pm_aln, List.getElem?_cons_zero, List.getElem?_cons_succ, List.set_cons_zero, List.set_cons_succ, List.length_cons, List.length_nil, List.length_set, true_and, and_true, Nat.add_zero, Nat.zero_add, Nat.le_refl, Nat.reduceAdd, Nat.reduceLT, Nat.reduceLeDiff, Nat.zero_le, not_false_eq_true, not_true_eq_false, false_implies, implies_true, true_implies, Nat.zero_lt_succ, Nat.lt_add_one, Lg2, og2, hl]
  repeat (with_reducible refine And.intro (by omega) ?_)
  refine PM_use (i_Law (B := B + 5) Lg2 (by omega) Cg2 d) ?_
  rintro v q2 lq2 ⟨rfl, P2, Q2⟩
  have Lq2 : q2.length = B + 10 := by omega
  have oq2 := (Q2 B (by omega)).trans og2
  obtain ⟨h3, E3, L3', o3, G3⟩ := set_ok oq2 (.inr (2, [.ref (B + 1), .ref (B + 2), .ref (B + 5), .null, .null, .null, .null, .null, .null, .null, .null, .null, .int 0, .int 0, .int 0, .int 0, .int 0, .int 0]))
  show W_X2_init _ _ _ _ _ _ _ _ _
  simp only [w_X2_init_34, pm_1i_c, pm_2i_c, pm_1l_c, pm_2l_c, pm_1a_c, pm_ia_c, pm_iia_c, pm_va_c, pm_cp_c, pm_k0_c, pm_k1_c, pm_k2_c, pm_k3_c, pm_s1_c, pm_s2_c, pm_s3_c, pm_s4_c, pm_ri_c, pm_ra_c, pm_rn_c, pm_rk_i, pm_rk_z, pm_rk_a, pm_vk_i, pm_vk_z, pm_vk_a, pm_cti, pm_ctr, pm_ldi_z, pm_ldi_s, pm_lda_z, pm_lda_s, pm_cat_n, pm_cat_i, pm_cat_r, pm_cat_l, pm_obj, pm_arr, pm_opt, pm_ird, pm_aln, List.getElem?_cons_zero, List.getElem?_cons_succ, List.set_cons_zero, List.set_cons_succ, List.length_cons, List.length_nil, List.length_set, true_and, and_true, Nat.add_zero, Nat.zero_add, Nat.le_refl, Nat.reduceAdd, Nat.reduceLT, Nat.reduceLeDiff, Nat.zero_le, not_false_eq_true, not_true_eq_false, false_implies, implies_true, true_implies, Nat.zero_lt_succ, Nat.lt_add_one, pm_tl_n, pm_tl_s, sc_uL, oq2, Lq2]
  rw [E3]
  have L3 : h3.length = B + 10 := by omega
  have T2 : ∀ i, i ≠ B → i < B + 5 → h3[i]? = h2[i]? := fun i a b => by rw [G3 i a, Q2 i (by omega), Gg2 i (by omega)]
  clear Eg2 Lg2 Cg2 Gg2 og2 lq2 Lq2 oq2 E3 L3' Q2 o2 L2
  simp only [w_X2_init_37, w_X2_init_38, pm_1i_c, pm_2i_c, pm_1l_c, pm_2l_c, pm_1a_c, pm_ia_c, pm_iia_c, pm_va_c, pm_cp_c, pm_k0_c, pm_k1_c, pm_k2_c, pm_k3_c, pm_s1_c, pm_s2_c, pm_s3_c, pm_s4_c, pm_ri_c, pm_ra_c, pm_rn_c, pm_rk_i, pm_rk_z, pm_rk_a, pm_vk_i, pm_vk_z, pm_vk_a, pm_cti, pm_ctr, pm_ldi_z, pm_ldi_s, pm_lda_z, pm_lda_s, pm_cat_n, pm_cat_i, pm_cat_r, pm_cat_l, pm_obj, pm_arr, pm_opt, pm_ird, pm_aln, List.getElem?_cons_zero, List.getElem?_cons_succ, List.set_cons_zero, List.set_cons_succ, List.length_cons, List.length_nil, List.length_set, true_and, and_true, Nat.add_zero, Nat.zero_add, Nat.le_refl, Nat.reduceAdd, Nat.reduceLT, Nat.reduceLeDiff, Nat.zero_le, not_false_eq_true, not_true_eq_false, false_implies, implies_true, true_implies, Nat.zero_lt_succ, Nat.lt_add_one, L3, o3, hl]
  repeat (with_reducible refine And.intro (by omega) ?_)
  obtain ⟨g3, Eg3, Lg3, Cg3, Gg3⟩ := new_ok L3 (.inr (0, pm_df 0))
  rw [Eg3]
  have og3 := (Gg3 B (by omega)).trans o3
  simp only [w_X2_init_41, w_X2_init_42, pm_1i_c, pm_2i_c, pm_1l_c, pm_2l_c, pm_1a_c, pm_ia_c, pm_iia_c, pm_va_c, pm_cp_c, pm_k0_c, pm_k1_c, pm_k2_c, pm_k3_c, pm_s1_c, pm_s2_c, pm_s3_c, pm_s4_c, pm_ri_c, pm_ra_c, pm_rn_c, pm_rk_i, pm_rk_z, pm_rk_a, pm_vk_i, pm_vk_z, pm_vk_a, pm_cti, pm_ctr, pm_ldi_z, pm_ldi_s, pm_lda_z, pm_lda_s, pm_cat_n, pm_cat_i, pm_cat_r, pm_cat_l, pm_obj, pm_arr, pm_opt, pm_ird, pm_aln, List.getElem?_cons_zero, List.getElem?_cons_succ, List.set_cons_zero, List.set_cons_succ, List.length_cons, List.length_nil, List.length_set, true_and, and_true, Nat.add_zero, Nat.zero_add, Nat.le_refl, Nat.reduceAdd, Nat.reduceLT, Nat.reduceLeDiff, Nat.zero_le, not_false_eq_true, not_true_eq_false, false_implies, implies_true, true_implies, Nat.zero_lt_succ, Nat.lt_add_one, Lg3, og3, hl]
  repeat (with_reducible refine And.intro (by omega) ?_)
  refine PM_use (i_Climb2 Cg3 (d + 1)) ?_
  rintro v q3 lq3 ⟨rfl, P3, Q3⟩
  have Lq3 : q3.length = B + 11 := by omega
  have oq3 := (Q3 B (by omega)).trans og3
  obtain ⟨h4, E4, L4', o4, G4⟩ := set_ok oq3 (.inr (2, [.ref (B + 1), .ref (B + 2), .ref (B + 5), .ref (B + 10), .null, .null, .null, .null, .null, .null, .null, .null, .int 0, .int 0, .int 0, .int 0, .int 0, .int 0]))
  show W_X2_init _ _ _ _ _ _ _ _ _
  simp only [w_X2_init_45, pm_1i_c, pm_2i_c, pm_1l_c, pm_2l_c, pm_1a_c, pm_ia_c, pm_iia_c, pm_va_c, pm_cp_c, pm_k0_c, pm_k1_c, pm_k2_c, pm_k3_c, pm_s1_c, pm_s2_c, pm_s3_c, pm_s4_c, pm_ri_c, pm_ra_c, pm_rn_c, pm_rk_i, pm_rk_z, pm_rk_a, pm_vk_i, pm_vk_z, pm_vk_a, pm_cti, pm_ctr, pm_ldi_z, pm_ldi_s, pm_lda_z, pm_lda_s, pm_cat_n, pm_cat_i, pm_cat_r, pm_cat_l, pm_obj, pm_arr, pm_opt, pm_ird, pm_aln, List.getElem?_cons_zero, List.getElem?_cons_succ, List.set_cons_zero, List.set_cons_succ, List.length_cons, List.length_nil, List.length_set, true_and, and_true, Nat.add_zero, Nat.zero_add, Nat.le_refl, Nat.reduceAdd, Nat.reduceLT, Nat.reduceLeDiff, Nat.zero_le, not_false_eq_true, not_true_eq_false, false_implies, implies_true, true_implies, Nat.zero_lt_succ, Nat.lt_add_one, pm_tl_n, pm_tl_s, sc_uL, oq3, Lq3]
  rw [E4]
  have L4 : h4.length = B + 11 := by omega
  have T3 : ∀ i, i ≠ B → i < B + 10 → h4[i]? = h3[i]? := fun i a b => by rw [G4 i a, Q3 i (by omega), Gg3 i (by omega)]
  clear Eg3 Lg3 Cg3 Gg3 og3 lq3 Lq3 oq3 E4 L4' Q3 o3 L3
  simp only [w_X2_init_48, w_X2_init_49, pm_1i_c, pm_2i_c, pm_1l_c, pm_2l_c, pm_1a_c, pm_ia_c, pm_iia_c, pm_va_c, pm_cp_c, pm_k0_c, pm_k1_c, pm_k2_c, pm_k3_c, pm_s1_c, pm_s2_c, pm_s3_c, pm_s4_c, pm_ri_c, pm_ra_c, pm_rn_c, pm_rk_i, pm_rk_z, pm_rk_a, pm_vk_i, pm_vk_z, pm_vk_a, pm_cti, pm_ctr, pm_ldi_z, pm_ldi_s, pm_lda_z, pm_lda_s, pm_cat_n, pm_cat_i, pm_cat_r, pm_cat_l, pm_obj, pm_arr, pm_opt, pm_ird, pm_aln, List.getElem?_cons_zero, List.getElem?_cons_succ, List.set_cons_zero, List.set_cons_succ, List.length_cons, List.length_nil, List.length_set, true_and, and_true, Nat.add_zero, Nat.zero_add, Nat.le_refl, Nat.reduceAdd, Nat.reduceLT, Nat.reduceLeDiff, Nat.zero_le, not_false_eq_true, not_true_eq_false, false_implies, implies_true, true_implies, Nat.zero_lt_succ, Nat.lt_add_one, L4, o4, hl]
  repeat (with_reducible refine And.intro (by omega) ?_)
  obtain ⟨g4, Eg4, Lg4, Cg4, Gg4⟩ := new_ok L4 (.inr (1, pm_df 1))
  rw [Eg4]
  have og4 := (Gg4 B (by omega)).trans o4
  simp only [w_X2_init_52, w_X2_init_53, pm_1i_c, pm_2i_c, pm_1l_c, pm_2l_c, pm_1a_c, pm_ia_c, pm_iia_c, pm_va_c, pm_cp_c, pm_k0_c, pm_k1_c, pm_k2_c, pm_k3_c, pm_s1_c, pm_s2_c, pm_s3_c, pm_s4_c, pm_ri_c, pm_ra_c, pm_rn_c, pm_rk_i, pm_rk_z, pm_rk_a, pm_vk_i, pm_vk_z, pm_vk_a, pm_cti, pm_ctr, pm_ldi_z, pm_ldi_s, pm_lda_z, pm_lda_s, pm_cat_n, pm_cat_i, pm_cat_r, pm_cat_l, pm_obj, pm_arr, pm_opt, pm_ird, pm_aln, List.getElem?_cons_zero, List.getElem?_cons_succ, List.set_cons_zero, List.set_cons_succ, List.length_cons, List.length_nil, List.length_set, true_and, and_true, Nat.add_zero, Nat.zero_add, Nat.le_refl, Nat.reduceAdd, Nat.reduceLT, Nat.reduceLeDiff, Nat.zero_le, not_false_eq_true, not_true_eq_false, false_implies, implies_true, true_implies, Nat.zero_lt_succ, Nat.lt_add_one, Lg4, og4, hl]
  repeat (with_reducible refine And.intro (by omega) ?_)
  refine PM_use (i_Contest2 Cg4 (d + 1)) ?_
  rintro v q4 lq4 ⟨rfl, P4, Q4⟩
  have Lq4 : q4.length = B + 12 := by omega
  have oq4 := (Q4 B (by omega)).trans og4
  obtain ⟨h5, E5, L5', o5, G5⟩ := set_ok oq4 (.inr (2, [.ref (B + 1), .ref (B + 2), .ref (B + 5), .ref (B + 10), .ref (B + 11), .null, .null, .null, .null, .null, .null, .null, .int 0, .int 0, .int 0, .int 0, .int 0, .int 0]))
  show W_X2_init _ _ _ _ _ _ _ _ _
  simp only [w_X2_init_56, pm_1i_c, pm_2i_c, pm_1l_c, pm_2l_c, pm_1a_c, pm_ia_c, pm_iia_c, pm_va_c, pm_cp_c, pm_k0_c, pm_k1_c, pm_k2_c, pm_k3_c, pm_s1_c, pm_s2_c, pm_s3_c, pm_s4_c, pm_ri_c, pm_ra_c, pm_rn_c, pm_rk_i, pm_rk_z, pm_rk_a, pm_vk_i, pm_vk_z, pm_vk_a, pm_cti, pm_ctr, pm_ldi_z, pm_ldi_s, pm_lda_z, pm_lda_s, pm_cat_n, pm_cat_i, pm_cat_r, pm_cat_l, pm_obj, pm_arr, pm_opt, pm_ird, pm_aln, List.getElem?_cons_zero, List.getElem?_cons_succ, List.set_cons_zero, List.set_cons_succ, List.length_cons, List.length_nil, List.length_set, true_and, and_true, Nat.add_zero, Nat.zero_add, Nat.le_refl, Nat.reduceAdd, Nat.reduceLT, Nat.reduceLeDiff, Nat.zero_le, not_false_eq_true, not_true_eq_false, false_implies, implies_true, true_implies, Nat.zero_lt_succ, Nat.lt_add_one, pm_tl_n, pm_tl_s, sc_uL, oq4, Lq4]
  rw [E5]
  have L5 : h5.length = B + 12 := by omega
  have T4 : ∀ i, i ≠ B → i < B + 11 → h5[i]? = h4[i]? := fun i a b => by rw [G5 i a, Q4 i (by omega), Gg4 i (by omega)]
  clear Eg4 Lg4 Cg4 Gg4 og4 lq4 Lq4 oq4 E5 L5' Q4 o4 L4
  simp only [w_X2_init_59, w_X2_init_60, pm_1i_c, pm_2i_c, pm_1l_c, pm_2l_c, pm_1a_c, pm_ia_c, pm_iia_c, pm_va_c, pm_cp_c, pm_k0_c, pm_k1_c, pm_k2_c, pm_k3_c, pm_s1_c, pm_s2_c, pm_s3_c, pm_s4_c, pm_ri_c, pm_ra_c, pm_rn_c, pm_rk_i, pm_rk_z, pm_rk_a, pm_vk_i, pm_vk_z, pm_vk_a, pm_cti, pm_ctr, pm_ldi_z, pm_ldi_s, pm_lda_z, pm_lda_s, pm_cat_n, pm_cat_i, pm_cat_r, pm_cat_l, pm_obj, pm_arr, pm_opt, pm_ird, pm_aln, List.getElem?_cons_zero, List.getElem?_cons_succ, List.set_cons_zero, List.set_cons_succ, List.length_cons, List.length_nil, List.length_set, true_and, and_true, Nat.add_zero, Nat.zero_add, Nat.le_refl, Nat.reduceAdd, Nat.reduceLT, Nat.reduceLeDiff, Nat.zero_le, not_false_eq_true, not_true_eq_false, false_implies, implies_true, true_implies, Nat.zero_lt_succ, Nat.lt_add_one, L5, o5, hl]
  repeat (with_reducible refine And.intro (by omega) ?_)
  obtain ⟨g5, Eg5, Lg5, Cg5, Gg5⟩ := new_ok L5 (.inr (6, pm_df 6))
  rw [Eg5]
  have og5 := (Gg5 B (by omega)).trans o5
  simp only [w_X2_init_63, w_X2_init_64, w_X2_init_66, pm_1i_c, pm_2i_c, pm_1l_c, pm_2l_c, pm_1a_c, pm_ia_c, pm_iia_c, pm_va_c, pm_cp_c, pm_k0_c, pm_k1_c, pm_k2_c, pm_k3_c, pm_s1_c, pm_s2_c, pm_s3_c, pm_s4_c, pm_ri_c, pm_ra_c, pm_rn_c, pm_rk_i, pm_rk_z, pm_rk_a, pm_vk_i, pm_vk_z, pm_vk_a, pm_cti, pm_ctr, pm_ldi_z, pm_ldi_s, pm_lda_z, pm_lda_s, pm_cat_n, pm_cat_i, pm_cat_r, pm_cat_l, pm_obj, pm_arr, pm_opt, pm_ird, pm_aln, List.getElem?_cons_zero, List.getElem?_cons_succ, List.set_cons_zero, List.set_cons_succ, List.length_cons, List.length_nil, List.length_set, true_and, and_true, Nat.add_zero, Nat.zero_add, Nat.le_refl, Nat.reduceAdd, Nat.reduceLT, Nat.reduceLeDiff, Nat.zero_le, not_false_eq_true, not_true_eq_false, false_implies, implies_true, true_implies, Nat.zero_lt_succ, Nat.lt_add_one, Lg5, og5, hl]
  repeat (with_reducible refine And.intro (by omega) ?_)
  refine PM_use (i_Row (r := B + 12) (cap := 65) Lg5 (by omega) Cg5 (by omega) (by omega) (d + 1)) ?_
  rintro v q5 lq5 ⟨rfl, P5, Q5⟩
  have Lq5 : q5.length = B + 14 := by omega
  have oq5 := (Q5 B (by omega)).trans og5
  obtain ⟨h6, E6, L6', o6, G6⟩ := set_ok oq5 (.inr (2, [.ref (B + 1), .ref (B + 2), .ref (B + 5), .ref (B + 10), .ref (B + 11), .ref (B + 12), .null, .null, .null, .null, .null, .null, .int 0, .int 0, .int 0, .int 0, .int 0, .int 0]))
  show W_X2_init _ _ _ _ _ _ _ _ _
  simp only [w_X2_init_69, pm_1i_c, pm_2i_c, pm_1l_c, pm_2l_c, pm_1a_c, pm_ia_c, pm_iia_c, pm_va_c, pm_cp_c, pm_k0_c, pm_k1_c, pm_k2_c, pm_k3_c, pm_s1_c, pm_s2_c, pm_s3_c, pm_s4_c, pm_ri_c, pm_ra_c, pm_rn_c, pm_rk_i, pm_rk_z, pm_rk_a, pm_vk_i, pm_vk_z, pm_vk_a, pm_cti, pm_ctr, pm_ldi_z, pm_ldi_s, pm_lda_z, pm_lda_s, pm_cat_n, pm_cat_i, pm_cat_r, pm_cat_l, pm_obj, pm_arr, pm_opt, pm_ird, pm_aln, List.getElem?_cons_zero, List.getElem?_cons_succ, List.set_cons_zero, List.set_cons_succ, List.length_cons, List.length_nil, List.length_set, true_and, and_true, Nat.add_zero, Nat.zero_add, Nat.le_refl, Nat.reduceAdd, Nat.reduceLT, Nat.reduceLeDiff, Nat.zero_le, not_false_eq_true, not_true_eq_false, false_implies, implies_true, true_implies, Nat.zero_lt_succ, Nat.lt_add_one, pm_tl_n, pm_tl_s, sc_uL, oq5, Lq5]
  rw [E6]
  have L6 : h6.length = B + 14 := by omega
  have T5 : ∀ i, i ≠ B → i < B + 12 → h6[i]? = h5[i]? := fun i a b => by rw [G6 i a, Q5 i (by omega), Gg5 i (by omega)]
  clear Eg5 Lg5 Cg5 Gg5 og5 lq5 Lq5 oq5 E6 L6' Q5 o5 L5
  simp only [w_X2_init_72, w_X2_init_73, pm_1i_c, pm_2i_c, pm_1l_c, pm_2l_c, pm_1a_c, pm_ia_c, pm_iia_c, pm_va_c, pm_cp_c, pm_k0_c, pm_k1_c, pm_k2_c, pm_k3_c, pm_s1_c, pm_s2_c, pm_s3_c, pm_s4_c, pm_ri_c, pm_ra_c, pm_rn_c, pm_rk_i, pm_rk_z, pm_rk_a, pm_vk_i, pm_vk_z, pm_vk_a, pm_cti, pm_ctr, pm_ldi_z, pm_ldi_s, pm_lda_z, pm_lda_s, pm_cat_n, pm_cat_i, pm_cat_r, pm_cat_l, pm_obj, pm_arr, pm_opt, pm_ird, pm_aln, List.getElem?_cons_zero, List.getElem?_cons_succ, List.set_cons_zero, List.set_cons_succ, List.length_cons, List.length_nil, List.length_set, true_and, and_true, Nat.add_zero, Nat.zero_add, Nat.le_refl, Nat.reduceAdd, Nat.reduceLT, Nat.reduceLeDiff, Nat.zero_le, not_false_eq_true, not_true_eq_false, false_implies, implies_true, true_implies, Nat.zero_lt_succ, Nat.lt_add_one, L6, o6, hl]
  repeat (with_reducible refine And.intro (by omega) ?_)
  obtain ⟨g6, Eg6, Lg6, Cg6, Gg6⟩ := new_ok L6 (.inr (6, pm_df 6))
  rw [Eg6]
  have og6 := (Gg6 B (by omega)).trans o6
  simp only [w_X2_init_76, w_X2_init_77, w_X2_init_79, pm_1i_c, pm_2i_c, pm_1l_c, pm_2l_c, pm_1a_c, pm_ia_c, pm_iia_c, pm_va_c, pm_cp_c, pm_k0_c, pm_k1_c, pm_k2_c, pm_k3_c, pm_s1_c, pm_s2_c, pm_s3_c, pm_s4_c, pm_ri_c, pm_ra_c, pm_rn_c, pm_rk_i, pm_rk_z, pm_rk_a, pm_vk_i, pm_vk_z, pm_vk_a, pm_cti, pm_ctr, pm_ldi_z, pm_ldi_s, pm_lda_z, pm_lda_s, pm_cat_n, pm_cat_i, pm_cat_r, pm_cat_l, pm_obj, pm_arr, pm_opt, pm_ird, pm_aln, List.getElem?_cons_zero, List.getElem?_cons_succ, List.set_cons_zero, List.set_cons_succ, List.length_cons, List.length_nil, List.length_set, true_and, and_true, Nat.add_zero, Nat.zero_add, Nat.le_refl, Nat.reduceAdd, Nat.reduceLT, Nat.reduceLeDiff, Nat.zero_le, not_false_eq_true, not_true_eq_false, false_implies, implies_true, true_implies, Nat.zero_lt_succ, Nat.lt_add_one, Lg6, og6, hl]
  repeat (with_reducible refine And.intro (by omega) ?_)
  refine PM_use (i_Row (r := B + 14) (cap := 65) Lg6 (by omega) Cg6 (by omega) (by omega) (d + 1)) ?_
  rintro v q6 lq6 ⟨rfl, P6, Q6⟩
  have Lq6 : q6.length = B + 16 := by omega
  have oq6 := (Q6 B (by omega)).trans og6
  obtain ⟨h7, E7, L7', o7, G7⟩ := set_ok oq6 (.inr (2, [.ref (B + 1), .ref (B + 2), .ref (B + 5), .ref (B + 10), .ref (B + 11), .ref (B + 12), .ref (B + 14), .null, .null, .null, .null, .null, .int 0, .int 0, .int 0, .int 0, .int 0, .int 0]))
  show W_X2_init _ _ _ _ _ _ _ _ _
  simp only [w_X2_init_82, pm_1i_c, pm_2i_c, pm_1l_c, pm_2l_c, pm_1a_c, pm_ia_c, pm_iia_c, pm_va_c, pm_cp_c, pm_k0_c, pm_k1_c, pm_k2_c, pm_k3_c, pm_s1_c, pm_s2_c, pm_s3_c, pm_s4_c, pm_ri_c, pm_ra_c, pm_rn_c, pm_rk_i, pm_rk_z, pm_rk_a, pm_vk_i, pm_vk_z, pm_vk_a, pm_cti, pm_ctr, pm_ldi_z, pm_ldi_s, pm_lda_z, pm_lda_s, pm_cat_n, pm_cat_i, pm_cat_r, pm_cat_l, pm_obj, pm_arr, pm_opt, pm_ird, pm_aln, List.getElem?_cons_zero, List.getElem?_cons_succ, List.set_cons_zero, List.set_cons_succ, List.length_cons, List.length_nil, List.length_set, true_and, and_true, Nat.add_zero, Nat.zero_add, Nat.le_refl, Nat.reduceAdd, Nat.reduceLT, Nat.reduceLeDiff, Nat.zero_le, not_false_eq_true, not_true_eq_false, false_implies, implies_true, true_implies, Nat.zero_lt_succ, Nat.lt_add_one, pm_tl_n, pm_tl_s, sc_uL, oq6, Lq6]
  rw [E7]
  have L7 : h7.length = B + 16 := by omega
  have T6 : ∀ i, i ≠ B → i < B + 14 → h7[i]? = h6[i]? := fun i a b => by rw [G7 i a, Q6 i (by omega), Gg6 i (by omega)]
  clear Eg6 Lg6 Cg6 Gg6 og6 lq6 Lq6 oq6 E7 L7' Q6 o6 L6
  simp only [w_X2_init_85, w_X2_init_86, pm_1i_c, pm_2i_c, pm_1l_c, pm_2l_c, pm_1a_c, pm_ia_c, pm_iia_c, pm_va_c, pm_cp_c, pm_k0_c, pm_k1_c, pm_k2_c, pm_k3_c, pm_s1_c, pm_s2_c, pm_s3_c, pm_s4_c, pm_ri_c, pm_ra_c, pm_rn_c, pm_rk_i, pm_rk_z, pm_rk_a, pm_vk_i, pm_vk_z, pm_vk_a, pm_cti, pm_ctr, pm_ldi_z, pm_ldi_s, pm_lda_z, pm_lda_s, pm_cat_n, pm_cat_i, pm_cat_r, pm_cat_l, pm_obj, pm_arr, pm_opt, pm_ird, pm_aln, List.getElem?_cons_zero, List.getElem?_cons_succ, List.set_cons_zero, List.set_cons_succ, List.length_cons, List.length_nil, List.length_set, true_and, and_true, Nat.add_zero, Nat.zero_add, Nat.le_refl, Nat.reduceAdd, Nat.reduceLT, Nat.reduceLeDiff, Nat.zero_le, not_false_eq_true, not_true_eq_false, false_implies, implies_true, true_implies, Nat.zero_lt_succ, Nat.lt_add_one, L7, o7, hl]
  repeat (with_reducible refine And.intro (by omega) ?_)
  obtain ⟨g7, Eg7, Lg7, Cg7, Gg7⟩ := new_ok L7 (.inr (6, pm_df 6))
  rw [Eg7]
  have og7 := (Gg7 B (by omega)).trans o7
  simp only [w_X2_init_89, w_X2_init_90, w_X2_init_92, pm_1i_c, pm_2i_c, pm_1l_c, pm_2l_c, pm_1a_c, pm_ia_c, pm_iia_c, pm_va_c, pm_cp_c, pm_k0_c, pm_k1_c, pm_k2_c, pm_k3_c, pm_s1_c, pm_s2_c, pm_s3_c, pm_s4_c, pm_ri_c, pm_ra_c, pm_rn_c, pm_rk_i, pm_rk_z, pm_rk_a, pm_vk_i, pm_vk_z, pm_vk_a, pm_cti, pm_ctr, pm_ldi_z, pm_ldi_s, pm_lda_z, pm_lda_s, pm_cat_n, pm_cat_i, pm_cat_r, pm_cat_l, pm_obj, pm_arr, pm_opt, pm_ird, pm_aln, List.getElem?_cons_zero, List.getElem?_cons_succ, List.set_cons_zero, List.set_cons_succ, List.length_cons, List.length_nil, List.length_set, true_and, and_true, Nat.add_zero, Nat.zero_add, Nat.le_refl, Nat.reduceAdd, Nat.reduceLT, Nat.reduceLeDiff, Nat.zero_le, not_false_eq_true, not_true_eq_false, false_implies, implies_true, true_implies, Nat.zero_lt_succ, Nat.lt_add_one, Lg7, og7, hl]
  repeat (with_reducible refine And.intro (by omega) ?_)
  refine PM_use (i_Row (r := B + 16) (cap := 65) Lg7 (by omega) Cg7 (by omega) (by omega) (d + 1)) ?_
  rintro v q7 lq7 ⟨rfl, P7, Q7⟩
  have Lq7 : q7.length = B + 18 := by omega
  have oq7 := (Q7 B (by omega)).trans og7
  obtain ⟨h8, E8, L8', o8, G8⟩ := set_ok oq7 (.inr (2, [.ref (B + 1), .ref (B + 2), .ref (B + 5), .ref (B + 10), .ref (B + 11), .ref (B + 12), .ref (B + 14), .ref (B + 16), .null, .null, .null, .null, .int 0, .int 0, .int 0, .int 0, .int 0, .int 0]))
  show W_X2_init _ _ _ _ _ _ _ _ _
  simp only [w_X2_init_95, pm_1i_c, pm_2i_c, pm_1l_c, pm_2l_c, pm_1a_c, pm_ia_c, pm_iia_c, pm_va_c, pm_cp_c, pm_k0_c, pm_k1_c, pm_k2_c, pm_k3_c, pm_s1_c, pm_s2_c, pm_s3_c, pm_s4_c, pm_ri_c, pm_ra_c, pm_rn_c, pm_rk_i, pm_rk_z, pm_rk_a, pm_vk_i, pm_vk_z, pm_vk_a, pm_cti, pm_ctr, pm_ldi_z, pm_ldi_s, pm_lda_z, pm_lda_s, pm_cat_n, pm_cat_i, pm_cat_r, pm_cat_l, pm_obj, pm_arr, pm_opt, pm_ird, pm_aln, List.getElem?_cons_zero, List.getElem?_cons_succ, List.set_cons_zero, List.set_cons_succ, List.length_cons, List.length_nil, List.length_set, true_and, and_true, Nat.add_zero, Nat.zero_add, Nat.le_refl, Nat.reduceAdd, Nat.reduceLT, Nat.reduceLeDiff, Nat.zero_le, not_false_eq_true, not_true_eq_false, false_implies, implies_true, true_implies, Nat.zero_lt_succ, Nat.lt_add_one, pm_tl_n, pm_tl_s, sc_uL, oq7, Lq7]
  rw [E8]
  have L8 : h8.length = B + 18 := by omega
  have T7 : ∀ i, i ≠ B → i < B + 16 → h8[i]? = h7[i]? := fun i a b => by rw [G8 i a, Q7 i (by omega), Gg7 i (by omega)]
  clear Eg7 Lg7 Cg7 Gg7 og7 lq7 Lq7 oq7 E8 L8' Q7 o7 L7
  simp only [w_X2_init_98, w_X2_init_99, pm_1i_c, pm_2i_c, pm_1l_c, pm_2l_c, pm_1a_c, pm_ia_c, pm_iia_c, pm_va_c, pm_cp_c, pm_k0_c, pm_k1_c, pm_k2_c, pm_k3_c, pm_s1_c, pm_s2_c, pm_s3_c, pm_s4_c, pm_ri_c, pm_ra_c, pm_rn_c, pm_rk_i, pm_rk_z, pm_rk_a, pm_vk_i, pm_vk_z, pm_vk_a, pm_cti, pm_ctr, pm_ldi_z, pm_ldi_s, pm_lda_z, pm_lda_s, pm_cat_n, pm_cat_i, pm_cat_r, pm_cat_l, pm_obj, pm_arr, pm_opt, pm_ird, pm_aln, List.getElem?_cons_zero, List.getElem?_cons_succ, List.set_cons_zero, List.set_cons_succ, List.length_cons, List.length_nil, List.length_set, true_and, and_true, Nat.add_zero, Nat.zero_add, Nat.le_refl, Nat.reduceAdd, Nat.reduceLT, Nat.reduceLeDiff, Nat.zero_le, not_false_eq_true, not_true_eq_false, false_implies, implies_true, true_implies, Nat.zero_lt_succ, Nat.lt_add_one, L8, o8, hl]
  repeat (with_reducible refine And.intro (by omega) ?_)
  obtain ⟨g8, Eg8, Lg8, Cg8, Gg8⟩ := new_ok L8 (.inr (6, pm_df 6))
  rw [Eg8]
  have og8 := (Gg8 B (by omega)).trans o8
  simp only [w_X2_init_102, w_X2_init_103, w_X2_init_105, pm_1i_c, pm_2i_c, pm_1l_c, pm_2l_c, pm_1a_c, pm_ia_c, pm_iia_c, pm_va_c, pm_cp_c, pm_k0_c, pm_k1_c, pm_k2_c, pm_k3_c, pm_s1_c, pm_s2_c, pm_s3_c, pm_s4_c, pm_ri_c, pm_ra_c, pm_rn_c, pm_rk_i, pm_rk_z, pm_rk_a, pm_vk_i, pm_vk_z, pm_vk_a, pm_cti, pm_ctr, pm_ldi_z, pm_ldi_s, pm_lda_z, pm_lda_s, pm_cat_n, pm_cat_i, pm_cat_r, pm_cat_l, pm_obj, pm_arr, pm_opt, pm_ird, pm_aln, List.getElem?_cons_zero, List.getElem?_cons_succ, List.set_cons_zero, List.set_cons_succ, List.length_cons, List.length_nil, List.length_set, true_and, and_true, Nat.add_zero, Nat.zero_add, Nat.le_refl, Nat.reduceAdd, Nat.reduceLT, Nat.reduceLeDiff, Nat.zero_le, not_false_eq_true, not_true_eq_false, false_implies, implies_true, true_implies, Nat.zero_lt_succ, Nat.lt_add_one, Lg8, og8, hl]
  repeat (with_reducible refine And.intro (by omega) ?_)
  refine PM_use (i_Row (r := B + 18) (cap := 16) Lg8 (by omega) Cg8 (by omega) (by omega) (d + 1)) ?_
  rintro v q8 lq8 ⟨rfl, P8, Q8⟩
  have Lq8 : q8.length = B + 20 := by omega
  have oq8 := (Q8 B (by omega)).trans og8
  obtain ⟨h9, E9, L9', o9, G9⟩ := set_ok oq8 (.inr (2, [.ref (B + 1), .ref (B + 2), .ref (B + 5), .ref (B + 10), .ref (B + 11), .ref (B + 12), .ref (B + 14), .ref (B + 16), .ref (B + 18), .null, .null, .null, .int 0, .int 0, .int 0, .int 0, .int 0, .int 0]))
  show W_X2_init _ _ _ _ _ _ _ _ _
  simp only [w_X2_init_108, pm_1i_c, pm_2i_c, pm_1l_c, pm_2l_c, pm_1a_c, pm_ia_c, pm_iia_c, pm_va_c, pm_cp_c, pm_k0_c, pm_k1_c, pm_k2_c, pm_k3_c, pm_s1_c, pm_s2_c, pm_s3_c, pm_s4_c, pm_ri_c, pm_ra_c, pm_rn_c, pm_rk_i, pm_rk_z, pm_rk_a, pm_vk_i, pm_vk_z, pm_vk_a, pm_cti, pm_ctr, pm_ldi_z, pm_ldi_s, pm_lda_z, pm_lda_s, pm_cat_n, pm_cat_i, pm_cat_r, pm_cat_l, pm_obj, pm_arr, pm_opt, pm_ird, pm_aln, List.getElem?_cons_zero, List.getElem?_cons_succ, List.set_cons_zero, List.set_cons_succ, List.length_cons, List.length_nil, List.length_set, true_and, and_true, Nat.add_zero, Nat.zero_add, Nat.le_refl, Nat.reduceAdd, Nat.reduceLT, Nat.reduceLeDiff, Nat.zero_le, not_false_eq_true, not_true_eq_false, false_implies, implies_true, true_implies, Nat.zero_lt_succ, Nat.lt_add_one, pm_tl_n, pm_tl_s, sc_uL, oq8, Lq8]
  rw [E9]
  have L9 : h9.length = B + 20 := by omega
  have T8 : ∀ i, i ≠ B → i < B + 18 → h9[i]? = h8[i]? := fun i a b => by rw [G9 i a, Q8 i (by omega), Gg8 i (by omega)]
  clear Eg8 Lg8 Cg8 Gg8 og8 lq8 Lq8 oq8 E9 L9' Q8 o8 L8
  simp only [w_X2_init_111, w_X2_init_112, pm_1i_c, pm_2i_c, pm_1l_c, pm_2l_c, pm_1a_c, pm_ia_c, pm_iia_c, pm_va_c, pm_cp_c, pm_k0_c, pm_k1_c, pm_k2_c, pm_k3_c, pm_s1_c, pm_s2_c, pm_s3_c, pm_s4_c, pm_ri_c, pm_ra_c, pm_rn_c, pm_rk_i, pm_rk_z, pm_rk_a, pm_vk_i, pm_vk_z, pm_vk_a, pm_cti, pm_ctr, pm_ldi_z, pm_ldi_s, pm_lda_z, pm_lda_s, pm_cat_n, pm_cat_i, pm_cat_r, pm_cat_l, pm_obj, pm_arr, pm_opt, pm_ird, pm_aln, List.getElem?_cons_zero, List.getElem?_cons_succ, List.set_cons_zero, List.set_cons_succ, List.length_cons, List.length_nil, List.length_set, true_and, and_true, Nat.add_zero, Nat.zero_add, Nat.le_refl, Nat.reduceAdd, Nat.reduceLT, Nat.reduceLeDiff, Nat.zero_le, not_false_eq_true, not_true_eq_false, false_implies, implies_true, true_implies, Nat.zero_lt_succ, Nat.lt_add_one, L9, o9, hl]
  repeat (with_reducible refine And.intro (by omega) ?_)
  obtain ⟨g9, Eg9, Lg9, Cg9, Gg9⟩ := new_ok L9 (.inr (6, pm_df 6))
  rw [Eg9]
  have og9 := (Gg9 B (by omega)).trans o9
  simp only [w_X2_init_115, w_X2_init_116, w_X2_init_118, pm_1i_c, pm_2i_c, pm_1l_c, pm_2l_c, pm_1a_c, pm_ia_c, pm_iia_c, pm_va_c, pm_cp_c, pm_k0_c, pm_k1_c, pm_k2_c, pm_k3_c, pm_s1_c, pm_s2_c, pm_s3_c, pm_s4_c, pm_ri_c, pm_ra_c, pm_rn_c, pm_rk_i, pm_rk_z, pm_rk_a, pm_vk_i, pm_vk_z, pm_vk_a, pm_cti, pm_ctr, pm_ldi_z, pm_ldi_s, pm_lda_z, pm_lda_s, pm_cat_n, pm_cat_i, pm_cat_r, pm_cat_l, pm_obj, pm_arr, pm_opt, pm_ird, pm_aln, List.getElem?_cons_zero, List.getElem?_cons_succ, List.set_cons_zero, List.set_cons_succ, List.length_cons, List.length_nil, List.length_set, true_and, and_true, Nat.add_zero, Nat.zero_add, Nat.le_refl, Nat.reduceAdd, Nat.reduceLT, Nat.reduceLeDiff, Nat.zero_le, not_false_eq_true, not_true_eq_false, false_implies, implies_true, true_implies, Nat.zero_lt_succ, Nat.lt_add_one, Lg9, og9, hl]
  repeat (with_reducible refine And.intro (by omega) ?_)
  refine PM_use (i_Row (r := B + 20) (cap := 100) Lg9 (by omega) Cg9 (by omega) (by omega) (d + 1)) ?_
  rintro v q9 lq9 ⟨rfl, P9, Q9⟩
  have Lq9 : q9.length = B + 22 := by omega
  have oq9 := (Q9 B (by omega)).trans og9
  obtain ⟨h10, E10, L10', o10, G10⟩ := set_ok oq9 (.inr (2, [.ref (B + 1), .ref (B + 2), .ref (B + 5), .ref (B + 10), .ref (B + 11), .ref (B + 12), .ref (B + 14), .ref (B + 16), .ref (B + 18), .ref (B + 20), .null, .null, .int 0, .int 0, .int 0, .int 0, .int 0, .int 0]))
  show W_X2_init _ _ _ _ _ _ _ _ _
  simp only [w_X2_init_121, pm_1i_c, pm_2i_c, pm_1l_c, pm_2l_c, pm_1a_c, pm_ia_c, pm_iia_c, pm_va_c, pm_cp_c, pm_k0_c, pm_k1_c, pm_k2_c, pm_k3_c, pm_s1_c, pm_s2_c, pm_s3_c, pm_s4_c, pm_ri_c, pm_ra_c, pm_rn_c, pm_rk_i, pm_rk_z, pm_rk_a, pm_vk_i, pm_vk_z, pm_vk_a, pm_cti, pm_ctr, pm_ldi_z, pm_ldi_s, pm_lda_z, pm_lda_s, pm_cat_n, pm_cat_i, pm_cat_r, pm_cat_l, pm_obj, pm_arr, pm_opt, pm_ird, pm_aln, List.getElem?_cons_zero, List.getElem?_cons_succ, List.set_cons_zero, List.set_cons_succ, List.length_cons, List.length_nil, List.length_set, true_and, and_true, Nat.add_zero, Nat.zero_add, Nat.le_refl, Nat.reduceAdd, Nat.reduceLT, Nat.reduceLeDiff, Nat.zero_le, not_false_eq_true, not_true_eq_false, false_implies, implies_true, true_implies, Nat.zero_lt_succ, Nat.lt_add_one, pm_tl_n, pm_tl_s, sc_uL, oq9, Lq9]
  rw [E10]
  have L10 : h10.length = B + 22 := by omega
  have T9 : ∀ i, i ≠ B → i < B + 20 → h10[i]? = h9[i]? := fun i a b => by rw [G10 i a, Q9 i (by omega), Gg9 i (by omega)]
  clear Eg9 Lg9 Cg9 Gg9 og9 lq9 Lq9 oq9 E10 L10' Q9 o9 L9
  simp only [w_X2_init_124, w_X2_init_125, pm_1i_c, pm_2i_c, pm_1l_c, pm_2l_c, pm_1a_c, pm_ia_c, pm_iia_c, pm_va_c, pm_cp_c, pm_k0_c, pm_k1_c, pm_k2_c, pm_k3_c, pm_s1_c, pm_s2_c, pm_s3_c, pm_s4_c, pm_ri_c, pm_ra_c, pm_rn_c, pm_rk_i, pm_rk_z, pm_rk_a, pm_vk_i, pm_vk_z, pm_vk_a, pm_cti, pm_ctr, pm_ldi_z, pm_ldi_s, pm_lda_z, pm_lda_s, pm_cat_n, pm_cat_i, pm_cat_r, pm_cat_l, pm_obj, pm_arr, pm_opt, pm_ird, pm_aln, List.getElem?_cons_zero, List.getElem?_cons_succ, List.set_cons_zero, List.set_cons_succ, List.length_cons, List.length_nil, List.length_set, true_and, and_true, Nat.add_zero, Nat.zero_add, Nat.le_refl, Nat.reduceAdd, Nat.reduceLT, Nat.reduceLeDiff, Nat.zero_le, not_false_eq_true, not_true_eq_false, false_implies, implies_true, true_implies, Nat.zero_lt_succ, Nat.lt_add_one, L10, o10, hl]
  repeat (with_reducible refine And.intro (by omega) ?_)
  obtain ⟨g10, Eg10, Lg10, Cg10, Gg10⟩ := new_ok L10 (.inr (6, pm_df 6))
  rw [Eg10]
  have og10 := (Gg10 B (by omega)).trans o10
  simp only [w_X2_init_128, w_X2_init_129, w_X2_init_131, pm_1i_c, pm_2i_c, pm_1l_c, pm_2l_c, pm_1a_c, pm_ia_c, pm_iia_c, pm_va_c, pm_cp_c, pm_k0_c, pm_k1_c, pm_k2_c, pm_k3_c, pm_s1_c, pm_s2_c, pm_s3_c, pm_s4_c, pm_ri_c, pm_ra_c, pm_rn_c, pm_rk_i, pm_rk_z, pm_rk_a, pm_vk_i, pm_vk_z, pm_vk_a, pm_cti, pm_ctr, pm_ldi_z, pm_ldi_s, pm_lda_z, pm_lda_s, pm_cat_n, pm_cat_i, pm_cat_r, pm_cat_l, pm_obj, pm_arr, pm_opt, pm_ird, pm_aln, List.getElem?_cons_zero, List.getElem?_cons_succ, List.set_cons_zero, List.set_cons_succ, List.length_cons, List.length_nil, List.length_set, true_and, and_true, Nat.add_zero, Nat.zero_add, Nat.le_refl, Nat.reduceAdd, Nat.reduceLT, Nat.reduceLeDiff, Nat.zero_le, not_false_eq_true, not_true_eq_false, false_implies, implies_true, true_implies, Nat.zero_lt_succ, Nat.lt_add_one, Lg10, og10, hl]
  repeat (with_reducible refine And.intro (by omega) ?_)
  refine PM_use (i_Row (r := B + 22) (cap := 8) Lg10 (by omega) Cg10 (by omega) (by omega) (d + 1)) ?_
  rintro v q10 lq10 ⟨rfl, P10, Q10⟩
  have Lq10 : q10.length = B + 24 := by omega
  have oq10 := (Q10 B (by omega)).trans og10
  obtain ⟨h11, E11, L11', o11, G11⟩ := set_ok oq10 (.inr (2, [.ref (B + 1), .ref (B + 2), .ref (B + 5), .ref (B + 10), .ref (B + 11), .ref (B + 12), .ref (B + 14), .ref (B + 16), .ref (B + 18), .ref (B + 20), .ref (B + 22), .null, .int 0, .int 0, .int 0, .int 0, .int 0, .int 0]))
  show W_X2_init _ _ _ _ _ _ _ _ _
  simp only [w_X2_init_134, pm_1i_c, pm_2i_c, pm_1l_c, pm_2l_c, pm_1a_c, pm_ia_c, pm_iia_c, pm_va_c, pm_cp_c, pm_k0_c, pm_k1_c, pm_k2_c, pm_k3_c, pm_s1_c, pm_s2_c, pm_s3_c, pm_s4_c, pm_ri_c, pm_ra_c, pm_rn_c, pm_rk_i, pm_rk_z, pm_rk_a, pm_vk_i, pm_vk_z, pm_vk_a, pm_cti, pm_ctr, pm_ldi_z, pm_ldi_s, pm_lda_z, pm_lda_s, pm_cat_n, pm_cat_i, pm_cat_r, pm_cat_l, pm_obj, pm_arr, pm_opt, pm_ird, pm_aln, List.getElem?_cons_zero, List.getElem?_cons_succ, List.set_cons_zero, List.set_cons_succ, List.length_cons, List.length_nil, List.length_set, true_and, and_true, Nat.add_zero, Nat.zero_add, Nat.le_refl, Nat.reduceAdd, Nat.reduceLT, Nat.reduceLeDiff, Nat.zero_le, not_false_eq_true, not_true_eq_false, false_implies, implies_true, true_implies, Nat.zero_lt_succ, Nat.lt_add_one, pm_tl_n, pm_tl_s, sc_uL, oq10, Lq10]
  rw [E11]
  have L11 : h11.length = B + 24 := by omega
  have T10 : ∀ i, i ≠ B → i < B + 22 → h11[i]? = h10[i]? := fun i a b => by rw [G11 i a, Q10 i (by omega), Gg10 i (by omega)]
  clear Eg10 Lg10 Cg10 Gg10 og10 lq10 Lq10 oq10 E11 L11' Q10 o10 L10
  simp only [w_X2_init_137, w_X2_init_138, pm_1i_c, pm_2i_c, pm_1l_c, pm_2l_c, pm_1a_c, pm_ia_c, pm_iia_c, pm_va_c, pm_cp_c, pm_k0_c, pm_k1_c, pm_k2_c, pm_k3_c, pm_s1_c, pm_s2_c, pm_s3_c, pm_s4_c, pm_ri_c, pm_ra_c, pm_rn_c, pm_rk_i, pm_rk_z, pm_rk_a, pm_vk_i, pm_vk_z, pm_vk_a, pm_cti, pm_ctr, pm_ldi_z, pm_ldi_s, pm_lda_z, pm_lda_s, pm_cat_n, pm_cat_i, pm_cat_r, pm_cat_l, pm_obj, pm_arr, pm_opt, pm_ird, pm_aln, List.getElem?_cons_zero, List.getElem?_cons_succ, List.set_cons_zero, List.set_cons_succ, List.length_cons, List.length_nil, List.length_set, true_and, and_true, Nat.add_zero, Nat.zero_add, Nat.le_refl, Nat.reduceAdd, Nat.reduceLT, Nat.reduceLeDiff, Nat.zero_le, not_false_eq_true, not_true_eq_false, false_implies, implies_true, true_implies, Nat.zero_lt_succ, Nat.lt_add_one, L11, o11, hl]
  repeat (with_reducible refine And.intro (by omega) ?_)
  obtain ⟨g11, Eg11, Lg11, Cg11, Gg11⟩ := new_ok L11 (.inr (6, pm_df 6))
  rw [Eg11]
  have og11 := (Gg11 B (by omega)).trans o11
  simp only [w_X2_init_141, w_X2_init_142, w_X2_init_144, pm_1i_c, pm_2i_c, pm_1l_c, pm_2l_c, pm_1a_c, pm_ia_c, pm_iia_c, pm_va_c, pm_cp_c, pm_k0_c, pm_k1_c, pm_k2_c, pm_k3_c, pm_s1_c, pm_s2_c, pm_s3_c, pm_s4_c, pm_ri_c, pm_ra_c, pm_rn_c, pm_rk_i, pm_rk_z, pm_rk_a, pm_vk_i, pm_vk_z, pm_vk_a, pm_cti, pm_ctr, pm_ldi_z, pm_ldi_s, pm_lda_z, pm_lda_s, pm_cat_n, pm_cat_i, pm_cat_r, pm_cat_l, pm_obj, pm_arr, pm_opt, pm_ird, pm_aln, List.getElem?_cons_zero, List.getElem?_cons_succ, List.set_cons_zero, List.set_cons_succ, List.length_cons, List.length_nil, List.length_set, true_and, and_true, Nat.add_zero, Nat.zero_add, Nat.le_refl, Nat.reduceAdd, Nat.reduceLT, Nat.reduceLeDiff, Nat.zero_le, not_false_eq_true, not_true_eq_false, false_implies, implies_true, true_implies, Nat.zero_lt_succ, Nat.lt_add_one, Lg11, og11, hl]
  repeat (with_reducible refine And.intro (by omega) ?_)
  refine PM_use (i_Row (r := B + 24) (cap := 65) Lg11 (by omega) Cg11 (by omega) (by omega) (d + 1)) ?_
  rintro v q11 lq11 ⟨rfl, P11, Q11⟩
  have Lq11 : q11.length = B + 26 := by omega
  have oq11 := (Q11 B (by omega)).trans og11
  obtain ⟨h12, E12, L12', o12, G12⟩ := set_ok oq11 (.inr (2, [.ref (B + 1), .ref (B + 2), .ref (B + 5), .ref (B + 10), .ref (B + 11), .ref (B + 12), .ref (B + 14), .ref (B + 16), .ref (B + 18), .ref (B + 20), .ref (B + 22), .ref (B + 24), .int 0, .int 0, .int 0, .int 0, .int 0, .int 0]))
  show W_X2_init _ _ _ _ _ _ _ _ _
  simp only [w_X2_init_147, pm_1i_c, pm_2i_c, pm_1l_c, pm_2l_c, pm_1a_c, pm_ia_c, pm_iia_c, pm_va_c, pm_cp_c, pm_k0_c, pm_k1_c, pm_k2_c, pm_k3_c, pm_s1_c, pm_s2_c, pm_s3_c, pm_s4_c, pm_ri_c, pm_ra_c, pm_rn_c, pm_rk_i, pm_rk_z, pm_rk_a, pm_vk_i, pm_vk_z, pm_vk_a, pm_cti, pm_ctr, pm_ldi_z, pm_ldi_s, pm_lda_z, pm_lda_s, pm_cat_n, pm_cat_i, pm_cat_r, pm_cat_l, pm_obj, pm_arr, pm_opt, pm_ird, pm_aln, List.getElem?_cons_zero, List.getElem?_cons_succ, List.set_cons_zero, List.set_cons_succ, List.length_cons, List.length_nil, List.length_set, true_and, and_true, Nat.add_zero, Nat.zero_add, Nat.le_refl, Nat.reduceAdd, Nat.reduceLT, Nat.reduceLeDiff, Nat.zero_le, not_false_eq_true, not_true_eq_false, false_implies, implies_true, true_implies, Nat.zero_lt_succ, Nat.lt_add_one, pm_tl_n, pm_tl_s, sc_uL, oq11, Lq11]
  rw [E12]
  have L12 : h12.length = B + 26 := by omega
  have T11 : ∀ i, i ≠ B → i < B + 24 → h12[i]? = h11[i]? := fun i a b => by rw [G12 i a, Q11 i (by omega), Gg11 i (by omega)]
  clear Eg11 Lg11 Cg11 Gg11 og11 lq11 Lq11 oq11 E12 L12' Q11 o11 L11
  simp only [w_X2_init_150, pm_1i_c, pm_2i_c, pm_1l_c, pm_2l_c, pm_1a_c, pm_ia_c, pm_iia_c, pm_va_c, pm_cp_c, pm_k0_c, pm_k1_c, pm_k2_c, pm_k3_c, pm_s1_c, pm_s2_c, pm_s3_c, pm_s4_c, pm_ri_c, pm_ra_c, pm_rn_c, pm_rk_i, pm_rk_z, pm_rk_a, pm_vk_i, pm_vk_z, pm_vk_a, pm_cti, pm_ctr, pm_ldi_z, pm_ldi_s, pm_lda_z, pm_lda_s, pm_cat_n, pm_cat_i, pm_cat_r, pm_cat_l, pm_obj, pm_arr, pm_opt, pm_ird, pm_aln, List.getElem?_cons_zero, List.getElem?_cons_succ, List.set_cons_zero, List.set_cons_succ, List.length_cons, List.length_nil, List.length_set, true_and, and_true, Nat.add_zero, Nat.zero_add, Nat.le_refl, Nat.reduceAdd, Nat.reduceLT, Nat.reduceLeDiff, Nat.zero_le, not_false_eq_true, not_true_eq_false, false_implies, implies_true, true_implies, Nat.zero_lt_succ, Nat.lt_add_one, L12]
  have F12 : ∀ i, i ≠ B → i < B + 26 → h12[i]? = h12[i]? := fun _ _ _ => rfl
  have F11 : ∀ i, i ≠ B → i < B + 24 → h12[i]? = h11[i]? := fun i a b => (F12 i a (by omega)).trans (T11 i a b)
  have F10 : ∀ i, i ≠ B → i < B + 22 → h12[i]? = h10[i]? := fun i a b => (F11 i a (by omega)).trans (T10 i a b)
  have F9 : ∀ i, i ≠ B → i < B + 20 → h12[i]? = h9[i]? := fun i a b => (F10 i a (by omega)).trans (T9 i a b)
  have F8 : ∀ i, i ≠ B → i < B + 18 → h12[i]? = h8[i]? := fun i a b => (F9 i a (by omega)).trans (T8 i a b)
  have F7 : ∀ i, i ≠ B → i < B + 16 → h12[i]? = h7[i]? := fun i a b => (F8 i a (by omega)).trans (T7 i a b)
  have F6 : ∀ i, i ≠ B → i < B + 14 → h12[i]? = h6[i]? := fun i a b => (F7 i a (by omega)).trans (T6 i a b)
  have F5 : ∀ i, i ≠ B → i < B + 12 → h12[i]? = h5[i]? := fun i a b => (F6 i a (by omega)).trans (T5 i a b)
  have F4 : ∀ i, i ≠ B → i < B + 11 → h12[i]? = h4[i]? := fun i a b => (F5 i a (by omega)).trans (T4 i a b)
  have F3 : ∀ i, i ≠ B → i < B + 10 → h12[i]? = h3[i]? := fun i a b => (F4 i a (by omega)).trans (T3 i a b)
  have F2 : ∀ i, i ≠ B → i < B + 5 → h12[i]? = h2[i]? := fun i a b => (F3 i a (by omega)).trans (T2 i a b)
  have F1 : ∀ i, i ≠ B → i < B + 2 → h12[i]? = h1[i]? := fun i a b => (F2 i a (by omega)).trans (T1 i a b)
  have F0 : ∀ i, i ≠ B → i < B + 1 → h12[i]? = h[i]? := fun i a b => (F1 i a (by omega)).trans (T0 i a b)
  have R0 : ∀ i, i ≠ B → i < B + 2 → h12[i]? = q0[i]? := fun i a b => (F1 i a (by omega)).trans (G1 i a)
  have R1 : ∀ i, i ≠ B → i < B + 5 → h12[i]? = q1[i]? := fun i a b => (F2 i a (by omega)).trans (G2 i a)
  have R2 : ∀ i, i ≠ B → i < B + 10 → h12[i]? = q2[i]? := fun i a b => (F3 i a (by omega)).trans (G3 i a)
  have R3 : ∀ i, i ≠ B → i < B + 11 → h12[i]? = q3[i]? := fun i a b => (F4 i a (by omega)).trans (G4 i a)
  have R4 : ∀ i, i ≠ B → i < B + 12 → h12[i]? = q4[i]? := fun i a b => (F5 i a (by omega)).trans (G5 i a)
  have R5 : ∀ i, i ≠ B → i < B + 14 → h12[i]? = q5[i]? := fun i a b => (F6 i a (by omega)).trans (G6 i a)
  have R6 : ∀ i, i ≠ B → i < B + 16 → h12[i]? = q6[i]? := fun i a b => (F7 i a (by omega)).trans (G7 i a)
  have R7 : ∀ i, i ≠ B → i < B + 18 → h12[i]? = q7[i]? := fun i a b => (F8 i a (by omega)).trans (G8 i a)
  have R8 : ∀ i, i ≠ B → i < B + 20 → h12[i]? = q8[i]? := fun i a b => (F9 i a (by omega)).trans (G9 i a)
  have R9 : ∀ i, i ≠ B → i < B + 22 → h12[i]? = q9[i]? := fun i a b => (F10 i a (by omega)).trans (G10 i a)
  have R10 : ∀ i, i ≠ B → i < B + 24 → h12[i]? = q10[i]? := fun i a b => (F11 i a (by omega)).trans (G11 i a)
  have R11 : ∀ i, i ≠ B → i < B + 26 → h12[i]? = q11[i]? := fun i a b => (F12 i a (by omega)).trans (G12 i a)
  have FF : ∀ i, i < B → h12[i]? = h[i]? := fun i hi => F0 i (by omega) (by omega)
  repeat (with_reducible refine And.intro (by omega) ?_)
  refine ⟨?_, FF⟩
  obtain ⟨a1, a2, a3⟩ := P2
  obtain ⟨s1, ⟨fc, s2, s3⟩, fn, s4, s5⟩ := P1
  have Z : ∀ p, 1 ≤ p → p ≤ 5 → rw_ h12 (B + (10 + 2 * p)) (capR p) (li AD0 p) := all5 (P5.kept (R5 _ (by omega) (by omega)) (R5 _ (by omega) (by omega))) (P6.kept (R6 _ (by omega) (by omega)) (R6 _ (by omega) (by omega))) (P7.kept (R7 _ (by omega) (by omega)) (R7 _ (by omega) (by omega))) (P8.kept (R8 _ (by omega) (by omega)) (R8 _ (by omega) (by omega))) (P9.kept (R9 _ (by omega) (by omega)) (R9 _ (by omega) (by omega)))
  refine ⟨o12, (R0 _ (by omega) (by omega)).trans P0, ⟨(R1 _ (by omega) (by omega)).trans s1, ⟨fc, (R1 _ (by omega) (by omega)).trans s2, s3⟩, fn, (R1 _ (by omega) (by omega)).trans s4, s5⟩, ⟨(R2 _ (by omega) (by omega)).trans a1, ⟨[], a2.kept (R2 _ (by omega) (by omega)) (R2 _ (by omega) (by omega)), Or.inl rfl⟩, [], a3.kept (R2 _ (by omega) (by omega)) (R2 _ (by omega) (by omega))⟩, ⟨0, (R3 _ (by omega) (by omega)).trans P3, Or.inl ⟨rfl, rfl⟩⟩, (R4 _ (by omega) (by omega)).trans P4, Z, ⟨[], P10.kept (R10 _ (by omega) (by omega)) (R10 _ (by omega) (by omega))⟩, [], P11.kept (R11 _ (by omega) (by omega)) (R11 _ (by omega) (by omega))⟩
set_option maxHeartbeats 2000000 in
theorem i_AD {h : pmH} {B : Nat} (hl : h.length = B + 1) (hb : B + 300 < 900000) (ho : h[B]? = some (.inr (11, pm_df 11))) (d : Nat) : PN (d + 4) 121 112 11256 [.ref B] h (fun v h' => v = none ∧ (cr_ h' B [] [] AD0 AD0 0 (-1)) ∧ ∀ i, i < B → h'[i]? = h[i]?) := by
  refine en_X11_init rfl ?_
  rw [show pm_df 11 = [.null, .null, .null, .null, .null, .null, .null, .null, .int 0, .int 0] from rfl] at ho
  have L0 : h.length = B + 1 := hl
  have o0 := ho
  simp only [w_X11_init_0, w_X11_init_1, w_X11_init_4, w_X11_init_5, pm_1i_c, pm_2i_c, pm_1l_c, pm_2l_c, pm_1a_c, pm_ia_c, pm_iia_c, pm_va_c, pm_cp_c, pm_k0_c, pm_k1_c, pm_k2_c, pm_k3_c, pm_s1_c, pm_s2_c, pm_s3_c, pm_s4_c, pm_ri_c, pm_ra_c, pm_rn_c, pm_rk_i, pm_rk_z, pm_rk_a, pm_vk_i, pm_vk_z, pm_vk_a, pm_cti, pm_ctr, pm_ldi_z, pm_ldi_s, pm_lda_z, pm_lda_s, pm_cat_n, pm_cat_i, pm_cat_r, pm_cat_l, pm_obj, pm_arr, pm_opt, pm_ird, pm_aln, List.getElem?_cons_zero, List.getElem?_cons_succ, List.set_cons_zero, List.set_cons_succ, List.length_cons, List.length_nil, List.length_set, true_and, and_true, Nat.add_zero, Nat.zero_add, Nat.le_refl, Nat.reduceAdd, Nat.reduceLT, Nat.reduceLeDiff, Nat.zero_le, not_false_eq_true, not_true_eq_false, false_implies, implies_true, true_implies, Nat.zero_lt_succ, Nat.lt_add_one, L0, o0, hl]
  repeat (with_reducible refine And.intro (by omega) ?_)
  obtain ⟨g0, Eg0, Lg0, Cg0, Gg0⟩ := new_ok L0 (.inr (6, pm_df 6))
  rw [Eg0]
  have og0 := (Gg0 B (by omega)).trans o0
  simp only [w_X11_init_8, w_X11_init_9, w_X11_init_12, pm_1i_c, pm_2i_c, pm_1l_c, pm_2l_c, pm_1a_c, pm_ia_c, pm_iia_c, pm_va_c, pm_cp_c, pm_k0_c, pm_k1_c, pm_k2_c, pm_k3_c, pm_s1_c, pm_s2_c, pm_s3_c, pm_s4_c, pm_ri_c, pm_ra_c, pm_rn_c, pm_rk_i, pm_rk_z, pm_rk_a, pm_vk_i, pm_vk_z, pm_vk_a, pm_cti, pm_ctr, pm_ldi_z, pm_ldi_s, pm_lda_z, pm_lda_s, pm_cat_n, pm_cat_i, pm_cat_r, pm_cat_l, pm_obj, pm_arr, pm_opt, pm_ird, pm_aln, List.getElem?_cons_zero, List.getElem?_cons_succ, List.set_cons_zero, List.set_cons_succ, List.length_cons, List.length_nil, List.length_set, true_and, and_true, Nat.add_zero, Nat.zero_add, Nat.le_refl, Nat.reduceAdd, Nat.reduceLT, Nat.reduceLeDiff, Nat.zero_le, not_false_eq_true, not_true_eq_false, false_implies, implies_true, true_implies, Nat.zero_lt_succ, Nat.lt_add_one, Lg0, og0, hl]
  repeat (with_reducible refine And.intro (by omega) ?_)
  refine PM_use (i_Row (r := B + 1) (cap := 400) Lg0 (by omega) Cg0 (by omega) (by omega) (d + 2)) ?_
  rintro v q0 lq0 ⟨rfl, P0, Q0⟩
  have Lq0 : q0.length = B + 3 := by omega
  have oq0 := (Q0 B (by omega)).trans og0
  obtain ⟨h1, E1, L1', o1, G1⟩ := set_ok oq0 (.inr (11, [.ref (B + 1), .null, .null, .null, .null, .null, .null, .null, .int 0, .int 0]))
  show W_X11_init _ _ _ _ _ _ _ _ _
  simp only [w_X11_init_15, pm_1i_c, pm_2i_c, pm_1l_c, pm_2l_c, pm_1a_c, pm_ia_c, pm_iia_c, pm_va_c, pm_cp_c, pm_k0_c, pm_k1_c, pm_k2_c, pm_k3_c, pm_s1_c, pm_s2_c, pm_s3_c, pm_s4_c, pm_ri_c, pm_ra_c, pm_rn_c, pm_rk_i, pm_rk_z, pm_rk_a, pm_vk_i, pm_vk_z, pm_vk_a, pm_cti, pm_ctr, pm_ldi_z, pm_ldi_s, pm_lda_z, pm_lda_s, pm_cat_n, pm_cat_i, pm_cat_r, pm_cat_l, pm_obj, pm_arr, pm_opt, pm_ird, pm_aln, List.getElem?_cons_zero, List.getElem?_cons_succ, List.set_cons_zero, List.set_cons_succ, List.length_cons, List.length_nil, List.length_set, true_and, and_true, Nat.add_zero, Nat.zero_add, Nat.le_refl, Nat.reduceAdd, Nat.reduceLT, Nat.reduceLeDiff, Nat.zero_le, not_false_eq_true, not_true_eq_false, false_implies, implies_true, true_implies, Nat.zero_lt_succ, Nat.lt_add_one, pm_tl_n, pm_tl_s, sc_uL, oq0, Lq0]
  rw [E1]
  have L1 : h1.length = B + 3 := by omega
  have T0 : ∀ i, i ≠ B → i < B + 1 → h1[i]? = h[i]? := fun i a b => by rw [G1 i a, Q0 i (by omega), Gg0 i (by omega)]
  clear Eg0 Lg0 Cg0 Gg0 og0 lq0 Lq0 oq0 E1 L1' Q0 o0
  simp only [w_X11_init_18, w_X11_init_19, pm_1i_c, pm_2i_c, pm_1l_c, pm_2l_c, pm_1a_c, pm_ia_c, pm_iia_c, pm_va_c, pm_cp_c, pm_k0_c, pm_k1_c, pm_k2_c, pm_k3_c, pm_s1_c, pm_s2_c, pm_s3_c, pm_s4_c, pm_ri_c, pm_ra_c, pm_rn_c, pm_rk_i, pm_rk_z, pm_rk_a, pm_vk_i, pm_vk_z, pm_vk_a, pm_cti, pm_ctr, pm_ldi_z, pm_ldi_s, pm_lda_z, pm_lda_s, pm_cat_n, pm_cat_i, pm_cat_r, pm_cat_l, pm_obj, pm_arr, pm_opt, pm_ird, pm_aln, List.getElem?_cons_zero, List.getElem?_cons_succ, List.set_cons_zero, List.set_cons_succ, List.length_cons, List.length_nil, List.length_set, true_and, and_true, Nat.add_zero, Nat.zero_add, Nat.le_refl, Nat.reduceAdd, Nat.reduceLT, Nat.reduceLeDiff, Nat.zero_le, not_false_eq_true, not_true_eq_false, false_implies, implies_true, true_implies, Nat.zero_lt_succ, Nat.lt_add_one, L1, o1, hl]
  repeat (with_reducible refine And.intro (by omega) ?_)
  obtain ⟨g1, Eg1, Lg1, Cg1, Gg1⟩ := new_ok L1 (.inr (6, pm_df 6))
  rw [Eg1]
  have og1 := (Gg1 B (by omega)).trans o1
  simp only [w_X11_init_22, w_X11_init_23, w_X11_init_26, pm_1i_c, pm_2i_c, pm_1l_c, pm_2l_c, pm_1a_c, pm_ia_c, pm_iia_c, pm_va_c, pm_cp_c, pm_k0_c, pm_k1_c, pm_k2_c, pm_k3_c, pm_s1_c, pm_s2_c, pm_s3_c, pm_s4_c, pm_ri_c, pm_ra_c, pm_rn_c, pm_rk_i, pm_rk_z, pm_rk_a, pm_vk_i, pm_vk_z, pm_vk_a, pm_cti, pm_ctr, pm_ldi_z, pm_ldi_s, pm_lda_z, pm_lda_s, pm_cat_n, pm_cat_i, pm_cat_r, pm_cat_l, pm_obj, pm_arr, pm_opt, pm_ird, pm_aln, List.getElem?_cons_zero, List.getElem?_cons_succ, List.set_cons_zero, List.set_cons_succ, List.length_cons, List.length_nil, List.length_set, true_and, and_true, Nat.add_zero, Nat.zero_add, Nat.le_refl, Nat.reduceAdd, Nat.reduceLT, Nat.reduceLeDiff, Nat.zero_le, not_false_eq_true, not_true_eq_false, false_implies, implies_true, true_implies, Nat.zero_lt_succ, Nat.lt_add_one, Lg1, og1, hl]
  repeat (with_reducible refine And.intro (by omega) ?_)
  refine PM_use (i_Row (r := B + 3) (cap := 600) Lg1 (by omega) Cg1 (by omega) (by omega) (d + 2)) ?_
  rintro v q1 lq1 ⟨rfl, P1, Q1⟩
  have Lq1 : q1.length = B + 5 := by omega
  have oq1 := (Q1 B (by omega)).trans og1
  obtain ⟨h2, E2, L2', o2, G2⟩ := set_ok oq1 (.inr (11, [.ref (B + 1), .ref (B + 3), .null, .null, .null, .null, .null, .null, .int 0, .int 0]))
  show W_X11_init _ _ _ _ _ _ _ _ _
  simp only [w_X11_init_29, pm_1i_c, pm_2i_c, pm_1l_c, pm_2l_c, pm_1a_c, pm_ia_c, pm_iia_c, pm_va_c, pm_cp_c, pm_k0_c, pm_k1_c, pm_k2_c, pm_k3_c, pm_s1_c, pm_s2_c, pm_s3_c, pm_s4_c, pm_ri_c, pm_ra_c, pm_rn_c, pm_rk_i, pm_rk_z, pm_rk_a, pm_vk_i, pm_vk_z, pm_vk_a, pm_cti, pm_ctr, pm_ldi_z, pm_ldi_s, pm_lda_z, pm_lda_s, pm_cat_n, pm_cat_i, pm_cat_r, pm_cat_l, pm_obj, pm_arr, pm_opt, pm_ird, pm_aln, List.getElem?_cons_zero, List.getElem?_cons_succ, List.set_cons_zero, List.set_cons_succ, List.length_cons, List.length_nil, List.length_set, true_and, and_true, Nat.add_zero, Nat.zero_add, Nat.le_refl, Nat.reduceAdd, Nat.reduceLT, Nat.reduceLeDiff, Nat.zero_le, not_false_eq_true, not_true_eq_false, false_implies, implies_true, true_implies, Nat.zero_lt_succ, Nat.lt_add_one, pm_tl_n, pm_tl_s, sc_uL, oq1, Lq1]
  rw [E2]
  have L2 : h2.length = B + 5 := by omega
  have T1 : ∀ i, i ≠ B → i < B + 3 → h2[i]? = h1[i]? := fun i a b => by rw [G2 i a, Q1 i (by omega), Gg1 i (by omega)]
  clear Eg1 Lg1 Cg1 Gg1 og1 lq1 Lq1 oq1 E2 L2' Q1 o1 L1
  simp only [w_X11_init_32, w_X11_init_33, pm_1i_c, pm_2i_c, pm_1l_c, pm_2l_c, pm_1a_c, pm_ia_c, pm_iia_c, pm_va_c, pm_cp_c, pm_k0_c, pm_k1_c, pm_k2_c, pm_k3_c, pm_s1_c, pm_s2_c, pm_s3_c, pm_s4_c, pm_ri_c, pm_ra_c, pm_rn_c, pm_rk_i, pm_rk_z, pm_rk_a, pm_vk_i, pm_vk_z, pm_vk_a, pm_cti, pm_ctr, pm_ldi_z, pm_ldi_s, pm_lda_z, pm_lda_s, pm_cat_n, pm_cat_i, pm_cat_r, pm_cat_l, pm_obj, pm_arr, pm_opt, pm_ird, pm_aln, List.getElem?_cons_zero, List.getElem?_cons_succ, List.set_cons_zero, List.set_cons_succ, List.length_cons, List.length_nil, List.length_set, true_and, and_true, Nat.add_zero, Nat.zero_add, Nat.le_refl, Nat.reduceAdd, Nat.reduceLT, Nat.reduceLeDiff, Nat.zero_le, not_false_eq_true, not_true_eq_false, false_implies, implies_true, true_implies, Nat.zero_lt_succ, Nat.lt_add_one, L2, o2, hl]
  repeat (with_reducible refine And.intro (by omega) ?_)
  obtain ⟨g2, Eg2, Lg2, Cg2, Gg2⟩ := new_ok L2 (.inr (4, pm_df 4))
  rw [Eg2]
  have og2 := (Gg2 B (by omega)).trans o2
  simp only [w_X11_init_36, w_X11_init_37, pm_1i_c, pm_2i_c, pm_1l_c, pm_2l_c, pm_1a_c, pm_ia_c, pm_iia_c, pm_va_c, pm_cp_c, pm_k0_c, pm_k1_c, pm_k2_c, pm_k3_c, pm_s1_c, pm_s2_c, pm_s3_c, pm_s4_c, pm_ri_c, pm_ra_c, pm_rn_c, pm_rk_i, pm_rk_z, pm_rk_a, pm_vk_i, pm_vk_z, pm_vk_a, pm_cti, pm_ctr, pm_ldi_z, pm_ldi_s, pm_lda_z, pm_lda_s, pm_cat_n, pm_cat_i, pm_cat_r, pm_cat_l, pm_obj, pm_arr, pm_opt, pm_ird, pm_aln, List.getElem?_cons_zero, List.getElem?_cons_succ, List.set_cons_zero, List.set_cons_succ, List.length_cons, List.length_nil, List.length_set, true_and, and_true, Nat.add_zero, Nat.zero_add, Nat.le_refl, Nat.reduceAdd, Nat.reduceLT, Nat.reduceLeDiff, Nat.zero_le, not_false_eq_true, not_true_eq_false, false_implies, implies_true, true_implies, Nat.zero_lt_succ, Nat.lt_add_one, Lg2, og2, hl]
  repeat (with_reducible refine And.intro (by omega) ?_)
  refine PM_use (i_LawReader (B := B + 5) Lg2 (by omega) Cg2 d) ?_
  rintro v q2 lq2 ⟨rfl, P2, Q2⟩
  have Lq2 : q2.length = B + 18 := by omega
  have oq2 := (Q2 B (by omega)).trans og2
  obtain ⟨h3, E3, L3', o3, G3⟩ := set_ok oq2 (.inr (11, [.ref (B + 1), .ref (B + 3), .ref (B + 5), .null, .null, .null, .null, .null, .int 0, .int 0]))
  show W_X11_init _ _ _ _ _ _ _ _ _
  simp only [w_X11_init_40, pm_1i_c, pm_2i_c, pm_1l_c, pm_2l_c, pm_1a_c, pm_ia_c, pm_iia_c, pm_va_c, pm_cp_c, pm_k0_c, pm_k1_c, pm_k2_c, pm_k3_c, pm_s1_c, pm_s2_c, pm_s3_c, pm_s4_c, pm_ri_c, pm_ra_c, pm_rn_c, pm_rk_i, pm_rk_z, pm_rk_a, pm_vk_i, pm_vk_z, pm_vk_a, pm_cti, pm_ctr, pm_ldi_z, pm_ldi_s, pm_lda_z, pm_lda_s, pm_cat_n, pm_cat_i, pm_cat_r, pm_cat_l, pm_obj, pm_arr, pm_opt, pm_ird, pm_aln, List.getElem?_cons_zero, List.getElem?_cons_succ, List.set_cons_zero, List.set_cons_succ, List.length_cons, List.length_nil, List.length_set, true_and, and_true, Nat.add_zero, Nat.zero_add, Nat.le_refl, Nat.reduceAdd, Nat.reduceLT, Nat.reduceLeDiff, Nat.zero_le, not_false_eq_true, not_true_eq_false, false_implies, implies_true, true_implies, Nat.zero_lt_succ, Nat.lt_add_one, pm_tl_n, pm_tl_s, sc_uL, oq2, Lq2]
  rw [E3]
  have L3 : h3.length = B + 18 := by omega
  have T2 : ∀ i, i ≠ B → i < B + 5 → h3[i]? = h2[i]? := fun i a b => by rw [G3 i a, Q2 i (by omega), Gg2 i (by omega)]
  clear Eg2 Lg2 Cg2 Gg2 og2 lq2 Lq2 oq2 E3 L3' Q2 o2 L2
  simp only [w_X11_init_43, w_X11_init_44, pm_1i_c, pm_2i_c, pm_1l_c, pm_2l_c, pm_1a_c, pm_ia_c, pm_iia_c, pm_va_c, pm_cp_c, pm_k0_c, pm_k1_c, pm_k2_c, pm_k3_c, pm_s1_c, pm_s2_c, pm_s3_c, pm_s4_c, pm_ri_c, pm_ra_c, pm_rn_c, pm_rk_i, pm_rk_z, pm_rk_a, pm_vk_i, pm_vk_z, pm_vk_a, pm_cti, pm_ctr, pm_ldi_z, pm_ldi_s, pm_lda_z, pm_lda_s, pm_cat_n, pm_cat_i, pm_cat_r, pm_cat_l, pm_obj, pm_arr, pm_opt, pm_ird, pm_aln, List.getElem?_cons_zero, List.getElem?_cons_succ, List.set_cons_zero, List.set_cons_succ, List.length_cons, List.length_nil, List.length_set, true_and, and_true, Nat.add_zero, Nat.zero_add, Nat.le_refl, Nat.reduceAdd, Nat.reduceLT, Nat.reduceLeDiff, Nat.zero_le, not_false_eq_true, not_true_eq_false, false_implies, implies_true, true_implies, Nat.zero_lt_succ, Nat.lt_add_one, L3, o3, hl]
  repeat (with_reducible refine And.intro (by omega) ?_)
  obtain ⟨g3, Eg3, Lg3, Cg3, Gg3⟩ := new_ok L3 (.inr (10, pm_df 10))
  rw [Eg3]
  have og3 := (Gg3 B (by omega)).trans o3
  simp only [w_X11_init_47, w_X11_init_48, pm_1i_c, pm_2i_c, pm_1l_c, pm_2l_c, pm_1a_c, pm_ia_c, pm_iia_c, pm_va_c, pm_cp_c, pm_k0_c, pm_k1_c, pm_k2_c, pm_k3_c, pm_s1_c, pm_s2_c, pm_s3_c, pm_s4_c, pm_ri_c, pm_ra_c, pm_rn_c, pm_rk_i, pm_rk_z, pm_rk_a, pm_vk_i, pm_vk_z, pm_vk_a, pm_cti, pm_ctr, pm_ldi_z, pm_ldi_s, pm_lda_z, pm_lda_s, pm_cat_n, pm_cat_i, pm_cat_r, pm_cat_l, pm_obj, pm_arr, pm_opt, pm_ird, pm_aln, List.getElem?_cons_zero, List.getElem?_cons_succ, List.set_cons_zero, List.set_cons_succ, List.length_cons, List.length_nil, List.length_set, true_and, and_true, Nat.add_zero, Nat.zero_add, Nat.le_refl, Nat.reduceAdd, Nat.reduceLT, Nat.reduceLeDiff, Nat.zero_le, not_false_eq_true, not_true_eq_false, false_implies, implies_true, true_implies, Nat.zero_lt_succ, Nat.lt_add_one, Lg3, og3, hl]
  repeat (with_reducible refine And.intro (by omega) ?_)
  refine PM_use (i_TraceReader (B := B + 18) Lg3 (by omega) Cg3 d) ?_
  rintro v q3 lq3 ⟨rfl, P3, Q3⟩
  have Lq3 : q3.length = B + 28 := by omega
  have oq3 := (Q3 B (by omega)).trans og3
  obtain ⟨h4, E4, L4', o4, G4⟩ := set_ok oq3 (.inr (11, [.ref (B + 1), .ref (B + 3), .ref (B + 5), .ref (B + 18), .null, .null, .null, .null, .int 0, .int 0]))
  show W_X11_init _ _ _ _ _ _ _ _ _
  simp only [w_X11_init_51, pm_1i_c, pm_2i_c, pm_1l_c, pm_2l_c, pm_1a_c, pm_ia_c, pm_iia_c, pm_va_c, pm_cp_c, pm_k0_c, pm_k1_c, pm_k2_c, pm_k3_c, pm_s1_c, pm_s2_c, pm_s3_c, pm_s4_c, pm_ri_c, pm_ra_c, pm_rn_c, pm_rk_i, pm_rk_z, pm_rk_a, pm_vk_i, pm_vk_z, pm_vk_a, pm_cti, pm_ctr, pm_ldi_z, pm_ldi_s, pm_lda_z, pm_lda_s, pm_cat_n, pm_cat_i, pm_cat_r, pm_cat_l, pm_obj, pm_arr, pm_opt, pm_ird, pm_aln, List.getElem?_cons_zero, List.getElem?_cons_succ, List.set_cons_zero, List.set_cons_succ, List.length_cons, List.length_nil, List.length_set, true_and, and_true, Nat.add_zero, Nat.zero_add, Nat.le_refl, Nat.reduceAdd, Nat.reduceLT, Nat.reduceLeDiff, Nat.zero_le, not_false_eq_true, not_true_eq_false, false_implies, implies_true, true_implies, Nat.zero_lt_succ, Nat.lt_add_one, pm_tl_n, pm_tl_s, sc_uL, oq3, Lq3]
  rw [E4]
  have L4 : h4.length = B + 28 := by omega
  have T3 : ∀ i, i ≠ B → i < B + 18 → h4[i]? = h3[i]? := fun i a b => by rw [G4 i a, Q3 i (by omega), Gg3 i (by omega)]
  clear Eg3 Lg3 Cg3 Gg3 og3 lq3 Lq3 oq3 E4 L4' Q3 o3 L3
  simp only [w_X11_init_54, w_X11_init_55, pm_1i_c, pm_2i_c, pm_1l_c, pm_2l_c, pm_1a_c, pm_ia_c, pm_iia_c, pm_va_c, pm_cp_c, pm_k0_c, pm_k1_c, pm_k2_c, pm_k3_c, pm_s1_c, pm_s2_c, pm_s3_c, pm_s4_c, pm_ri_c, pm_ra_c, pm_rn_c, pm_rk_i, pm_rk_z, pm_rk_a, pm_vk_i, pm_vk_z, pm_vk_a, pm_cti, pm_ctr, pm_ldi_z, pm_ldi_s, pm_lda_z, pm_lda_s, pm_cat_n, pm_cat_i, pm_cat_r, pm_cat_l, pm_obj, pm_arr, pm_opt, pm_ird, pm_aln, List.getElem?_cons_zero, List.getElem?_cons_succ, List.set_cons_zero, List.set_cons_succ, List.length_cons, List.length_nil, List.length_set, true_and, and_true, Nat.add_zero, Nat.zero_add, Nat.le_refl, Nat.reduceAdd, Nat.reduceLT, Nat.reduceLeDiff, Nat.zero_le, not_false_eq_true, not_true_eq_false, false_implies, implies_true, true_implies, Nat.zero_lt_succ, Nat.lt_add_one, L4, o4, hl]
  repeat (with_reducible refine And.intro (by omega) ?_)
  obtain ⟨g4, Eg4, Lg4, Cg4, Gg4⟩ := new_ok L4 (.inr (5, pm_df 5))
  rw [Eg4]
  have og4 := (Gg4 B (by omega)).trans o4
  simp only [w_X11_init_58, w_X11_init_59, pm_1i_c, pm_2i_c, pm_1l_c, pm_2l_c, pm_1a_c, pm_ia_c, pm_iia_c, pm_va_c, pm_cp_c, pm_k0_c, pm_k1_c, pm_k2_c, pm_k3_c, pm_s1_c, pm_s2_c, pm_s3_c, pm_s4_c, pm_ri_c, pm_ra_c, pm_rn_c, pm_rk_i, pm_rk_z, pm_rk_a, pm_vk_i, pm_vk_z, pm_vk_a, pm_cti, pm_ctr, pm_ldi_z, pm_ldi_s, pm_lda_z, pm_lda_s, pm_cat_n, pm_cat_i, pm_cat_r, pm_cat_l, pm_obj, pm_arr, pm_opt, pm_ird, pm_aln, List.getElem?_cons_zero, List.getElem?_cons_succ, List.set_cons_zero, List.set_cons_succ, List.length_cons, List.length_nil, List.length_set, true_and, and_true, Nat.add_zero, Nat.zero_add, Nat.le_refl, Nat.reduceAdd, Nat.reduceLT, Nat.reduceLeDiff, Nat.zero_le, not_false_eq_true, not_true_eq_false, false_implies, implies_true, true_implies, Nat.zero_lt_succ, Nat.lt_add_one, Lg4, og4, hl]
  repeat (with_reducible refine And.intro (by omega) ?_)
  refine PM_use (i_Lookback (B := B + 28) Lg4 (by omega) Cg4 (d + 1)) ?_
  rintro v q4 lq4 ⟨rfl, P4, Q4⟩
  have Lq4 : q4.length = B + 35 := by omega
  have oq4 := (Q4 B (by omega)).trans og4
  obtain ⟨h5, E5, L5', o5, G5⟩ := set_ok oq4 (.inr (11, [.ref (B + 1), .ref (B + 3), .ref (B + 5), .ref (B + 18), .ref (B + 28), .null, .null, .null, .int 0, .int 0]))
  show W_X11_init _ _ _ _ _ _ _ _ _
  simp only [w_X11_init_62, pm_1i_c, pm_2i_c, pm_1l_c, pm_2l_c, pm_1a_c, pm_ia_c, pm_iia_c, pm_va_c, pm_cp_c, pm_k0_c, pm_k1_c, pm_k2_c, pm_k3_c, pm_s1_c, pm_s2_c, pm_s3_c, pm_s4_c, pm_ri_c, pm_ra_c, pm_rn_c, pm_rk_i, pm_rk_z, pm_rk_a, pm_vk_i, pm_vk_z, pm_vk_a, pm_cti, pm_ctr, pm_ldi_z, pm_ldi_s, pm_lda_z, pm_lda_s, pm_cat_n, pm_cat_i, pm_cat_r, pm_cat_l, pm_obj, pm_arr, pm_opt, pm_ird, pm_aln, List.getElem?_cons_zero, List.getElem?_cons_succ, List.set_cons_zero, List.set_cons_succ, List.length_cons, List.length_nil, List.length_set, true_and, and_true, Nat.add_zero, Nat.zero_add, Nat.le_refl, Nat.reduceAdd, Nat.reduceLT, Nat.reduceLeDiff, Nat.zero_le, not_false_eq_true, not_true_eq_false, false_implies, implies_true, true_implies, Nat.zero_lt_succ, Nat.lt_add_one, pm_tl_n, pm_tl_s, sc_uL, oq4, Lq4]
  rw [E5]
  have L5 : h5.length = B + 35 := by omega
  have T4 : ∀ i, i ≠ B → i < B + 28 → h5[i]? = h4[i]? := fun i a b => by rw [G5 i a, Q4 i (by omega), Gg4 i (by omega)]
  clear Eg4 Lg4 Cg4 Gg4 og4 lq4 Lq4 oq4 E5 L5' Q4 o4 L4
  simp only [w_X11_init_65, w_X11_init_66, pm_1i_c, pm_2i_c, pm_1l_c, pm_2l_c, pm_1a_c, pm_ia_c, pm_iia_c, pm_va_c, pm_cp_c, pm_k0_c, pm_k1_c, pm_k2_c, pm_k3_c, pm_s1_c, pm_s2_c, pm_s3_c, pm_s4_c, pm_ri_c, pm_ra_c, pm_rn_c, pm_rk_i, pm_rk_z, pm_rk_a, pm_vk_i, pm_vk_z, pm_vk_a, pm_cti, pm_ctr, pm_ldi_z, pm_ldi_s, pm_lda_z, pm_lda_s, pm_cat_n, pm_cat_i, pm_cat_r, pm_cat_l, pm_obj, pm_arr, pm_opt, pm_ird, pm_aln, List.getElem?_cons_zero, List.getElem?_cons_succ, List.set_cons_zero, List.set_cons_succ, List.length_cons, List.length_nil, List.length_set, true_and, and_true, Nat.add_zero, Nat.zero_add, Nat.le_refl, Nat.reduceAdd, Nat.reduceLT, Nat.reduceLeDiff, Nat.zero_le, not_false_eq_true, not_true_eq_false, false_implies, implies_true, true_implies, Nat.zero_lt_succ, Nat.lt_add_one, L5, o5, hl]
  repeat (with_reducible refine And.intro (by omega) ?_)
  obtain ⟨g5, Eg5, Lg5, Cg5, Gg5⟩ := new_ok L5 (.inr (2, pm_df 2))
  rw [Eg5]
  have og5 := (Gg5 B (by omega)).trans o5
  simp only [w_X11_init_69, w_X11_init_70, pm_1i_c, pm_2i_c, pm_1l_c, pm_2l_c, pm_1a_c, pm_ia_c, pm_iia_c, pm_va_c, pm_cp_c, pm_k0_c, pm_k1_c, pm_k2_c, pm_k3_c, pm_s1_c, pm_s2_c, pm_s3_c, pm_s4_c, pm_ri_c, pm_ra_c, pm_rn_c, pm_rk_i, pm_rk_z, pm_rk_a, pm_vk_i, pm_vk_z, pm_vk_a, pm_cti, pm_ctr, pm_ldi_z, pm_ldi_s, pm_lda_z, pm_lda_s, pm_cat_n, pm_cat_i, pm_cat_r, pm_cat_l, pm_obj, pm_arr, pm_opt, pm_ird, pm_aln, List.getElem?_cons_zero, List.getElem?_cons_succ, List.set_cons_zero, List.set_cons_succ, List.length_cons, List.length_nil, List.length_set, true_and, and_true, Nat.add_zero, Nat.zero_add, Nat.le_refl, Nat.reduceAdd, Nat.reduceLT, Nat.reduceLeDiff, Nat.zero_le, not_false_eq_true, not_true_eq_false, false_implies, implies_true, true_implies, Nat.zero_lt_succ, Nat.lt_add_one, Lg5, og5, hl]
  repeat (with_reducible refine And.intro (by omega) ?_)
  refine PM_use (i_Desk (B := B + 35) Lg5 (by omega) Cg5 d) ?_
  rintro v q5 lq5 ⟨rfl, P5, Q5⟩
  have Lq5 : q5.length = B + 61 := by omega
  have oq5 := (Q5 B (by omega)).trans og5
  obtain ⟨h6, E6, L6', o6, G6⟩ := set_ok oq5 (.inr (11, [.ref (B + 1), .ref (B + 3), .ref (B + 5), .ref (B + 18), .ref (B + 28), .ref (B + 35), .null, .null, .int 0, .int 0]))
  show W_X11_init _ _ _ _ _ _ _ _ _
  simp only [w_X11_init_73, pm_1i_c, pm_2i_c, pm_1l_c, pm_2l_c, pm_1a_c, pm_ia_c, pm_iia_c, pm_va_c, pm_cp_c, pm_k0_c, pm_k1_c, pm_k2_c, pm_k3_c, pm_s1_c, pm_s2_c, pm_s3_c, pm_s4_c, pm_ri_c, pm_ra_c, pm_rn_c, pm_rk_i, pm_rk_z, pm_rk_a, pm_vk_i, pm_vk_z, pm_vk_a, pm_cti, pm_ctr, pm_ldi_z, pm_ldi_s, pm_lda_z, pm_lda_s, pm_cat_n, pm_cat_i, pm_cat_r, pm_cat_l, pm_obj, pm_arr, pm_opt, pm_ird, pm_aln, List.getElem?_cons_zero, List.getElem?_cons_succ, List.set_cons_zero, List.set_cons_succ, List.length_cons, List.length_nil, List.length_set, true_and, and_true, Nat.add_zero, Nat.zero_add, Nat.le_refl, Nat.reduceAdd, Nat.reduceLT, Nat.reduceLeDiff, Nat.zero_le, not_false_eq_true, not_true_eq_false, false_implies, implies_true, true_implies, Nat.zero_lt_succ, Nat.lt_add_one, pm_tl_n, pm_tl_s, sc_uL, oq5, Lq5]
  rw [E6]
  have L6 : h6.length = B + 61 := by omega
  have T5 : ∀ i, i ≠ B → i < B + 35 → h6[i]? = h5[i]? := fun i a b => by rw [G6 i a, Q5 i (by omega), Gg5 i (by omega)]
  clear Eg5 Lg5 Cg5 Gg5 og5 lq5 Lq5 oq5 E6 L6' Q5 o5 L5
  simp only [w_X11_init_76, w_X11_init_77, pm_1i_c, pm_2i_c, pm_1l_c, pm_2l_c, pm_1a_c, pm_ia_c, pm_iia_c, pm_va_c, pm_cp_c, pm_k0_c, pm_k1_c, pm_k2_c, pm_k3_c, pm_s1_c, pm_s2_c, pm_s3_c, pm_s4_c, pm_ri_c, pm_ra_c, pm_rn_c, pm_rk_i, pm_rk_z, pm_rk_a, pm_vk_i, pm_vk_z, pm_vk_a, pm_cti, pm_ctr, pm_ldi_z, pm_ldi_s, pm_lda_z, pm_lda_s, pm_cat_n, pm_cat_i, pm_cat_r, pm_cat_l, pm_obj, pm_arr, pm_opt, pm_ird, pm_aln, List.getElem?_cons_zero, List.getElem?_cons_succ, List.set_cons_zero, List.set_cons_succ, List.length_cons, List.length_nil, List.length_set, true_and, and_true, Nat.add_zero, Nat.zero_add, Nat.le_refl, Nat.reduceAdd, Nat.reduceLT, Nat.reduceLeDiff, Nat.zero_le, not_false_eq_true, not_true_eq_false, false_implies, implies_true, true_implies, Nat.zero_lt_succ, Nat.lt_add_one, L6, o6, hl]
  repeat (with_reducible refine And.intro (by omega) ?_)
  obtain ⟨g6, Eg6, Lg6, Cg6, Gg6⟩ := new_ok L6 (.inr (2, pm_df 2))
  rw [Eg6]
  have og6 := (Gg6 B (by omega)).trans o6
  simp only [w_X11_init_80, w_X11_init_81, pm_1i_c, pm_2i_c, pm_1l_c, pm_2l_c, pm_1a_c, pm_ia_c, pm_iia_c, pm_va_c, pm_cp_c, pm_k0_c, pm_k1_c, pm_k2_c, pm_k3_c, pm_s1_c, pm_s2_c, pm_s3_c, pm_s4_c, pm_ri_c, pm_ra_c, pm_rn_c, pm_rk_i, pm_rk_z, pm_rk_a, pm_vk_i, pm_vk_z, pm_vk_a, pm_cti, pm_ctr, pm_ldi_z, pm_ldi_s, pm_lda_z, pm_lda_s, pm_cat_n, pm_cat_i, pm_cat_r, pm_cat_l, pm_obj, pm_arr, pm_opt, pm_ird, pm_aln, List.getElem?_cons_zero, List.getElem?_cons_succ, List.set_cons_zero, List.set_cons_succ, List.length_cons, List.length_nil, List.length_set, true_and, and_true, Nat.add_zero, Nat.zero_add, Nat.le_refl, Nat.reduceAdd, Nat.reduceLT, Nat.reduceLeDiff, Nat.zero_le, not_false_eq_true, not_true_eq_false, false_implies, implies_true, true_implies, Nat.zero_lt_succ, Nat.lt_add_one, Lg6, og6, hl]
  repeat (with_reducible refine And.intro (by omega) ?_)
  refine PM_use (i_Desk (B := B + 61) Lg6 (by omega) Cg6 d) ?_
  rintro v q6 lq6 ⟨rfl, P6, Q6⟩
  have Lq6 : q6.length = B + 87 := by omega
  have oq6 := (Q6 B (by omega)).trans og6
  obtain ⟨h7, E7, L7', o7, G7⟩ := set_ok oq6 (.inr (11, [.ref (B + 1), .ref (B + 3), .ref (B + 5), .ref (B + 18), .ref (B + 28), .ref (B + 35), .ref (B + 61), .null, .int 0, .int 0]))
  show W_X11_init _ _ _ _ _ _ _ _ _
  simp only [w_X11_init_84, pm_1i_c, pm_2i_c, pm_1l_c, pm_2l_c, pm_1a_c, pm_ia_c, pm_iia_c, pm_va_c, pm_cp_c, pm_k0_c, pm_k1_c, pm_k2_c, pm_k3_c, pm_s1_c, pm_s2_c, pm_s3_c, pm_s4_c, pm_ri_c, pm_ra_c, pm_rn_c, pm_rk_i, pm_rk_z, pm_rk_a, pm_vk_i, pm_vk_z, pm_vk_a, pm_cti, pm_ctr, pm_ldi_z, pm_ldi_s, pm_lda_z, pm_lda_s, pm_cat_n, pm_cat_i, pm_cat_r, pm_cat_l, pm_obj, pm_arr, pm_opt, pm_ird, pm_aln, List.getElem?_cons_zero, List.getElem?_cons_succ, List.set_cons_zero, List.set_cons_succ, List.length_cons, List.length_nil, List.length_set, true_and, and_true, Nat.add_zero, Nat.zero_add, Nat.le_refl, Nat.reduceAdd, Nat.reduceLT, Nat.reduceLeDiff, Nat.zero_le, not_false_eq_true, not_true_eq_false, false_implies, implies_true, true_implies, Nat.zero_lt_succ, Nat.lt_add_one, pm_tl_n, pm_tl_s, sc_uL, oq6, Lq6]
  rw [E7]
  have L7 : h7.length = B + 87 := by omega
  have T6 : ∀ i, i ≠ B → i < B + 61 → h7[i]? = h6[i]? := fun i a b => by rw [G7 i a, Q6 i (by omega), Gg6 i (by omega)]
  clear Eg6 Lg6 Cg6 Gg6 og6 lq6 Lq6 oq6 E7 L7' Q6 o6 L6
  simp only [w_X11_init_87, w_X11_init_88, pm_1i_c, pm_2i_c, pm_1l_c, pm_2l_c, pm_1a_c, pm_ia_c, pm_iia_c, pm_va_c, pm_cp_c, pm_k0_c, pm_k1_c, pm_k2_c, pm_k3_c, pm_s1_c, pm_s2_c, pm_s3_c, pm_s4_c, pm_ri_c, pm_ra_c, pm_rn_c, pm_rk_i, pm_rk_z, pm_rk_a, pm_vk_i, pm_vk_z, pm_vk_a, pm_cti, pm_ctr, pm_ldi_z, pm_ldi_s, pm_lda_z, pm_lda_s, pm_cat_n, pm_cat_i, pm_cat_r, pm_cat_l, pm_obj, pm_arr, pm_opt, pm_ird, pm_aln, List.getElem?_cons_zero, List.getElem?_cons_succ, List.set_cons_zero, List.set_cons_succ, List.length_cons, List.length_nil, List.length_set, true_and, and_true, Nat.add_zero, Nat.zero_add, Nat.le_refl, Nat.reduceAdd, Nat.reduceLT, Nat.reduceLeDiff, Nat.zero_le, not_false_eq_true, not_true_eq_false, false_implies, implies_true, true_implies, Nat.zero_lt_succ, Nat.lt_add_one, L7, o7, hl]
  repeat (with_reducible refine And.intro (by omega) ?_)
  obtain ⟨g7, Eg7, Lg7, Cg7, Gg7⟩ := new_ok L7 (.inr (2, pm_df 2))
  rw [Eg7]
  have og7 := (Gg7 B (by omega)).trans o7
  simp only [w_X11_init_91, w_X11_init_92, pm_1i_c, pm_2i_c, pm_1l_c, pm_2l_c, pm_1a_c, pm_ia_c, pm_iia_c, pm_va_c, pm_cp_c, pm_k0_c, pm_k1_c, pm_k2_c, pm_k3_c, pm_s1_c, pm_s2_c, pm_s3_c, pm_s4_c, pm_ri_c, pm_ra_c, pm_rn_c, pm_rk_i, pm_rk_z, pm_rk_a, pm_vk_i, pm_vk_z, pm_vk_a, pm_cti, pm_ctr, pm_ldi_z, pm_ldi_s, pm_lda_z, pm_lda_s, pm_cat_n, pm_cat_i, pm_cat_r, pm_cat_l, pm_obj, pm_arr, pm_opt, pm_ird, pm_aln, List.getElem?_cons_zero, List.getElem?_cons_succ, List.set_cons_zero, List.set_cons_succ, List.length_cons, List.length_nil, List.length_set, true_and, and_true, Nat.add_zero, Nat.zero_add, Nat.le_refl, Nat.reduceAdd, Nat.reduceLT, Nat.reduceLeDiff, Nat.zero_le, not_false_eq_true, not_true_eq_false, false_implies, implies_true, true_implies, Nat.zero_lt_succ, Nat.lt_add_one, Lg7, og7, hl]
  repeat (with_reducible refine And.intro (by omega) ?_)
  refine PM_use (i_Desk (B := B + 87) Lg7 (by omega) Cg7 d) ?_
  rintro v q7 lq7 ⟨rfl, P7, Q7⟩
  have Lq7 : q7.length = B + 113 := by omega
  have oq7 := (Q7 B (by omega)).trans og7
  obtain ⟨h8, E8, L8', o8, G8⟩ := set_ok oq7 (.inr (11, [.ref (B + 1), .ref (B + 3), .ref (B + 5), .ref (B + 18), .ref (B + 28), .ref (B + 35), .ref (B + 61), .ref (B + 87), .int 0, .int 0]))
  show W_X11_init _ _ _ _ _ _ _ _ _
  simp only [w_X11_init_95, pm_1i_c, pm_2i_c, pm_1l_c, pm_2l_c, pm_1a_c, pm_ia_c, pm_iia_c, pm_va_c, pm_cp_c, pm_k0_c, pm_k1_c, pm_k2_c, pm_k3_c, pm_s1_c, pm_s2_c, pm_s3_c, pm_s4_c, pm_ri_c, pm_ra_c, pm_rn_c, pm_rk_i, pm_rk_z, pm_rk_a, pm_vk_i, pm_vk_z, pm_vk_a, pm_cti, pm_ctr, pm_ldi_z, pm_ldi_s, pm_lda_z, pm_lda_s, pm_cat_n, pm_cat_i, pm_cat_r, pm_cat_l, pm_obj, pm_arr, pm_opt, pm_ird, pm_aln, List.getElem?_cons_zero, List.getElem?_cons_succ, List.set_cons_zero, List.set_cons_succ, List.length_cons, List.length_nil, List.length_set, true_and, and_true, Nat.add_zero, Nat.zero_add, Nat.le_refl, Nat.reduceAdd, Nat.reduceLT, Nat.reduceLeDiff, Nat.zero_le, not_false_eq_true, not_true_eq_false, false_implies, implies_true, true_implies, Nat.zero_lt_succ, Nat.lt_add_one, pm_tl_n, pm_tl_s, sc_uL, oq7, Lq7]
  rw [E8]
  have L8 : h8.length = B + 113 := by omega
  have T7 : ∀ i, i ≠ B → i < B + 87 → h8[i]? = h7[i]? := fun i a b => by rw [G8 i a, Q7 i (by omega), Gg7 i (by omega)]
  clear Eg7 Lg7 Cg7 Gg7 og7 lq7 Lq7 oq7 E8 L8' Q7 o7 L7
  simp only [w_X11_init_98, w_X11_init_99, w_X11_init_100, pm_1i_c, pm_2i_c, pm_1l_c, pm_2l_c, pm_1a_c, pm_ia_c, pm_iia_c, pm_va_c, pm_cp_c, pm_k0_c, pm_k1_c, pm_k2_c, pm_k3_c, pm_s1_c, pm_s2_c, pm_s3_c, pm_s4_c, pm_ri_c, pm_ra_c, pm_rn_c, pm_rk_i, pm_rk_z, pm_rk_a, pm_vk_i, pm_vk_z, pm_vk_a, pm_cti, pm_ctr, pm_ldi_z, pm_ldi_s, pm_lda_z, pm_lda_s, pm_cat_n, pm_cat_i, pm_cat_r, pm_cat_l, pm_obj, pm_arr, pm_opt, pm_ird, pm_aln, List.getElem?_cons_zero, List.getElem?_cons_succ, List.set_cons_zero, List.set_cons_succ, List.length_cons, List.length_nil, List.length_set, true_and, and_true, Nat.add_zero, Nat.zero_add, Nat.le_refl, Nat.reduceAdd, Nat.reduceLT, Nat.reduceLeDiff, Nat.zero_le, not_false_eq_true, not_true_eq_false, false_implies, implies_true, true_implies, Nat.zero_lt_succ, Nat.lt_add_one, L8, o8]
  obtain ⟨h9, E9, L9', o9, G9⟩ := set_ok o8 (.inr (11, [.ref (B + 1), .ref (B + 3), .ref (B + 5), .ref (B + 18), .ref (B + 28), .ref (B + 35), .ref (B + 61), .ref (B + 87), .int 0, .int (-1)]))
  rw [E9]
  have L9 : h9.length = B + 113 := by omega
  have T8 : ∀ i, i ≠ B → i < B + 113 → h9[i]? = h8[i]? := fun i a b => G9 i a
  simp only [w_X11_init_103, pm_1i_c, pm_2i_c, pm_1l_c, pm_2l_c, pm_1a_c, pm_ia_c, pm_iia_c, pm_va_c, pm_cp_c, pm_k0_c, pm_k1_c, pm_k2_c, pm_k3_c, pm_s1_c, pm_s2_c, pm_s3_c, pm_s4_c, pm_ri_c, pm_ra_c, pm_rn_c, pm_rk_i, pm_rk_z, pm_rk_a, pm_vk_i, pm_vk_z, pm_vk_a, pm_cti, pm_ctr, pm_ldi_z, pm_ldi_s, pm_lda_z, pm_lda_s, pm_cat_n, pm_cat_i, pm_cat_r, pm_cat_l, pm_obj, pm_arr, pm_opt, pm_ird, pm_aln, List.getElem?_cons_zero, List.getElem?_cons_succ, List.set_cons_zero, List.set_cons_succ, List.length_cons, List.length_nil, List.length_set, true_and, and_true, Nat.add_zero, Nat.zero_add, Nat.le_refl, Nat.reduceAdd, Nat.reduceLT, Nat.reduceLeDiff, Nat.zero_le, not_false_eq_true, not_true_eq_false, false_implies, implies_true, true_implies, Nat.zero_lt_succ, Nat.lt_add_one, L9]
  have F9 : ∀ i, i ≠ B → i < B + 113 → h9[i]? = h9[i]? := fun _ _ _ => rfl
  have F8 : ∀ i, i ≠ B → i < B + 113 → h9[i]? = h8[i]? := fun i a b => (F9 i a (by omega)).trans (T8 i a b)
  have F7 : ∀ i, i ≠ B → i < B + 87 → h9[i]? = h7[i]? := fun i a b => (F8 i a (by omega)).trans (T7 i a b)
  have F6 : ∀ i, i ≠ B → i < B + 61 → h9[i]? = h6[i]? := fun i a b => (F7 i a (by omega)).trans (T6 i a b)
  have F5 : ∀ i, i ≠ B → i < B + 35 → h9[i]? = h5[i]? := fun i a b => (F6 i a (by omega)).trans (T5 i a b)
  have F4 : ∀ i, i ≠ B → i < B + 28 → h9[i]? = h4[i]? := fun i a b => (F5 i a (by omega)).trans (T4 i a b)
  have F3 : ∀ i, i ≠ B → i < B + 18 → h9[i]? = h3[i]? := fun i a b => (F4 i a (by omega)).trans (T3 i a b)
  have F2 : ∀ i, i ≠ B → i < B + 5 → h9[i]? = h2[i]? := fun i a b => (F3 i a (by omega)).trans (T2 i a b)
  have F1 : ∀ i, i ≠ B → i < B + 3 → h9[i]? = h1[i]? := fun i a b => (F2 i a (by omega)).trans (T1 i a b)
  have F0 : ∀ i, i ≠ B → i < B + 1 → h9[i]? = h[i]? := fun i a b => (F1 i a (by omega)).trans (T0 i a b)
  have R0 : ∀ i, i ≠ B → i < B + 3 → h9[i]? = q0[i]? := fun i a b => (F1 i a (by omega)).trans (G1 i a)
  have R1 : ∀ i, i ≠ B → i < B + 5 → h9[i]? = q1[i]? := fun i a b => (F2 i a (by omega)).trans (G2 i a)
  have R2 : ∀ i, i ≠ B → i < B + 18 → h9[i]? = q2[i]? := fun i a b => (F3 i a (by omega)).trans (G3 i a)
  have R3 : ∀ i, i ≠ B → i < B + 28 → h9[i]? = q3[i]? := fun i a b => (F4 i a (by omega)).trans (G4 i a)
  have R4 : ∀ i, i ≠ B → i < B + 35 → h9[i]? = q4[i]? := fun i a b => (F5 i a (by omega)).trans (G5 i a)
  have R5 : ∀ i, i ≠ B → i < B + 61 → h9[i]? = q5[i]? := fun i a b => (F6 i a (by omega)).trans (G6 i a)
  have R6 : ∀ i, i ≠ B → i < B + 87 → h9[i]? = q6[i]? := fun i a b => (F7 i a (by omega)).trans (G7 i a)
  have R7 : ∀ i, i ≠ B → i < B + 113 → h9[i]? = q7[i]? := fun i a b => (F8 i a (by omega)).trans (G8 i a)
  have FF : ∀ i, i < B → h9[i]? = h[i]? := fun i hi => F0 i (by omega) (by omega)
  repeat (with_reducible refine And.intro (by omega) ?_)
  refine ⟨?_, FF⟩
  exact ⟨o9, P0.kept (R0 _ (by omega) (by omega)) (R0 _ (by omega) (by omega)), P1.kept (R1 _ (by omega) (by omega)) (R1 _ (by omega) (by omega)), ⟨_, _, P2.kept (fun i x y => R2 i (by omega) (by omega))⟩, ⟨_, P3.kept (fun i x y => R3 i (by omega) (by omega))⟩, ⟨_, _, _, P4.kept (fun i x y => R4 i (by omega) (by omega))⟩, P5.kept (fun i x y => R5 i (by omega) (by omega)), P6.kept (fun i x y => R6 i (by omega) (by omega)), _, P7.kept (fun i x y => R7 i (by omega) (by omega))⟩
