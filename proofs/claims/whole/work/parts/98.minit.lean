/-! AdmissionDeskModel's constructor. -/
/-- the first desk, before 'forgetsLatest' -/
def AD1 : AD := (fun i => if 19 ≤ i ∧ i ≤ 22 then 0 else sc AD0 i, AD0.2)
theorem clrF_AD1 : clrF AD1 = AD0 := by
  refine Prod.ext (funext fun i => ?_) rfl
  show sc (clrF AD1) i = sc AD0 i
  by_cases c : 19 ≤ i ∧ i ≤ 22
  · have h : i = 19 ∨ i = 20 ∨ i = 21 ∨ i = 22 := by omega
    rcases h with rfl | rfl | rfl | rfl <;> rfl
  · have e : sc (clrF AD1) i = sc AD1 i := by
      unfold clrF
      repeat rw [sc_ne (by omega)]
    rw [e]
    exact if_neg c
def now0 : Nat → Int32 := upd (upd (upd (upd (upd (upd (upd (upd (fun _ => 0) 1678 10) 1679 10) 1680 80) 1681 200) 1683 4) 1684 1) 1685 1) 1693 (-1)
theorem now0_lo {k : Nat} (h : k < 1670) : now0 k = 0 := by
  unfold now0
  repeat rw [upd_n (by omega)]
theorem rep_now0 : rep now0 AD1 := by
  refine ⟨fun k hk => now0_lo (by omega), fun k hk => now0_lo (by omega), fun p h1 h3 => ⟨Nat.zero_le _, now0_lo (by omega), fun k hk => absurd hk (Nat.not_lt_zero _)⟩, ⟨Nat.zero_le _, now0_lo (by omega), fun k hk => absurd hk (Nat.not_lt_zero _)⟩, ⟨Nat.zero_le _, now0_lo (by omega), fun k hk => absurd hk (Nat.not_lt_zero _)⟩, ?_, Or.inl rfl⟩
  decide +kernel
set_option maxHeartbeats 4000000 in
theorem i_Model {h : pmH} {m : Nat} (hl : h.length = m + 1) (hb : m + 300 < 900000) (ho : h[m]? = some (.inr (12, pm_df 12))) (d : Nat) : PN (d + 2) 149 10 9557 [.ref m] h (fun v h' => v = none ∧ (∃ o, mm_ h' m o AD0 AD0 [] [] ∧ o 0 = 0 ∧ o 7 = -1) ∧ ∀ i, i < m → h'[i]? = h[i]?) := by
  refine en_X12_init rfl ?_
  rw [show pm_df 12 = [.null, .null, .null, .int 0, .int 0, .null, .int 0, .null, .int 0, .int 0, .int 0, .int 0, .int 0, .int 0, .int 0, .int 0, .null, .null, .null, .int 0, .null, .null, .int 0] from rfl] at ho
  have n0 : (2195 : Int32).toNatClampNeg = 2195 := rfl
  simp only [w_X12_init_0, w_X12_init_1, w_X12_init_4, w_X12_init_5, w_X12_init_8, pm_1i_c, pm_2i_c, pm_1l_c, pm_2l_c, pm_1a_c, pm_ia_c, pm_iia_c, pm_va_c, pm_cp_c, pm_k0_c, pm_k1_c, pm_k2_c, pm_k3_c, pm_s1_c, pm_s2_c, pm_s3_c, pm_s4_c, pm_ri_c, pm_ra_c, pm_rn_c, pm_rk_i, pm_rk_z, pm_rk_a, pm_vk_i, pm_vk_z, pm_vk_a, pm_cti, pm_ctr, pm_ldi_z, pm_ldi_s, pm_lda_z, pm_lda_s, pm_cat_n, pm_cat_i, pm_cat_r, pm_cat_l, pm_obj, pm_arr, pm_opt, pm_ird, pm_aln, List.getElem?_cons_zero, List.getElem?_cons_succ, List.set_cons_zero, List.set_cons_succ, List.length_cons, List.length_nil, List.length_set, true_and, and_true, Nat.add_zero, Nat.zero_add, Nat.le_refl, Nat.reduceAdd, Nat.reduceLT, Nat.reduceLeDiff, Nat.zero_le, not_false_eq_true, not_true_eq_false, false_implies, implies_true, true_implies, Nat.zero_lt_succ, Nat.lt_add_one, n0, hl, show ¬ (2195 : Int32) < 0 by decide]
  repeat (with_reducible refine And.intro (by omega) ?_)
  obtain ⟨g0, Eg0, Lg0, Cg0, Gg0⟩ := new_ok hl (.inl (0, 2195, .inl (fun _ => 0)))
  rw [Eg0]
  have og0 := (Gg0 m (by omega)).trans ho
  simp only [w_X12_init_10, pm_1i_c, pm_2i_c, pm_1l_c, pm_2l_c, pm_1a_c, pm_ia_c, pm_iia_c, pm_va_c, pm_cp_c, pm_k0_c, pm_k1_c, pm_k2_c, pm_k3_c, pm_s1_c, pm_s2_c, pm_s3_c, pm_s4_c, pm_ri_c, pm_ra_c, pm_rn_c, pm_rk_i, pm_rk_z, pm_rk_a, pm_vk_i, pm_vk_z, pm_vk_a, pm_cti, pm_ctr, pm_ldi_z, pm_ldi_s, pm_lda_z, pm_lda_s, pm_cat_n, pm_cat_i, pm_cat_r, pm_cat_l, pm_obj, pm_arr, pm_opt, pm_ird, pm_aln, List.getElem?_cons_zero, List.getElem?_cons_succ, List.set_cons_zero, List.set_cons_succ, List.length_cons, List.length_nil, List.length_set, true_and, and_true, Nat.add_zero, Nat.zero_add, Nat.le_refl, Nat.reduceAdd, Nat.reduceLT, Nat.reduceLeDiff, Nat.zero_le, not_false_eq_true, not_true_eq_false, false_implies, implies_true, true_implies, Nat.zero_lt_succ, Nat.lt_add_one, og0, Lg0]
  obtain ⟨z0, Ez0, Lz0, Cz0, Gz0⟩ := set_ok og0 (.inr (12, [.ref (m + 1), .null, .null, .int 0, .int 0, .null, .int 0, .null, .int 0, .int 0, .int 0, .int 0, .int 0, .int 0, .int 0, .int 0, .null, .null, .null, .int 0, .null, .null, .int 0]))
  rw [Ez0]
  have Lq0 : z0.length = m + 2 := by rw [Lz0, Lg0]
  have T0 : ∀ i, i ≠ m → i < m + 1 → z0[i]? = h[i]? := fun i a b => by rw [Gz0 i a, Gg0 i (by omega)]
  have A0 : z0[m + 1]? = some (.inl (0, 2195, .inl (fun _ => 0))) := (Gz0 _ (by omega)).trans Cg0
  clear Eg0 Lg0 Cg0 Gg0 og0 Ez0 Lz0 Gz0
  have n1 : (2195 : Int32).toNatClampNeg = 2195 := rfl
  simp only [w_X12_init_13, w_X12_init_14, w_X12_init_17, pm_1i_c, pm_2i_c, pm_1l_c, pm_2l_c, pm_1a_c, pm_ia_c, pm_iia_c, pm_va_c, pm_cp_c, pm_k0_c, pm_k1_c, pm_k2_c, pm_k3_c, pm_s1_c, pm_s2_c, pm_s3_c, pm_s4_c, pm_ri_c, pm_ra_c, pm_rn_c, pm_rk_i, pm_rk_z, pm_rk_a, pm_vk_i, pm_vk_z, pm_vk_a, pm_cti, pm_ctr, pm_ldi_z, pm_ldi_s, pm_lda_z, pm_lda_s, pm_cat_n, pm_cat_i, pm_cat_r, pm_cat_l, pm_obj, pm_arr, pm_opt, pm_ird, pm_aln, List.getElem?_cons_zero, List.getElem?_cons_succ, List.set_cons_zero, List.set_cons_succ, List.length_cons, List.length_nil, List.length_set, true_and, and_true, Nat.add_zero, Nat.zero_add, Nat.le_refl, Nat.reduceAdd, Nat.reduceLT, Nat.reduceLeDiff, Nat.zero_le, not_false_eq_true, not_true_eq_false, false_implies, implies_true, true_implies, Nat.zero_lt_succ, Nat.lt_add_one, n1, Lq0, show ¬ (2195 : Int32) < 0 by decide]
  repeat (with_reducible refine And.intro (by omega) ?_)
  obtain ⟨g1, Eg1, Lg1, Cg1, Gg1⟩ := new_ok Lq0 (.inl (0, 2195, .inl (fun _ => 0)))
  rw [Eg1]
  have og1 := (Gg1 m (by omega)).trans Cz0
  simp only [w_X12_init_19, pm_1i_c, pm_2i_c, pm_1l_c, pm_2l_c, pm_1a_c, pm_ia_c, pm_iia_c, pm_va_c, pm_cp_c, pm_k0_c, pm_k1_c, pm_k2_c, pm_k3_c, pm_s1_c, pm_s2_c, pm_s3_c, pm_s4_c, pm_ri_c, pm_ra_c, pm_rn_c, pm_rk_i, pm_rk_z, pm_rk_a, pm_vk_i, pm_vk_z, pm_vk_a, pm_cti, pm_ctr, pm_ldi_z, pm_ldi_s, pm_lda_z, pm_lda_s, pm_cat_n, pm_cat_i, pm_cat_r, pm_cat_l, pm_obj, pm_arr, pm_opt, pm_ird, pm_aln, List.getElem?_cons_zero, List.getElem?_cons_succ, List.set_cons_zero, List.set_cons_succ, List.length_cons, List.length_nil, List.length_set, true_and, and_true, Nat.add_zero, Nat.zero_add, Nat.le_refl, Nat.reduceAdd, Nat.reduceLT, Nat.reduceLeDiff, Nat.zero_le, not_false_eq_true, not_true_eq_false, false_implies, implies_true, true_implies, Nat.zero_lt_succ, Nat.lt_add_one, og1, Lg1]
  obtain ⟨z1, Ez1, Lz1, Cz1, Gz1⟩ := set_ok og1 (.inr (12, [.ref (m + 1), .ref (m + 2), .null, .int 0, .int 0, .null, .int 0, .null, .int 0, .int 0, .int 0, .int 0, .int 0, .int 0, .int 0, .int 0, .null, .null, .null, .int 0, .null, .null, .int 0]))
  rw [Ez1]
  have Lq1 : z1.length = m + 3 := by rw [Lz1, Lg1]
  have T1 : ∀ i, i ≠ m → i < m + 2 → z1[i]? = z0[i]? := fun i a b => by rw [Gz1 i a, Gg1 i (by omega)]
  have A1 : z1[m + 2]? = some (.inl (0, 2195, .inl (fun _ => 0))) := (Gz1 _ (by omega)).trans Cg1
  clear Eg1 Lg1 Cg1 Gg1 og1 Ez1 Lz1 Gz1
  have n2 : (2195 : Int32).toNatClampNeg = 2195 := rfl
  simp only [w_X12_init_22, w_X12_init_23, w_X12_init_26, pm_1i_c, pm_2i_c, pm_1l_c, pm_2l_c, pm_1a_c, pm_ia_c, pm_iia_c, pm_va_c, pm_cp_c, pm_k0_c, pm_k1_c, pm_k2_c, pm_k3_c, pm_s1_c, pm_s2_c, pm_s3_c, pm_s4_c, pm_ri_c, pm_ra_c, pm_rn_c, pm_rk_i, pm_rk_z, pm_rk_a, pm_vk_i, pm_vk_z, pm_vk_a, pm_cti, pm_ctr, pm_ldi_z, pm_ldi_s, pm_lda_z, pm_lda_s, pm_cat_n, pm_cat_i, pm_cat_r, pm_cat_l, pm_obj, pm_arr, pm_opt, pm_ird, pm_aln, List.getElem?_cons_zero, List.getElem?_cons_succ, List.set_cons_zero, List.set_cons_succ, List.length_cons, List.length_nil, List.length_set, true_and, and_true, Nat.add_zero, Nat.zero_add, Nat.le_refl, Nat.reduceAdd, Nat.reduceLT, Nat.reduceLeDiff, Nat.zero_le, not_false_eq_true, not_true_eq_false, false_implies, implies_true, true_implies, Nat.zero_lt_succ, Nat.lt_add_one, n2, Lq1, show ¬ (2195 : Int32) < 0 by decide]
  repeat (with_reducible refine And.intro (by omega) ?_)
  obtain ⟨g2, Eg2, Lg2, Cg2, Gg2⟩ := new_ok Lq1 (.inl (0, 2195, .inl (fun _ => 0)))
  rw [Eg2]
  have og2 := (Gg2 m (by omega)).trans Cz1
  simp only [w_X12_init_28, pm_1i_c, pm_2i_c, pm_1l_c, pm_2l_c, pm_1a_c, pm_ia_c, pm_iia_c, pm_va_c, pm_cp_c, pm_k0_c, pm_k1_c, pm_k2_c, pm_k3_c, pm_s1_c, pm_s2_c, pm_s3_c, pm_s4_c, pm_ri_c, pm_ra_c, pm_rn_c, pm_rk_i, pm_rk_z, pm_rk_a, pm_vk_i, pm_vk_z, pm_vk_a, pm_cti, pm_ctr, pm_ldi_z, pm_ldi_s, pm_lda_z, pm_lda_s, pm_cat_n, pm_cat_i, pm_cat_r, pm_cat_l, pm_obj, pm_arr, pm_opt, pm_ird, pm_aln, List.getElem?_cons_zero, List.getElem?_cons_succ, List.set_cons_zero, List.set_cons_succ, List.length_cons, List.length_nil, List.length_set, true_and, and_true, Nat.add_zero, Nat.zero_add, Nat.le_refl, Nat.reduceAdd, Nat.reduceLT, Nat.reduceLeDiff, Nat.zero_le, not_false_eq_true, not_true_eq_false, false_implies, implies_true, true_implies, Nat.zero_lt_succ, Nat.lt_add_one, og2, Lg2]
  obtain ⟨z2, Ez2, Lz2, Cz2, Gz2⟩ := set_ok og2 (.inr (12, [.ref (m + 1), .ref (m + 2), .ref (m + 3), .int 0, .int 0, .null, .int 0, .null, .int 0, .int 0, .int 0, .int 0, .int 0, .int 0, .int 0, .int 0, .null, .null, .null, .int 0, .null, .null, .int 0]))
  rw [Ez2]
  have Lq2 : z2.length = m + 4 := by rw [Lz2, Lg2]
  have T2 : ∀ i, i ≠ m → i < m + 3 → z2[i]? = z1[i]? := fun i a b => by rw [Gz2 i a, Gg2 i (by omega)]
  have A2 : z2[m + 3]? = some (.inl (0, 2195, .inl (fun _ => 0))) := (Gz2 _ (by omega)).trans Cg2
  clear Eg2 Lg2 Cg2 Gg2 og2 Ez2 Lz2 Gz2
  have n3 : (400 : Int32).toNatClampNeg = 400 := rfl
  simp only [w_X12_init_31, w_X12_init_32, w_X12_init_35, pm_1i_c, pm_2i_c, pm_1l_c, pm_2l_c, pm_1a_c, pm_ia_c, pm_iia_c, pm_va_c, pm_cp_c, pm_k0_c, pm_k1_c, pm_k2_c, pm_k3_c, pm_s1_c, pm_s2_c, pm_s3_c, pm_s4_c, pm_ri_c, pm_ra_c, pm_rn_c, pm_rk_i, pm_rk_z, pm_rk_a, pm_vk_i, pm_vk_z, pm_vk_a, pm_cti, pm_ctr, pm_ldi_z, pm_ldi_s, pm_lda_z, pm_lda_s, pm_cat_n, pm_cat_i, pm_cat_r, pm_cat_l, pm_obj, pm_arr, pm_opt, pm_ird, pm_aln, List.getElem?_cons_zero, List.getElem?_cons_succ, List.set_cons_zero, List.set_cons_succ, List.length_cons, List.length_nil, List.length_set, true_and, and_true, Nat.add_zero, Nat.zero_add, Nat.le_refl, Nat.reduceAdd, Nat.reduceLT, Nat.reduceLeDiff, Nat.zero_le, not_false_eq_true, not_true_eq_false, false_implies, implies_true, true_implies, Nat.zero_lt_succ, Nat.lt_add_one, n3, Lq2, show ¬ (400 : Int32) < 0 by decide]
  repeat (with_reducible refine And.intro (by omega) ?_)
  obtain ⟨g3, Eg3, Lg3, Cg3, Gg3⟩ := new_ok Lq2 (.inl (1, 400, .inl (fun _ => 0)))
  rw [Eg3]
  have og3 := (Gg3 m (by omega)).trans Cz2
  simp only [w_X12_init_37, pm_1i_c, pm_2i_c, pm_1l_c, pm_2l_c, pm_1a_c, pm_ia_c, pm_iia_c, pm_va_c, pm_cp_c, pm_k0_c, pm_k1_c, pm_k2_c, pm_k3_c, pm_s1_c, pm_s2_c, pm_s3_c, pm_s4_c, pm_ri_c, pm_ra_c, pm_rn_c, pm_rk_i, pm_rk_z, pm_rk_a, pm_vk_i, pm_vk_z, pm_vk_a, pm_cti, pm_ctr, pm_ldi_z, pm_ldi_s, pm_lda_z, pm_lda_s, pm_cat_n, pm_cat_i, pm_cat_r, pm_cat_l, pm_obj, pm_arr, pm_opt, pm_ird, pm_aln, List.getElem?_cons_zero, List.getElem?_cons_succ, List.set_cons_zero, List.set_cons_succ, List.length_cons, List.length_nil, List.length_set, true_and, and_true, Nat.add_zero, Nat.zero_add, Nat.le_refl, Nat.reduceAdd, Nat.reduceLT, Nat.reduceLeDiff, Nat.zero_le, not_false_eq_true, not_true_eq_false, false_implies, implies_true, true_implies, Nat.zero_lt_succ, Nat.lt_add_one, og3, Lg3]
  obtain ⟨z3, Ez3, Lz3, Cz3, Gz3⟩ := set_ok og3 (.inr (12, [.ref (m + 1), .ref (m + 2), .ref (m + 3), .int 0, .int 0, .ref (m + 4), .int 0, .null, .int 0, .int 0, .int 0, .int 0, .int 0, .int 0, .int 0, .int 0, .null, .null, .null, .int 0, .null, .null, .int 0]))
  rw [Ez3]
  have Lq3 : z3.length = m + 5 := by rw [Lz3, Lg3]
  have T3 : ∀ i, i ≠ m → i < m + 4 → z3[i]? = z2[i]? := fun i a b => by rw [Gz3 i a, Gg3 i (by omega)]
  have A3 : z3[m + 4]? = some (.inl (1, 400, .inl (fun _ => 0))) := (Gz3 _ (by omega)).trans Cg3
  clear Eg3 Lg3 Cg3 Gg3 og3 Ez3 Lz3 Gz3
  have n4 : (5 : Int32).toNatClampNeg = 5 := rfl
  simp only [w_X12_init_40, w_X12_init_41, w_X12_init_42, pm_1i_c, pm_2i_c, pm_1l_c, pm_2l_c, pm_1a_c, pm_ia_c, pm_iia_c, pm_va_c, pm_cp_c, pm_k0_c, pm_k1_c, pm_k2_c, pm_k3_c, pm_s1_c, pm_s2_c, pm_s3_c, pm_s4_c, pm_ri_c, pm_ra_c, pm_rn_c, pm_rk_i, pm_rk_z, pm_rk_a, pm_vk_i, pm_vk_z, pm_vk_a, pm_cti, pm_ctr, pm_ldi_z, pm_ldi_s, pm_lda_z, pm_lda_s, pm_cat_n, pm_cat_i, pm_cat_r, pm_cat_l, pm_obj, pm_arr, pm_opt, pm_ird, pm_aln, List.getElem?_cons_zero, List.getElem?_cons_succ, List.set_cons_zero, List.set_cons_succ, List.length_cons, List.length_nil, List.length_set, true_and, and_true, Nat.add_zero, Nat.zero_add, Nat.le_refl, Nat.reduceAdd, Nat.reduceLT, Nat.reduceLeDiff, Nat.zero_le, not_false_eq_true, not_true_eq_false, false_implies, implies_true, true_implies, Nat.zero_lt_succ, Nat.lt_add_one, n4, Lq3, show ¬ (5 : Int32) < 0 by decide]
  repeat (with_reducible refine And.intro (by omega) ?_)
  obtain ⟨g4, Eg4, Lg4, Cg4, Gg4⟩ := new_ok Lq3 (.inl (0, 5, .inl (fun _ => 0)))
  rw [Eg4]
  have og4 := (Gg4 m (by omega)).trans Cz3
  simp only [w_X12_init_44, pm_1i_c, pm_2i_c, pm_1l_c, pm_2l_c, pm_1a_c, pm_ia_c, pm_iia_c, pm_va_c, pm_cp_c, pm_k0_c, pm_k1_c, pm_k2_c, pm_k3_c, pm_s1_c, pm_s2_c, pm_s3_c, pm_s4_c, pm_ri_c, pm_ra_c, pm_rn_c, pm_rk_i, pm_rk_z, pm_rk_a, pm_vk_i, pm_vk_z, pm_vk_a, pm_cti, pm_ctr, pm_ldi_z, pm_ldi_s, pm_lda_z, pm_lda_s, pm_cat_n, pm_cat_i, pm_cat_r, pm_cat_l, pm_obj, pm_arr, pm_opt, pm_ird, pm_aln, List.getElem?_cons_zero, List.getElem?_cons_succ, List.set_cons_zero, List.set_cons_succ, List.length_cons, List.length_nil, List.length_set, true_and, and_true, Nat.add_zero, Nat.zero_add, Nat.le_refl, Nat.reduceAdd, Nat.reduceLT, Nat.reduceLeDiff, Nat.zero_le, not_false_eq_true, not_true_eq_false, false_implies, implies_true, true_implies, Nat.zero_lt_succ, Nat.lt_add_one, og4, Lg4]
  obtain ⟨z4, Ez4, Lz4, Cz4, Gz4⟩ := set_ok og4 (.inr (12, [.ref (m + 1), .ref (m + 2), .ref (m + 3), .int 0, .int 0, .ref (m + 4), .int 0, .ref (m + 5), .int 0, .int 0, .int 0, .int 0, .int 0, .int 0, .int 0, .int 0, .null, .null, .null, .int 0, .null, .null, .int 0]))
  rw [Ez4]
  have Lq4 : z4.length = m + 6 := by rw [Lz4, Lg4]
  have T4 : ∀ i, i ≠ m → i < m + 5 → z4[i]? = z3[i]? := fun i a b => by rw [Gz4 i a, Gg4 i (by omega)]
  have A4 : z4[m + 5]? = some (.inl (0, 5, .inl (fun _ => 0))) := (Gz4 _ (by omega)).trans Cg4
  clear Eg4 Lg4 Cg4 Gg4 og4 Ez4 Lz4 Gz4
  obtain ⟨zf, Ezf, Lzf, Czf, Gzf⟩ := set_ok Cz4 (.inr (12, [.ref (m + 1), .ref (m + 2), .ref (m + 3), .int 0, .int 0, .ref (m + 4), .int 0, .ref (m + 5), .int 0, .int 0, .int 0, .int 0, .int (-1), .int 0, .int 0, .int 0, .null, .null, .null, .int 0, .null, .null, .int 0]))
  simp only [w_X12_init_47, w_X12_init_48, w_X12_init_49, pm_1i_c, pm_2i_c, pm_1l_c, pm_2l_c, pm_1a_c, pm_ia_c, pm_iia_c, pm_va_c, pm_cp_c, pm_k0_c, pm_k1_c, pm_k2_c, pm_k3_c, pm_s1_c, pm_s2_c, pm_s3_c, pm_s4_c, pm_ri_c, pm_ra_c, pm_rn_c, pm_rk_i, pm_rk_z, pm_rk_a, pm_vk_i, pm_vk_z, pm_vk_a, pm_cti, pm_ctr, pm_ldi_z, pm_ldi_s, pm_lda_z, pm_lda_s, pm_cat_n, pm_cat_i, pm_cat_r, pm_cat_l, pm_obj, pm_arr, pm_opt, pm_ird, pm_aln, List.getElem?_cons_zero, List.getElem?_cons_succ, List.set_cons_zero, List.set_cons_succ, List.length_cons, List.length_nil, List.length_set, true_and, and_true, Nat.add_zero, Nat.zero_add, Nat.le_refl, Nat.reduceAdd, Nat.reduceLT, Nat.reduceLeDiff, Nat.zero_le, not_false_eq_true, not_true_eq_false, false_implies, implies_true, true_implies, Nat.zero_lt_succ, Nat.lt_add_one, Cz4]
  rw [Ezf]
  have Lzf2 : zf.length = m + 6 := by rw [Lzf, Lq4]
  have n5 : (500 : Int32).toNatClampNeg = 500 := rfl
  simp only [w_X12_init_52, w_X12_init_53, w_X12_init_56, pm_1i_c, pm_2i_c, pm_1l_c, pm_2l_c, pm_1a_c, pm_ia_c, pm_iia_c, pm_va_c, pm_cp_c, pm_k0_c, pm_k1_c, pm_k2_c, pm_k3_c, pm_s1_c, pm_s2_c, pm_s3_c, pm_s4_c, pm_ri_c, pm_ra_c, pm_rn_c, pm_rk_i, pm_rk_z, pm_rk_a, pm_vk_i, pm_vk_z, pm_vk_a, pm_cti, pm_ctr, pm_ldi_z, pm_ldi_s, pm_lda_z, pm_lda_s, pm_cat_n, pm_cat_i, pm_cat_r, pm_cat_l, pm_obj, pm_arr, pm_opt, pm_ird, pm_aln, List.getElem?_cons_zero, List.getElem?_cons_succ, List.set_cons_zero, List.set_cons_succ, List.length_cons, List.length_nil, List.length_set, true_and, and_true, Nat.add_zero, Nat.zero_add, Nat.le_refl, Nat.reduceAdd, Nat.reduceLT, Nat.reduceLeDiff, Nat.zero_le, not_false_eq_true, not_true_eq_false, false_implies, implies_true, true_implies, Nat.zero_lt_succ, Nat.lt_add_one, n5, Lzf2, show ¬ (500 : Int32) < 0 by decide]
  repeat (with_reducible refine And.intro (by omega) ?_)
  obtain ⟨g5, Eg5, Lg5, Cg5, Gg5⟩ := new_ok Lzf2 (.inl (0, 500, .inl (fun _ => 0)))
  rw [Eg5]
  have og5 := (Gg5 m (by omega)).trans Czf
  simp only [w_X12_init_58, pm_1i_c, pm_2i_c, pm_1l_c, pm_2l_c, pm_1a_c, pm_ia_c, pm_iia_c, pm_va_c, pm_cp_c, pm_k0_c, pm_k1_c, pm_k2_c, pm_k3_c, pm_s1_c, pm_s2_c, pm_s3_c, pm_s4_c, pm_ri_c, pm_ra_c, pm_rn_c, pm_rk_i, pm_rk_z, pm_rk_a, pm_vk_i, pm_vk_z, pm_vk_a, pm_cti, pm_ctr, pm_ldi_z, pm_ldi_s, pm_lda_z, pm_lda_s, pm_cat_n, pm_cat_i, pm_cat_r, pm_cat_l, pm_obj, pm_arr, pm_opt, pm_ird, pm_aln, List.getElem?_cons_zero, List.getElem?_cons_succ, List.set_cons_zero, List.set_cons_succ, List.length_cons, List.length_nil, List.length_set, true_and, and_true, Nat.add_zero, Nat.zero_add, Nat.le_refl, Nat.reduceAdd, Nat.reduceLT, Nat.reduceLeDiff, Nat.zero_le, not_false_eq_true, not_true_eq_false, false_implies, implies_true, true_implies, Nat.zero_lt_succ, Nat.lt_add_one, og5, Lg5]
  obtain ⟨z5, Ez5, Lz5, Cz5, Gz5⟩ := set_ok og5 (.inr (12, [.ref (m + 1), .ref (m + 2), .ref (m + 3), .int 0, .int 0, .ref (m + 4), .int 0, .ref (m + 5), .int 0, .int 0, .int 0, .int 0, .int (-1), .int 0, .int 0, .int 0, .ref (m + 6), .null, .null, .int 0, .null, .null, .int 0]))
  rw [Ez5]
  have Lq5 : z5.length = m + 7 := by rw [Lz5, Lg5]
  have T5 : ∀ i, i ≠ m → i < m + 6 → z5[i]? = z4[i]? := fun i a b => by rw [Gz5 i a, Gg5 i (by omega), Gzf i a]
  have A5 : z5[m + 6]? = some (.inl (0, 500, .inl (fun _ => 0))) := (Gz5 _ (by omega)).trans Cg5
  clear Eg5 Lg5 Cg5 Gg5 og5 Ez5 Lz5 Gz5 Ezf Lzf Lzf2 Czf Gzf
  have n6 : (500 : Int32).toNatClampNeg = 500 := rfl
  simp only [w_X12_init_61, w_X12_init_62, w_X12_init_65, pm_1i_c, pm_2i_c, pm_1l_c, pm_2l_c, pm_1a_c, pm_ia_c, pm_iia_c, pm_va_c, pm_cp_c, pm_k0_c, pm_k1_c, pm_k2_c, pm_k3_c, pm_s1_c, pm_s2_c, pm_s3_c, pm_s4_c, pm_ri_c, pm_ra_c, pm_rn_c, pm_rk_i, pm_rk_z, pm_rk_a, pm_vk_i, pm_vk_z, pm_vk_a, pm_cti, pm_ctr, pm_ldi_z, pm_ldi_s, pm_lda_z, pm_lda_s, pm_cat_n, pm_cat_i, pm_cat_r, pm_cat_l, pm_obj, pm_arr, pm_opt, pm_ird, pm_aln, List.getElem?_cons_zero, List.getElem?_cons_succ, List.set_cons_zero, List.set_cons_succ, List.length_cons, List.length_nil, List.length_set, true_and, and_true, Nat.add_zero, Nat.zero_add, Nat.le_refl, Nat.reduceAdd, Nat.reduceLT, Nat.reduceLeDiff, Nat.zero_le, not_false_eq_true, not_true_eq_false, false_implies, implies_true, true_implies, Nat.zero_lt_succ, Nat.lt_add_one, n6, Lq5, show ¬ (500 : Int32) < 0 by decide]
  repeat (with_reducible refine And.intro (by omega) ?_)
  obtain ⟨g6, Eg6, Lg6, Cg6, Gg6⟩ := new_ok Lq5 (.inl (0, 500, .inl (fun _ => 0)))
  rw [Eg6]
  have og6 := (Gg6 m (by omega)).trans Cz5
  simp only [w_X12_init_67, pm_1i_c, pm_2i_c, pm_1l_c, pm_2l_c, pm_1a_c, pm_ia_c, pm_iia_c, pm_va_c, pm_cp_c, pm_k0_c, pm_k1_c, pm_k2_c, pm_k3_c, pm_s1_c, pm_s2_c, pm_s3_c, pm_s4_c, pm_ri_c, pm_ra_c, pm_rn_c, pm_rk_i, pm_rk_z, pm_rk_a, pm_vk_i, pm_vk_z, pm_vk_a, pm_cti, pm_ctr, pm_ldi_z, pm_ldi_s, pm_lda_z, pm_lda_s, pm_cat_n, pm_cat_i, pm_cat_r, pm_cat_l, pm_obj, pm_arr, pm_opt, pm_ird, pm_aln, List.getElem?_cons_zero, List.getElem?_cons_succ, List.set_cons_zero, List.set_cons_succ, List.length_cons, List.length_nil, List.length_set, true_and, and_true, Nat.add_zero, Nat.zero_add, Nat.le_refl, Nat.reduceAdd, Nat.reduceLT, Nat.reduceLeDiff, Nat.zero_le, not_false_eq_true, not_true_eq_false, false_implies, implies_true, true_implies, Nat.zero_lt_succ, Nat.lt_add_one, og6, Lg6]
  obtain ⟨z6, Ez6, Lz6, Cz6, Gz6⟩ := set_ok og6 (.inr (12, [.ref (m + 1), .ref (m + 2), .ref (m + 3), .int 0, .int 0, .ref (m + 4), .int 0, .ref (m + 5), .int 0, .int 0, .int 0, .int 0, .int (-1), .int 0, .int 0, .int 0, .ref (m + 6), .ref (m + 7), .null, .int 0, .null, .null, .int 0]))
  rw [Ez6]
  have Lq6 : z6.length = m + 8 := by rw [Lz6, Lg6]
  have T6 : ∀ i, i ≠ m → i < m + 7 → z6[i]? = z5[i]? := fun i a b => by rw [Gz6 i a, Gg6 i (by omega)]
  have A6 : z6[m + 7]? = some (.inl (0, 500, .inl (fun _ => 0))) := (Gz6 _ (by omega)).trans Cg6
  clear Eg6 Lg6 Cg6 Gg6 og6 Ez6 Lz6 Gz6
  have n7 : (501 : Int32).toNatClampNeg = 501 := rfl
  simp only [w_X12_init_70, w_X12_init_71, w_X12_init_74, pm_1i_c, pm_2i_c, pm_1l_c, pm_2l_c, pm_1a_c, pm_ia_c, pm_iia_c, pm_va_c, pm_cp_c, pm_k0_c, pm_k1_c, pm_k2_c, pm_k3_c, pm_s1_c, pm_s2_c, pm_s3_c, pm_s4_c, pm_ri_c, pm_ra_c, pm_rn_c, pm_rk_i, pm_rk_z, pm_rk_a, pm_vk_i, pm_vk_z, pm_vk_a, pm_cti, pm_ctr, pm_ldi_z, pm_ldi_s, pm_lda_z, pm_lda_s, pm_cat_n, pm_cat_i, pm_cat_r, pm_cat_l, pm_obj, pm_arr, pm_opt, pm_ird, pm_aln, List.getElem?_cons_zero, List.getElem?_cons_succ, List.set_cons_zero, List.set_cons_succ, List.length_cons, List.length_nil, List.length_set, true_and, and_true, Nat.add_zero, Nat.zero_add, Nat.le_refl, Nat.reduceAdd, Nat.reduceLT, Nat.reduceLeDiff, Nat.zero_le, not_false_eq_true, not_true_eq_false, false_implies, implies_true, true_implies, Nat.zero_lt_succ, Nat.lt_add_one, n7, Lq6, show ¬ (501 : Int32) < 0 by decide]
  repeat (with_reducible refine And.intro (by omega) ?_)
  obtain ⟨g7, Eg7, Lg7, Cg7, Gg7⟩ := new_ok Lq6 (.inl (0, 501, .inl (fun _ => 0)))
  rw [Eg7]
  have og7 := (Gg7 m (by omega)).trans Cz6
  simp only [w_X12_init_76, pm_1i_c, pm_2i_c, pm_1l_c, pm_2l_c, pm_1a_c, pm_ia_c, pm_iia_c, pm_va_c, pm_cp_c, pm_k0_c, pm_k1_c, pm_k2_c, pm_k3_c, pm_s1_c, pm_s2_c, pm_s3_c, pm_s4_c, pm_ri_c, pm_ra_c, pm_rn_c, pm_rk_i, pm_rk_z, pm_rk_a, pm_vk_i, pm_vk_z, pm_vk_a, pm_cti, pm_ctr, pm_ldi_z, pm_ldi_s, pm_lda_z, pm_lda_s, pm_cat_n, pm_cat_i, pm_cat_r, pm_cat_l, pm_obj, pm_arr, pm_opt, pm_ird, pm_aln, List.getElem?_cons_zero, List.getElem?_cons_succ, List.set_cons_zero, List.set_cons_succ, List.length_cons, List.length_nil, List.length_set, true_and, and_true, Nat.add_zero, Nat.zero_add, Nat.le_refl, Nat.reduceAdd, Nat.reduceLT, Nat.reduceLeDiff, Nat.zero_le, not_false_eq_true, not_true_eq_false, false_implies, implies_true, true_implies, Nat.zero_lt_succ, Nat.lt_add_one, og7, Lg7]
  obtain ⟨z7, Ez7, Lz7, Cz7, Gz7⟩ := set_ok og7 (.inr (12, [.ref (m + 1), .ref (m + 2), .ref (m + 3), .int 0, .int 0, .ref (m + 4), .int 0, .ref (m + 5), .int 0, .int 0, .int 0, .int 0, .int (-1), .int 0, .int 0, .int 0, .ref (m + 6), .ref (m + 7), .ref (m + 8), .int 0, .null, .null, .int 0]))
  rw [Ez7]
  have Lq7 : z7.length = m + 9 := by rw [Lz7, Lg7]
  have T7 : ∀ i, i ≠ m → i < m + 8 → z7[i]? = z6[i]? := fun i a b => by rw [Gz7 i a, Gg7 i (by omega)]
  have A7 : z7[m + 8]? = some (.inl (0, 501, .inl (fun _ => 0))) := (Gz7 _ (by omega)).trans Cg7
  clear Eg7 Lg7 Cg7 Gg7 og7 Ez7 Lz7 Gz7
  have n8 : (66 : Int32).toNatClampNeg = 66 := rfl
  simp only [w_X12_init_79, w_X12_init_80, w_X12_init_82, pm_1i_c, pm_2i_c, pm_1l_c, pm_2l_c, pm_1a_c, pm_ia_c, pm_iia_c, pm_va_c, pm_cp_c, pm_k0_c, pm_k1_c, pm_k2_c, pm_k3_c, pm_s1_c, pm_s2_c, pm_s3_c, pm_s4_c, pm_ri_c, pm_ra_c, pm_rn_c, pm_rk_i, pm_rk_z, pm_rk_a, pm_vk_i, pm_vk_z, pm_vk_a, pm_cti, pm_ctr, pm_ldi_z, pm_ldi_s, pm_lda_z, pm_lda_s, pm_cat_n, pm_cat_i, pm_cat_r, pm_cat_l, pm_obj, pm_arr, pm_opt, pm_ird, pm_aln, List.getElem?_cons_zero, List.getElem?_cons_succ, List.set_cons_zero, List.set_cons_succ, List.length_cons, List.length_nil, List.length_set, true_and, and_true, Nat.add_zero, Nat.zero_add, Nat.le_refl, Nat.reduceAdd, Nat.reduceLT, Nat.reduceLeDiff, Nat.zero_le, not_false_eq_true, not_true_eq_false, false_implies, implies_true, true_implies, Nat.zero_lt_succ, Nat.lt_add_one, n8, Lq7, show ¬ (66 : Int32) < 0 by decide]
  repeat (with_reducible refine And.intro (by omega) ?_)
  obtain ⟨g8, Eg8, Lg8, Cg8, Gg8⟩ := new_ok Lq7 (.inl (0, 66, .inl (fun _ => 0)))
  rw [Eg8]
  have og8 := (Gg8 m (by omega)).trans Cz7
  simp only [w_X12_init_84, pm_1i_c, pm_2i_c, pm_1l_c, pm_2l_c, pm_1a_c, pm_ia_c, pm_iia_c, pm_va_c, pm_cp_c, pm_k0_c, pm_k1_c, pm_k2_c, pm_k3_c, pm_s1_c, pm_s2_c, pm_s3_c, pm_s4_c, pm_ri_c, pm_ra_c, pm_rn_c, pm_rk_i, pm_rk_z, pm_rk_a, pm_vk_i, pm_vk_z, pm_vk_a, pm_cti, pm_ctr, pm_ldi_z, pm_ldi_s, pm_lda_z, pm_lda_s, pm_cat_n, pm_cat_i, pm_cat_r, pm_cat_l, pm_obj, pm_arr, pm_opt, pm_ird, pm_aln, List.getElem?_cons_zero, List.getElem?_cons_succ, List.set_cons_zero, List.set_cons_succ, List.length_cons, List.length_nil, List.length_set, true_and, and_true, Nat.add_zero, Nat.zero_add, Nat.le_refl, Nat.reduceAdd, Nat.reduceLT, Nat.reduceLeDiff, Nat.zero_le, not_false_eq_true, not_true_eq_false, false_implies, implies_true, true_implies, Nat.zero_lt_succ, Nat.lt_add_one, og8, Lg8]
  obtain ⟨z8, Ez8, Lz8, Cz8, Gz8⟩ := set_ok og8 (.inr (12, [.ref (m + 1), .ref (m + 2), .ref (m + 3), .int 0, .int 0, .ref (m + 4), .int 0, .ref (m + 5), .int 0, .int 0, .int 0, .int 0, .int (-1), .int 0, .int 0, .int 0, .ref (m + 6), .ref (m + 7), .ref (m + 8), .int 0, .ref (m + 9), .null, .int 0]))
  rw [Ez8]
  have Lq8 : z8.length = m + 10 := by rw [Lz8, Lg8]
  have T8 : ∀ i, i ≠ m → i < m + 9 → z8[i]? = z7[i]? := fun i a b => by rw [Gz8 i a, Gg8 i (by omega)]
  have A8 : z8[m + 9]? = some (.inl (0, 66, .inl (fun _ => 0))) := (Gz8 _ (by omega)).trans Cg8
  clear Eg8 Lg8 Cg8 Gg8 og8 Ez8 Lz8 Gz8
  have n9 : (1000 : Int32).toNatClampNeg = 1000 := rfl
  simp only [w_X12_init_87, w_X12_init_88, w_X12_init_91, pm_1i_c, pm_2i_c, pm_1l_c, pm_2l_c, pm_1a_c, pm_ia_c, pm_iia_c, pm_va_c, pm_cp_c, pm_k0_c, pm_k1_c, pm_k2_c, pm_k3_c, pm_s1_c, pm_s2_c, pm_s3_c, pm_s4_c, pm_ri_c, pm_ra_c, pm_rn_c, pm_rk_i, pm_rk_z, pm_rk_a, pm_vk_i, pm_vk_z, pm_vk_a, pm_cti, pm_ctr, pm_ldi_z, pm_ldi_s, pm_lda_z, pm_lda_s, pm_cat_n, pm_cat_i, pm_cat_r, pm_cat_l, pm_obj, pm_arr, pm_opt, pm_ird, pm_aln, List.getElem?_cons_zero, List.getElem?_cons_succ, List.set_cons_zero, List.set_cons_succ, List.length_cons, List.length_nil, List.length_set, true_and, and_true, Nat.add_zero, Nat.zero_add, Nat.le_refl, Nat.reduceAdd, Nat.reduceLT, Nat.reduceLeDiff, Nat.zero_le, not_false_eq_true, not_true_eq_false, false_implies, implies_true, true_implies, Nat.zero_lt_succ, Nat.lt_add_one, n9, Lq8, show ¬ (1000 : Int32) < 0 by decide]
  repeat (with_reducible refine And.intro (by omega) ?_)
  obtain ⟨g9, Eg9, Lg9, Cg9, Gg9⟩ := new_ok Lq8 (.inl (1, 1000, .inl (fun _ => 0)))
  rw [Eg9]
  have og9 := (Gg9 m (by omega)).trans Cz8
  simp only [w_X12_init_93, pm_1i_c, pm_2i_c, pm_1l_c, pm_2l_c, pm_1a_c, pm_ia_c, pm_iia_c, pm_va_c, pm_cp_c, pm_k0_c, pm_k1_c, pm_k2_c, pm_k3_c, pm_s1_c, pm_s2_c, pm_s3_c, pm_s4_c, pm_ri_c, pm_ra_c, pm_rn_c, pm_rk_i, pm_rk_z, pm_rk_a, pm_vk_i, pm_vk_z, pm_vk_a, pm_cti, pm_ctr, pm_ldi_z, pm_ldi_s, pm_lda_z, pm_lda_s, pm_cat_n, pm_cat_i, pm_cat_r, pm_cat_l, pm_obj, pm_arr, pm_opt, pm_ird, pm_aln, List.getElem?_cons_zero, List.getElem?_cons_succ, List.set_cons_zero, List.set_cons_succ, List.length_cons, List.length_nil, List.length_set, true_and, and_true, Nat.add_zero, Nat.zero_add, Nat.le_refl, Nat.reduceAdd, Nat.reduceLT, Nat.reduceLeDiff, Nat.zero_le, not_false_eq_true, not_true_eq_false, false_implies, implies_true, true_implies, Nat.zero_lt_succ, Nat.lt_add_one, og9, Lg9]
  obtain ⟨z9, Ez9, Lz9, Cz9, Gz9⟩ := set_ok og9 (.inr (12, [.ref (m + 1), .ref (m + 2), .ref (m + 3), .int 0, .int 0, .ref (m + 4), .int 0, .ref (m + 5), .int 0, .int 0, .int 0, .int 0, .int (-1), .int 0, .int 0, .int 0, .ref (m + 6), .ref (m + 7), .ref (m + 8), .int 0, .ref (m + 9), .ref (m + 10), .int 0]))
  rw [Ez9]
  have Lq9 : z9.length = m + 11 := by rw [Lz9, Lg9]
  have T9 : ∀ i, i ≠ m → i < m + 10 → z9[i]? = z8[i]? := fun i a b => by rw [Gz9 i a, Gg9 i (by omega)]
  have A9 : z9[m + 10]? = some (.inl (1, 1000, .inl (fun _ => 0))) := (Gz9 _ (by omega)).trans Cg9
  clear Eg9 Lg9 Cg9 Gg9 og9 Ez9 Lz9 Gz9
  have B0 : z9[m + 1]? = some (.inl (0, 2195, .inl (fun _ => 0))) := (T9 _ (by omega) (by omega)).trans ((T8 _ (by omega) (by omega)).trans ((T7 _ (by omega) (by omega)).trans ((T6 _ (by omega) (by omega)).trans ((T5 _ (by omega) (by omega)).trans ((T4 _ (by omega) (by omega)).trans ((T3 _ (by omega) (by omega)).trans ((T2 _ (by omega) (by omega)).trans ((T1 _ (by omega) (by omega)).trans (A0)))))))))
  have B1 : z9[m + 2]? = some (.inl (0, 2195, .inl (fun _ => 0))) := (T9 _ (by omega) (by omega)).trans ((T8 _ (by omega) (by omega)).trans ((T7 _ (by omega) (by omega)).trans ((T6 _ (by omega) (by omega)).trans ((T5 _ (by omega) (by omega)).trans ((T4 _ (by omega) (by omega)).trans ((T3 _ (by omega) (by omega)).trans ((T2 _ (by omega) (by omega)).trans (A1))))))))
  have B2 : z9[m + 3]? = some (.inl (0, 2195, .inl (fun _ => 0))) := (T9 _ (by omega) (by omega)).trans ((T8 _ (by omega) (by omega)).trans ((T7 _ (by omega) (by omega)).trans ((T6 _ (by omega) (by omega)).trans ((T5 _ (by omega) (by omega)).trans ((T4 _ (by omega) (by omega)).trans ((T3 _ (by omega) (by omega)).trans (A2)))))))
  have B3 : z9[m + 4]? = some (.inl (1, 400, .inl (fun _ => 0))) := (T9 _ (by omega) (by omega)).trans ((T8 _ (by omega) (by omega)).trans ((T7 _ (by omega) (by omega)).trans ((T6 _ (by omega) (by omega)).trans ((T5 _ (by omega) (by omega)).trans ((T4 _ (by omega) (by omega)).trans (A3))))))
  have B4 : z9[m + 5]? = some (.inl (0, 5, .inl (fun _ => 0))) := (T9 _ (by omega) (by omega)).trans ((T8 _ (by omega) (by omega)).trans ((T7 _ (by omega) (by omega)).trans ((T6 _ (by omega) (by omega)).trans ((T5 _ (by omega) (by omega)).trans (A4)))))
  have B5 : z9[m + 6]? = some (.inl (0, 500, .inl (fun _ => 0))) := (T9 _ (by omega) (by omega)).trans ((T8 _ (by omega) (by omega)).trans ((T7 _ (by omega) (by omega)).trans ((T6 _ (by omega) (by omega)).trans (A5))))
  have B6 : z9[m + 7]? = some (.inl (0, 500, .inl (fun _ => 0))) := (T9 _ (by omega) (by omega)).trans ((T8 _ (by omega) (by omega)).trans ((T7 _ (by omega) (by omega)).trans (A6)))
  have B7 : z9[m + 8]? = some (.inl (0, 501, .inl (fun _ => 0))) := (T9 _ (by omega) (by omega)).trans ((T8 _ (by omega) (by omega)).trans (A7))
  have B8 : z9[m + 9]? = some (.inl (0, 66, .inl (fun _ => 0))) := (T9 _ (by omega) (by omega)).trans (A8)
  have FF : ∀ i, i < m → z9[i]? = h[i]? := fun i hi => (((((((((T9 i (by omega) (by omega)).trans (T8 i (by omega) (by omega))).trans (T7 i (by omega) (by omega))).trans (T6 i (by omega) (by omega))).trans (T5 i (by omega) (by omega))).trans (T4 i (by omega) (by omega))).trans (T3 i (by omega) (by omega))).trans (T2 i (by omega) (by omega))).trans (T1 i (by omega) (by omega))).trans (T0 i (by omega) (by omega))
  have nm : ∀ (l : pmH) (q : pmC), (l.set (m + 1) q)[m]? = l[m]? := fun _ _ => hset_n (by omega)
  simp only [w_X12_init_96, w_X12_init_97, w_X12_init_100, w_X12_init_103, w_X12_init_105, w_X12_init_106, w_X12_init_107, w_X12_init_110, w_X12_init_113, w_X12_init_115, w_X12_init_116, w_X12_init_117, w_X12_init_120, w_X12_init_123, w_X12_init_125, w_X12_init_126, w_X12_init_127, w_X12_init_130, w_X12_init_133, w_X12_init_136, w_X12_init_137, w_X12_init_138, w_X12_init_141, w_X12_init_144, w_X12_init_145, w_X12_init_146, w_X12_init_147, w_X12_init_150, w_X12_init_153, w_X12_init_154, w_X12_init_155, w_X12_init_156, w_X12_init_159, w_X12_init_162, w_X12_init_163, w_X12_init_164, w_X12_init_165, w_X12_init_168, w_X12_init_171, w_X12_init_172, w_X12_init_173, pm_1i_c, pm_2i_c, pm_1l_c, pm_2l_c, pm_1a_c, pm_ia_c, pm_iia_c, pm_va_c, pm_cp_c, pm_k0_c, pm_k1_c, pm_k2_c, pm_k3_c, pm_s1_c, pm_s2_c, pm_s3_c, pm_s4_c, pm_ri_c, pm_ra_c, pm_rn_c, pm_rk_i, pm_rk_z, pm_rk_a, pm_vk_i, pm_vk_z, pm_vk_a, pm_cti, pm_ctr, pm_ldi_z, pm_ldi_s, pm_lda_z, pm_lda_s, pm_cat_n, pm_cat_i, pm_cat_r, pm_cat_l, pm_obj, pm_arr, pm_opt, pm_ird, pm_aln, List.getElem?_cons_zero, List.getElem?_cons_succ, List.set_cons_zero, List.set_cons_succ, List.length_cons, List.length_nil, List.length_set, true_and, and_true, Nat.add_zero, Nat.zero_add, Nat.le_refl, Nat.reduceAdd, Nat.reduceLT, Nat.reduceLeDiff, Nat.zero_le, not_false_eq_true, not_true_eq_false, false_implies, implies_true, true_implies, Nat.zero_lt_succ, Nat.lt_add_one, Cz9, B0, nm, hset_s, Option.map_some, List.set_set, Lq9, List.length_set, ix_1678, vi_1678, ix_1679, vi_1679, ix_1680, vi_1680, ix_1681, vi_1681, ix_1683, vi_1683, ix_1684, vi_1684, ix_1685, vi_1685, ix_1693, vi_1693]
  repeat (with_reducible refine And.intro (by omega) ?_)
  obtain ⟨w1, Ew, Lw, Cw, Gw⟩ := set_ok B0 (.inl (0, 2195, .inl now0))
  have Ew2 : z9.set (m + 1) (.inl (0, 2195, .inl (upd (upd (upd (upd (upd (upd (upd (upd (fun _ => 0) 1678 10) 1679 10) 1680 80) 1681 200) 1683 4) 1684 1) 1685 1) 1693 (-1)))) = w1 := Ew
  rw [Ew2]
  have Hm := (Gw m (by omega)).trans Cz9
  have MD : md_ w1 m (fun i => if i = 7 then -1 else 0) AD1 := ⟨Hm, now0, Cw, rep_now0⟩
  have Lw2 : w1.length = m + 11 := by omega
  simp only [w_X12_init_174, pm_1i_c, pm_2i_c, pm_1l_c, pm_2l_c, pm_1a_c, pm_ia_c, pm_iia_c, pm_va_c, pm_cp_c, pm_k0_c, pm_k1_c, pm_k2_c, pm_k3_c, pm_s1_c, pm_s2_c, pm_s3_c, pm_s4_c, pm_ri_c, pm_ra_c, pm_rn_c, pm_rk_i, pm_rk_z, pm_rk_a, pm_vk_i, pm_vk_z, pm_vk_a, pm_cti, pm_ctr, pm_ldi_z, pm_ldi_s, pm_lda_z, pm_lda_s, pm_cat_n, pm_cat_i, pm_cat_r, pm_cat_l, pm_obj, pm_arr, pm_opt, pm_ird, pm_aln, List.getElem?_cons_zero, List.getElem?_cons_succ, List.set_cons_zero, List.set_cons_succ, List.length_cons, List.length_nil, List.length_set, true_and, and_true, Nat.add_zero, Nat.zero_add, Nat.le_refl, Nat.reduceAdd, Nat.reduceLT, Nat.reduceLeDiff, Nat.zero_le, not_false_eq_true, not_true_eq_false, false_implies, implies_true, true_implies, Nat.zero_lt_succ, Nat.lt_add_one, Hm, Lw2]
  repeat (with_reducible refine And.intro (by omega) ?_)
  refine PM_use (c_M_forgetsLatest MD d) ?_
  rintro v x1 lx ⟨rfl, M, F⟩
  rw [clrF_AD1] at M
  have lx' : x1.length = m + 11 := by omega
  show W_X12_init _ _ _ _ _ _ _ _ _
  simp only [w_X12_init_177, pm_1i_c, pm_2i_c, pm_1l_c, pm_2l_c, pm_1a_c, pm_ia_c, pm_iia_c, pm_va_c, pm_cp_c, pm_k0_c, pm_k1_c, pm_k2_c, pm_k3_c, pm_s1_c, pm_s2_c, pm_s3_c, pm_s4_c, pm_ri_c, pm_ra_c, pm_rn_c, pm_rk_i, pm_rk_z, pm_rk_a, pm_vk_i, pm_vk_z, pm_vk_a, pm_cti, pm_ctr, pm_ldi_z, pm_ldi_s, pm_lda_z, pm_lda_s, pm_cat_n, pm_cat_i, pm_cat_r, pm_cat_l, pm_obj, pm_arr, pm_opt, pm_ird, pm_aln, List.getElem?_cons_zero, List.getElem?_cons_succ, List.set_cons_zero, List.set_cons_succ, List.length_cons, List.length_nil, List.length_set, true_and, and_true, Nat.add_zero, Nat.zero_add, Nat.le_refl, Nat.reduceAdd, Nat.reduceLT, Nat.reduceLeDiff, Nat.zero_le, not_false_eq_true, not_true_eq_false, false_implies, implies_true, true_implies, Nat.zero_lt_succ, Nat.lt_add_one, pm_tl_n, pm_tl_s, sc_uL, lx']
  repeat (with_reducible refine And.intro (by omega) ?_)
  have U : ∀ i, i ≠ m + 1 → x1[i]? = z9[i]? := fun i a => (F i a).trans (Gw i a)
  refine ⟨⟨_, ⟨M.1, M.2, ⟨_, (U _ (by omega)).trans B1, fun z => absurd z (by decide)⟩, ⟨_, (U _ (by omega)).trans B2⟩, ⟨_, (U _ (by omega)).trans B3, Nat.zero_le _, rfl, fun k hk => absurd hk (Nat.not_lt_zero _)⟩, ⟨_, (U _ (by omega)).trans B4⟩, ⟨_, (U _ (by omega)).trans B5⟩, ⟨_, (U _ (by omega)).trans B6⟩, ⟨_, (U _ (by omega)).trans B7⟩, ⟨_, (U _ (by omega)).trans B8⟩, ⟨_, (U _ (by omega)).trans A9, Nat.zero_le _, rfl, fun k hk => absurd hk (Nat.not_lt_zero _)⟩⟩, rfl, rfl⟩, fun i hi => (U i (by omega)).trans (FF i hi)⟩
/-- the first desk keeps what is asked of a desk -/
theorem mI_AD0 : mI AD0 := by
  have q8 : rN AD0 = 10 := rfl
  have q9 : dN AD0 = 10 := rfl
  have q10 : kN AD0 = 80 := rfl
  have tz : ∀ x, tc AD0 x = 0 := fun x => rfl
  refine ⟨⟨⟨4, by omega, by omega, rfl⟩, Or.inr rfl, fun k _ => Or.inl rfl⟩, fun k _ => ⟨0, by omega, rfl⟩, ⟨⟨by rw [q8]; rfl, by rw [q8]; omega, by rw [q8]; omega⟩, ⟨by rw [q9]; rfl, by rw [q9]; omega, by rw [q9]; omega⟩, by rw [q10]; rfl, by rw [q10]; omega⟩, ⟨Nat.zero_le _, Nat.zero_le _, Nat.zero_le _⟩, fun x => by rw [tz]; omega, ⟨fun x hx => absurd hx (by rw [tz]; omega), fun x hx => absurd hx (by intro z; cases z)⟩, ⟨0, 200, by omega, by omega, by omega, rfl, rfl⟩, ⟨0, by omega, rfl⟩, Nat.zero_le _, Nat.zero_le _⟩
