/-! Sketch: places, notes, estimates. -/
def mixc (r : Int32) : Int32 := if r = 0 then -1640531535 else if r = 1 then -2048144789 else if r = 2 then -1028477379 else 668265263
/-- what is taken modulo the places -/
def hsI (key r : Int32) : Int32 := ((key + 1) * mixc r ^^^ (((key + 1) * mixc r).toUInt32 >>> ((15 : Int32).toUInt32 &&& Int32.toUInt32 31)).toInt32) &&& 2147483647
def plI (key r m : Int32) : Int32 := hsI key r - hsI key r / m * m
theorem hsI_nn (key r : Int32) : ∃ n, n < 2 ^ 31 ∧ hsI key r = nI n := by
  unfold hsI
  obtain ⟨j, hj, e⟩ := pk_andE ((key + 1) * mixc r ^^^ (((key + 1) * mixc r).toUInt32 >>> ((15 : Int32).toUInt32 &&& Int32.toUInt32 31)).toInt32) (m := 2147483647) 31 (by decide)
  exact ⟨j, hj, e⟩
theorem plI_in (key r : Int32) {m : Nat} (hm : 0 < m) (hm2 : m < 2 ^ 31) : ∃ j, j < m ∧ plI key r (nI m) = nI j := by
  obtain ⟨n, hn, e⟩ := hsI_nn key r
  unfold plI
  rw [e, pk_rem hn hm hm2]
  exact ⟨n % m, Nat.mod_lt _ hm, rfl⟩
theorem mix_at : ∀ r, r < 4 → pm_mix r = mixc (nI r) := by decide
section SKE
variable {h : pmH}
theorem ro0_n (hl : h.length ≤ 1000000) : h[1000000]? = none := List.getElem?_eq_none (by omega)
theorem c_Sketch_mixed (hl : h.length ≤ 1000000) (key : Int32) {r : Nat} (hr : r < 4) {m : Nat} (hm : 0 < m) (hm2 : m < 2 ^ 31) (d : Nat) : PM (d + 1) 77 [.int key, .int (nI r), .int (nI m)] h (fun v h' => v = some (.int (plI key (nI r) (nI m))) ∧ h' = h) := by
  refine en_X8_mixed rfl rfl rfl ?_
  have e1 : ¬ nI r < 0 := nI_pos (by omega)
  have e2 : nI r < nI 4 := nI_lt hr (by omega)
  have e3 : ¬ nI m < 1 := nI_nlt (a := m) (b := 1) hm hm2
  have e4 : vp_in (nI r) 4 := vp_in_nI hr (by omega)
  have e5 : (nI r).toNatClampNeg = r := nI_clamp (by omega)
  have e6 : ¬ nI m = 0 := nI_ne0 hm hm2
  have e7 : pm_ro0 1000000 = some (4, pm_mix) := by unfold pm_ro0; rw [if_pos rfl]
  simp only [w_X8_mixed_0, w_X8_mixed_1, w_X8_mixed_4, w_X8_mixed_5, w_X8_mixed_8, w_X8_mixed_9, w_X8_mixed_12, w_X8_mixed_13, w_X8_mixed_14, w_X8_mixed_17, w_X8_mixed_18, w_X8_mixed_19, w_X8_mixed_20, w_X8_mixed_21, w_X8_mixed_22, w_X8_mixed_25, w_X8_mixed_26, w_X8_mixed_27, w_X8_mixed_28, w_X8_mixed_29, w_X8_mixed_30, w_X8_mixed_31, w_X8_mixed_33, w_X8_mixed_34, w_X8_mixed_35, w_X8_mixed_36, w_X8_mixed_37, w_X8_mixed_39, w_X8_mixed_40, w_X8_mixed_41, w_X8_mixed_42, pm_1i_c, pm_2i_c, pm_1l_c, pm_2l_c, pm_1a_c, pm_ia_c, pm_iia_c, pm_va_c, pm_cp_c, pm_k0_c, pm_k1_c, pm_k2_c, pm_k3_c, pm_s1_c, pm_s2_c, pm_s3_c, pm_s4_c, pm_ri_c, pm_ra_c, pm_rn_c, pm_rk_i, pm_rk_z, pm_rk_a, pm_vk_i, pm_vk_z, pm_vk_a, pm_cti, pm_ctr, pm_ldi_z, pm_ldi_s, pm_lda_z, pm_lda_s, pm_cat_n, pm_cat_i, pm_cat_r, pm_cat_l, pm_obj, pm_arr, pm_opt, pm_ird, pm_aln, List.getElem?_cons_zero, List.getElem?_cons_succ, List.set_cons_zero, List.set_cons_succ, List.length_cons, List.length_nil, List.length_set, true_and, and_true, Nat.add_zero, Nat.zero_add, Nat.le_refl, Nat.reduceAdd, Nat.reduceLT, Nat.reduceLeDiff, Nat.zero_le, not_false_eq_true, not_true_eq_false, false_implies, implies_true, true_implies, Nat.zero_lt_succ, Nat.lt_add_one, ro0_n hl, e1, e2, e3, e4, e5, e6, e7, mix_at r hr]
  rfl
end SKE
