/-! AdmissionDeskModel: the sketch's row of numbers, parts as rows. -/
section MC
variable {h h' : pmH} {m : Nat} {o : Nat → Int32} {A A' : AD}
theorem nI1553 (k : Nat) : (1553 : Int32) + nI k = nI (1553 + k) := nI_add 1553 k
theorem nI1552 (k : Nat) : (1552 : Int32) + nI k = nI (1552 + k) := nI_add 1552 k
theorem nI1554 (k : Nat) : (1554 : Int32) + nI k = nI (1554 + k) := nI_add 1554 k
theorem nI1569 (k : Nat) : (1569 : Int32) + nI k = nI (1569 + k) := nI_add 1569 k
theorem nI1570 (k : Nat) : (1570 : Int32) + nI k = nI (1570 + k) := nI_add 1570 k
theorem nI1689 (k : Nat) : (1689 : Int32) + nI k = nI (1689 + k) := nI_add 1689 k
theorem nI1024 (k : Nat) : (1024 : Int32) + nI k = nI (1024 + k) := nI_add 1024 k
theorem nI1280 (k : Nat) : (1280 : Int32) + nI k = nI (1280 + k) := nI_add 1280 k
theorem upd_e {f : Nat → Int32} {k : Nat} {v : Int32} : upd f k v k = v := if_pos rfl
theorem upd_n {f : Nat → Int32} {k j : Nat} {v : Int32} (hj : j ≠ k) : upd f k v j = f j := if_neg hj
set_option maxHeartbeats 1000000 in
theorem c_M_halves (H : md_ h m o A) (d : Nat) : PM (d + 1) 185 [.ref m] h (fun v h' => v = none ∧ md_ h' m o (halF A) ∧ fr1 h h' (m + 1)) := by
  obtain ⟨H0, f, H1, R⟩ := H
  have H0' := H0
  unfold mO at H0
  refine en_X12_halves rfl ?_
  have two : ¬ (2 : Int32) = 0 := by decide
  have mo : ∀ hh, fr1 h hh (m + 1) → hh[m]? = h[m]? := fun hh q => q m (by omega)
  -- the second loop, and the end
  have loop2 : ∀ n k, 256 - k = n → k ≤ 256 → ∀ (hh : pmH) (g : Nat → Int32), hh[m + 1]? = some (.inl (0, 2195, .inl g)) → (∀ j, j < 1024 → g j = cn A j / 2) → (∀ j, j < k → g (1024 + j) = 0) → (∀ j, 1280 ≤ j → g j = if j = 1670 then f j / 2 else f j) → hh.length = h.length → fr1 h hh (m + 1) → W_X12_halves d (h.length + 0) 0 (fun v h' => v = none ∧ md_ h' m o (halF A) ∧ fr1 h h' (m + 1)) 41 [some (.ref m), some (.int (nI k))] [] hh 0 := by
    intro n
    induction n with
    | zero =>
      intro k hn hk hh g q1 q2 q3 q4 q5 q6
      have : k = 256 := by omega
      subst this
      have e1 : ¬ nI 256 < 256 := by decide
      have hm := mo hh q6
      have s1 : g 1671 = sc A 1 := by rw [q4 _ (by omega), if_neg (by omega)]; exact R.s (i := 1) (by omega)
      rw [w_X12_halves_41]
      simp only [w_X12_halves_42, w_X12_halves_45, w_X12_halves_65, w_X12_halves_66, w_X12_halves_69, w_X12_halves_72, w_X12_halves_73, w_X12_halves_74, w_X12_halves_75, w_X12_halves_76, w_X12_halves_77, pm_1i_c, pm_2i_c, pm_1l_c, pm_2l_c, pm_1a_c, pm_ia_c, pm_iia_c, pm_va_c, pm_cp_c, pm_k0_c, pm_k1_c, pm_k2_c, pm_k3_c, pm_s1_c, pm_s2_c, pm_s3_c, pm_s4_c, pm_ri_c, pm_ra_c, pm_rn_c, pm_rk_i, pm_rk_z, pm_rk_a, pm_vk_i, pm_vk_z, pm_vk_a, pm_cti, pm_ctr, pm_ldi_z, pm_ldi_s, pm_lda_z, pm_lda_s, pm_cat_n, pm_cat_i, pm_cat_r, pm_cat_l, pm_obj, pm_arr, pm_opt, pm_ird, pm_aln, List.getElem?_cons_zero, List.getElem?_cons_succ, List.set_cons_zero, List.set_cons_succ, List.length_cons, List.length_nil, List.length_set, true_and, and_true, Nat.add_zero, Nat.zero_add, Nat.le_refl, Nat.reduceAdd, Nat.reduceLT, Nat.reduceLeDiff, Nat.zero_le, not_false_eq_true, not_true_eq_false, false_implies, implies_true, true_implies, Nat.zero_lt_succ, Nat.lt_add_one, e1, hm, H0, q1, ix_1671, vi_1671, q5, s1]
      obtain ⟨M, F⟩ := md_.set (A' := halF A) (f' := upd g 1671 (sc A 1 + 1)) (H0'.kept q6) q1 (R.gX (fun k a b => by rw [upd_n (by omega), q4 k a, if_neg (by omega)]) (fun k hk => by rw [upd_n (by omega)]; exact q2 k hk) (fun k hk => by rw [upd_n (by omega)]; exact q3 k hk) (fun i hi => by
        unfold halF
        rw [sc_uS, sc_uS]
        by_cases c1 : i = 1
        · rw [if_pos c1, c1, upd_e]
        · rw [if_neg c1, upd_n (by omega), q4 _ (by omega)]
          by_cases c0 : i = 0
          · rw [if_pos c0, if_pos (by omega), R.s hi, c0]
          · rw [if_neg c0, if_neg (by omega), R.s hi]
            rfl) rfl rfl (Or.inl rfl))
      exact ⟨M, q6.tr F⟩
    | succ n ih =>
      intro k hn hk hh g q1 q2 q3 q4 q5 q6
      have e1 : nI k < 256 := nI_lt (b := 256) (by omega) (by omega)
      have vi : vp_in (nI (1024 + k)) 2195 := vp_in_nI (by omega) (by omega)
      have ci : (nI (1024 + k)).toNatClampNeg = 1024 + k := nI_clamp (by omega)
      have hm := mo hh q6
      rw [w_X12_halves_41]
      simp only [w_X12_halves_42, w_X12_halves_45, w_X12_halves_48, w_X12_halves_49, w_X12_halves_52, w_X12_halves_55, w_X12_halves_56, w_X12_halves_57, w_X12_halves_58, w_X12_halves_59, w_X12_halves_62, pm_1i_c, pm_2i_c, pm_1l_c, pm_2l_c, pm_1a_c, pm_ia_c, pm_iia_c, pm_va_c, pm_cp_c, pm_k0_c, pm_k1_c, pm_k2_c, pm_k3_c, pm_s1_c, pm_s2_c, pm_s3_c, pm_s4_c, pm_ri_c, pm_ra_c, pm_rn_c, pm_rk_i, pm_rk_z, pm_rk_a, pm_vk_i, pm_vk_z, pm_vk_a, pm_cti, pm_ctr, pm_ldi_z, pm_ldi_s, pm_lda_z, pm_lda_s, pm_cat_n, pm_cat_i, pm_cat_r, pm_cat_l, pm_obj, pm_arr, pm_opt, pm_ird, pm_aln, List.getElem?_cons_zero, List.getElem?_cons_succ, List.set_cons_zero, List.set_cons_succ, List.length_cons, List.length_nil, List.length_set, true_and, and_true, Nat.add_zero, Nat.zero_add, Nat.le_refl, Nat.reduceAdd, Nat.reduceLT, Nat.reduceLeDiff, Nat.zero_le, not_false_eq_true, not_true_eq_false, false_implies, implies_true, true_implies, Nat.zero_lt_succ, Nat.lt_add_one, e1, hm, H0, q1, nI1024, vi, ci, nI_1]
      refine ih (k + 1) (by omega) (by omega) _ _ (by rw [hset_s, q1]; rfl) (fun j hj => by rw [upd_n (by omega)]; exact q2 j hj) (fun j hj => ?_) (fun j hj => by rw [upd_n (by omega)]; exact q4 j hj) (by rw [List.length_set]; exact q5) (q6.tr (fun i hi => hset_n (Ne.symm hi)))
      by_cases c : j = k
      · rw [c, upd_e]
      · rw [upd_n (by omega)]
        exact q3 j (by omega)
  have loop1 : ∀ n k, 1024 - k = n → k ≤ 1024 → ∀ (hh : pmH) (g : Nat → Int32), hh[m + 1]? = some (.inl (0, 2195, .inl g)) → (∀ j, g j = if j < k then f j / 2 else f j) → hh.length = h.length → fr1 h hh (m + 1) → W_X12_halves d (h.length + 0) 0 (fun v h' => v = none ∧ md_ h' m o (halF A) ∧ fr1 h h' (m + 1)) 2 [some (.ref m), some (.int (nI k))] [] hh 0 := by
    intro n
    induction n with
    | zero =>
      intro k hn hk hh g q1 q2 q5 q6
      have : k = 1024 := by omega
      subst this
      have e1 : ¬ nI 1024 < 1024 := by decide
      have hm := mo hh q6
      rw [w_X12_halves_2]
      simp only [w_X12_halves_3, w_X12_halves_6, w_X12_halves_27, w_X12_halves_28, w_X12_halves_31, w_X12_halves_34, w_X12_halves_35, w_X12_halves_36, w_X12_halves_37, w_X12_halves_38, w_X12_halves_39, w_X12_halves_40, pm_1i_c, pm_2i_c, pm_1l_c, pm_2l_c, pm_1a_c, pm_ia_c, pm_iia_c, pm_va_c, pm_cp_c, pm_k0_c, pm_k1_c, pm_k2_c, pm_k3_c, pm_s1_c, pm_s2_c, pm_s3_c, pm_s4_c, pm_ri_c, pm_ra_c, pm_rn_c, pm_rk_i, pm_rk_z, pm_rk_a, pm_vk_i, pm_vk_z, pm_vk_a, pm_cti, pm_ctr, pm_ldi_z, pm_ldi_s, pm_lda_z, pm_lda_s, pm_cat_n, pm_cat_i, pm_cat_r, pm_cat_l, pm_obj, pm_arr, pm_opt, pm_ird, pm_aln, List.getElem?_cons_zero, List.getElem?_cons_succ, List.set_cons_zero, List.set_cons_succ, List.length_cons, List.length_nil, List.length_set, true_and, and_true, Nat.add_zero, Nat.zero_add, Nat.le_refl, Nat.reduceAdd, Nat.reduceLT, Nat.reduceLeDiff, Nat.zero_le, not_false_eq_true, not_true_eq_false, false_implies, implies_true, true_implies, Nat.zero_lt_succ, Nat.lt_add_one, e1, hm, H0, q1, ix_1670, vi_1670, two]
      refine loop2 256 0 rfl (by omega) _ _ (by rw [hset_s, q1]; rfl) (fun j hj => ?_) (fun j hj => by omega) (fun j hj => ?_) (by rw [List.length_set]; exact q5) (q6.tr (fun i hi => hset_n (Ne.symm hi)))
      · rw [upd_n (by omega), q2, if_pos hj, R.c hj]
      · by_cases c : j = 1670
        · rw [c, upd_e, if_pos rfl, q2, if_neg (by omega)]
        · rw [upd_n c, if_neg c, q2, if_neg (by omega)]
    | succ n ih =>
      intro k hn hk hh g q1 q2 q5 q6
      have e1 : nI k < 1024 := nI_lt (b := 1024) (by omega) (by omega)
      have vi : vp_in (nI k) 2195 := vp_in_nI (by omega) (by omega)
      have ci : (nI k).toNatClampNeg = k := nI_clamp (by omega)
      have hm := mo hh q6
      rw [w_X12_halves_2]
      simp only [w_X12_halves_3, w_X12_halves_6, w_X12_halves_9, w_X12_halves_10, w_X12_halves_13, w_X12_halves_14, w_X12_halves_15, w_X12_halves_16, w_X12_halves_17, w_X12_halves_18, w_X12_halves_19, w_X12_halves_20, w_X12_halves_21, w_X12_halves_24, pm_1i_c, pm_2i_c, pm_1l_c, pm_2l_c, pm_1a_c, pm_ia_c, pm_iia_c, pm_va_c, pm_cp_c, pm_k0_c, pm_k1_c, pm_k2_c, pm_k3_c, pm_s1_c, pm_s2_c, pm_s3_c, pm_s4_c, pm_ri_c, pm_ra_c, pm_rn_c, pm_rk_i, pm_rk_z, pm_rk_a, pm_vk_i, pm_vk_z, pm_vk_a, pm_cti, pm_ctr, pm_ldi_z, pm_ldi_s, pm_lda_z, pm_lda_s, pm_cat_n, pm_cat_i, pm_cat_r, pm_cat_l, pm_obj, pm_arr, pm_opt, pm_ird, pm_aln, List.getElem?_cons_zero, List.getElem?_cons_succ, List.set_cons_zero, List.set_cons_succ, List.length_cons, List.length_nil, List.length_set, true_and, and_true, Nat.add_zero, Nat.zero_add, Nat.le_refl, Nat.reduceAdd, Nat.reduceLT, Nat.reduceLeDiff, Nat.zero_le, not_false_eq_true, not_true_eq_false, false_implies, implies_true, true_implies, Nat.zero_lt_succ, Nat.lt_add_one, e1, hm, H0, q1, Int32.zero_add, vi, ci, nI_1, two]
      refine ih (k + 1) (by omega) (by omega) _ _ (by rw [hset_s, q1]; rfl) (fun j => ?_) (by rw [List.length_set]; exact q5) (q6.tr (fun i hi => hset_n (Ne.symm hi)))
      by_cases c : j = k
      · rw [c, upd_e, if_pos (by omega), q2, if_neg (by omega)]
      · rw [upd_n c, q2]
        by_cases c2 : j < k
        · rw [if_pos c2, if_pos (by omega)]
        · rw [if_neg c2, if_neg (by omega)]
  simp only [w_X12_halves_0, w_X12_halves_1, pm_1i_c, pm_2i_c, pm_1l_c, pm_2l_c, pm_1a_c, pm_ia_c, pm_iia_c, pm_va_c, pm_cp_c, pm_k0_c, pm_k1_c, pm_k2_c, pm_k3_c, pm_s1_c, pm_s2_c, pm_s3_c, pm_s4_c, pm_ri_c, pm_ra_c, pm_rn_c, pm_rk_i, pm_rk_z, pm_rk_a, pm_vk_i, pm_vk_z, pm_vk_a, pm_cti, pm_ctr, pm_ldi_z, pm_ldi_s, pm_lda_z, pm_lda_s, pm_cat_n, pm_cat_i, pm_cat_r, pm_cat_l, pm_obj, pm_arr, pm_opt, pm_ird, pm_aln, List.getElem?_cons_zero, List.getElem?_cons_succ, List.set_cons_zero, List.set_cons_succ, List.length_cons, List.length_nil, List.length_set, true_and, and_true, Nat.add_zero, Nat.zero_add, Nat.le_refl, Nat.reduceAdd, Nat.reduceLT, Nat.reduceLeDiff, Nat.zero_le, not_false_eq_true, not_true_eq_false, false_implies, implies_true, true_implies, Nat.zero_lt_succ, Nat.lt_add_one]
  exact loop1 1024 0 rfl (by omega) h f H1 (fun j => by rw [if_neg (by omega)]) rfl fr1.rf
def cV (A : AD) : Prop := ∀ k, k < 1024 → ∃ n, n ≤ 15 ∧ cn A k = nI n
theorem raiC_15 {A : AD} (C : cV A) (key : Int32) : ∀ r k, k < 1024 → ∃ n, n ≤ 15 ∧ (raiC A key r).1 k = nI n
  | 0, k, hk => C k hk
  | r + 1, k, hk => by
    have es : raiC A key (r + 1) = if (raiC A key r).1 (cix A key r) < 15 then (upd (raiC A key r).1 (cix A key r) ((raiC A key r).1 (cix A key r) + 1), 1) else raiC A key r := rfl
    rw [es]
    split
    · rename_i c
      by_cases e : k = cix A key r
      · obtain ⟨n, hn, en⟩ := raiC_15 C key r k hk
        rw [← e] at c ⊢
        rw [en] at c
        refine ⟨n + 1, ?_, ?_⟩
        · rcases Nat.lt_or_ge n 15 with z | z
          · omega
          · exact absurd c (nI_nlt (b := 15) z (by omega))
        · show upd _ k _ k = _
          rw [upd_e, en, nI_1]
      · obtain ⟨n, hn, en⟩ := raiC_15 C key r k hk
        exact ⟨n, hn, by show upd _ _ _ k = _; rw [upd_n e]; exact en⟩
    · exact raiC_15 C key r k hk
set_option maxHeartbeats 1000000 in
theorem c_M_counts (H : md_ h m o A) (V : skV A) (C : cV A) (key : Int32) (d : Nat) : PM (d + 4) 184 [.ref m, .int key] h (fun v h' => v = none ∧ md_ h' m o (addF A key) ∧ fr1 h h' (m + 1)) := by
  have HH := H
  obtain ⟨H0, f, H1, R⟩ := H
  have H0' := H0
  unfold mO at H0
  refine en_X12_counts rfl rfl ?_
  have mo : ∀ hh, fr1 h hh (m + 1) → hh[m]? = h[m]? := fun hh q => q m (by omega)
  have s14 : f 1684 = sc A 14 := R.s (i := 14) (by omega)
  -- the halving at a count
  have tail : ∀ (hh : pmH) (x2 x3 x4 : Option Value), md_ hh m o (addF1 A key) → hh.length = h.length → fr1 h hh (m + 1) → W_X12_counts (d + 3) (h.length + 0) 0 (fun v h' => v = none ∧ md_ h' m o (addF A key) ∧ fr1 h h' (m + 1)) 116 [some (.ref m), some (.int key), x2, x3, x4] [] hh 0 := by
    intro hh x2 x3 x4 M q5 q6
    have M' := M
    obtain ⟨M0, g, M1, RM⟩ := M
    unfold mO at M0
    have t0 : g 1670 = sc (addF1 A key) 0 := RM.s (i := 0) (by omega)
    have t1 : g 1681 = sc (addF1 A key) 11 := RM.s (i := 11) (by omega)
    unfold addF
    simp only [w_X12_counts_116, w_X12_counts_117, w_X12_counts_120, w_X12_counts_123, w_X12_counts_124, w_X12_counts_125, w_X12_counts_128, w_X12_counts_131, w_X12_counts_132, w_X12_counts_135, w_X12_counts_136, w_X12_counts_139, pm_1i_c, pm_2i_c, pm_1l_c, pm_2l_c, pm_1a_c, pm_ia_c, pm_iia_c, pm_va_c, pm_cp_c, pm_k0_c, pm_k1_c, pm_k2_c, pm_k3_c, pm_s1_c, pm_s2_c, pm_s3_c, pm_s4_c, pm_ri_c, pm_ra_c, pm_rn_c, pm_rk_i, pm_rk_z, pm_rk_a, pm_vk_i, pm_vk_z, pm_vk_a, pm_cti, pm_ctr, pm_ldi_z, pm_ldi_s, pm_lda_z, pm_lda_s, pm_cat_n, pm_cat_i, pm_cat_r, pm_cat_l, pm_obj, pm_arr, pm_opt, pm_ird, pm_aln, List.getElem?_cons_zero, List.getElem?_cons_succ, List.set_cons_zero, List.set_cons_succ, List.length_cons, List.length_nil, List.length_set, true_and, and_true, Nat.add_zero, Nat.zero_add, Nat.le_refl, Nat.reduceAdd, Nat.reduceLT, Nat.reduceLeDiff, Nat.zero_le, not_false_eq_true, not_true_eq_false, false_implies, implies_true, true_implies, Nat.zero_lt_succ, Nat.lt_add_one, M0, M1, ix_1670, vi_1670, ix_1681, vi_1681, t0, t1, q5]
    refine ⟨fun c => ?_, fun c => ?_⟩
    · rw [if_pos c]
      exact ⟨M', q6⟩
    · rw [if_neg c]
      refine PM_use (c_M_halves M' (d + 2)) ?_
      rintro v h2 l2 ⟨rfl, K1, K2⟩
      show W_X12_counts _ _ _ _ _ _ _ _ _
      simp only [w_X12_counts_139, pm_1i_c, pm_2i_c, pm_1l_c, pm_2l_c, pm_1a_c, pm_ia_c, pm_iia_c, pm_va_c, pm_cp_c, pm_k0_c, pm_k1_c, pm_k2_c, pm_k3_c, pm_s1_c, pm_s2_c, pm_s3_c, pm_s4_c, pm_ri_c, pm_ra_c, pm_rn_c, pm_rk_i, pm_rk_z, pm_rk_a, pm_vk_i, pm_vk_z, pm_vk_a, pm_cti, pm_ctr, pm_ldi_z, pm_ldi_s, pm_lda_z, pm_lda_s, pm_cat_n, pm_cat_i, pm_cat_r, pm_cat_l, pm_obj, pm_arr, pm_opt, pm_ird, pm_aln, List.getElem?_cons_zero, List.getElem?_cons_succ, List.set_cons_zero, List.set_cons_succ, List.length_cons, List.length_nil, List.length_set, true_and, and_true, Nat.add_zero, Nat.zero_add, Nat.le_refl, Nat.reduceAdd, Nat.reduceLT, Nat.reduceLeDiff, Nat.zero_le, not_false_eq_true, not_true_eq_false, false_implies, implies_true, true_implies, Nat.zero_lt_succ, Nat.lt_add_one, pm_tl_n, pm_tl_s, sc_uL, l2, q5]
      exact ⟨K1, q6.tr K2⟩
  -- the counters
  have loop : ¬ (sc A 14 = 1 ∧ notd A key = false) → ∀ n r, 4 - r = n → r ≤ 4 → ∀ (hh : pmH) (g : Nat → Int32) (x4 : Option Value), hh[m + 1]? = some (.inl (0, 2195, .inl g)) → (∀ j, j < 1024 → g j = (raiC A key r).1 j) → (∀ j, 1024 ≤ j → g j = f j) → hh.length = h.length → fr1 h hh (m + 1) → ((raiC A key r).2 = 0 ∨ (raiC A key r).2 = 1) → W_X12_counts (d + 3) (h.length + 0) 0 (fun v h' => v = none ∧ md_ h' m o (addF A key) ∧ fr1 h h' (m + 1)) 49 [some (.ref m), some (.int key), some (.int (raiC A key r).2), some (.int (nI r)), x4] [] hh 0 := by
    intro hno n
    have eF : addF1 A key = uS (uC A (raiC A key 4).1) 0 (if (raiC A key 4).2 = 0 then sc A 0 else sc A 0 + 1) := if_neg hno
    induction n with
    | zero =>
      intro r hn hr hh g x4 q1 q2 q3 q5 q6 q7
      have : r = 4 := by omega
      subst this
      have e1 : ¬ nI 4 < 4 := by decide
      have hm := mo hh q6
      have t0 : g 1670 = sc A 0 := (q3 _ (by omega)).trans (R.s (i := 0) (by omega))
      have fin : ∀ v, v = (if (raiC A key 4).2 = 0 then sc A 0 else sc A 0 + 1) → md_ (hh.set (m + 1) (.inl (0, 2195, .inl (upd g 1670 v)))) m o (addF1 A key) ∧ fr1 h (hh.set (m + 1) (.inl (0, 2195, .inl (upd g 1670 v)))) (m + 1) := by
        intro v hv
        obtain ⟨M, F⟩ := md_.set (A' := addF1 A key) (f' := upd g 1670 v) (H0'.kept q6) q1 (by
          rw [eF]
          refine R.gX (fun k a b => by rw [upd_n (by omega), q3 k (by omega)]) (fun k hk => by rw [upd_n (by omega)]; exact q2 k hk) (fun k hk => by rw [upd_n (by omega), q3 _ (by omega)]; exact R.n hk) (fun i hi => ?_) rfl rfl (Or.inl rfl)
          rw [sc_uS]
          by_cases c : i = 0
          · rw [if_pos c, c, ← hv]
            exact upd_e
          · rw [if_neg c, upd_n (by omega), q3 _ (by omega), R.s hi]
            rfl)
        exact ⟨M, q6.tr F⟩
      rw [w_X12_counts_49]
      simp only [w_X12_counts_50, w_X12_counts_51, w_X12_counts_96, w_X12_counts_97, w_X12_counts_100, w_X12_counts_103, w_X12_counts_104, w_X12_counts_105, w_X12_counts_106, w_X12_counts_109, w_X12_counts_110, w_X12_counts_113, w_X12_counts_114, w_X12_counts_115, pm_1i_c, pm_2i_c, pm_1l_c, pm_2l_c, pm_1a_c, pm_ia_c, pm_iia_c, pm_va_c, pm_cp_c, pm_k0_c, pm_k1_c, pm_k2_c, pm_k3_c, pm_s1_c, pm_s2_c, pm_s3_c, pm_s4_c, pm_ri_c, pm_ra_c, pm_rn_c, pm_rk_i, pm_rk_z, pm_rk_a, pm_vk_i, pm_vk_z, pm_vk_a, pm_cti, pm_ctr, pm_ldi_z, pm_ldi_s, pm_lda_z, pm_lda_s, pm_cat_n, pm_cat_i, pm_cat_r, pm_cat_l, pm_obj, pm_arr, pm_opt, pm_ird, pm_aln, List.getElem?_cons_zero, List.getElem?_cons_succ, List.set_cons_zero, List.set_cons_succ, List.length_cons, List.length_nil, List.length_set, true_and, and_true, Nat.add_zero, Nat.zero_add, Nat.le_refl, Nat.reduceAdd, Nat.reduceLT, Nat.reduceLeDiff, Nat.zero_le, not_false_eq_true, not_true_eq_false, false_implies, implies_true, true_implies, Nat.zero_lt_succ, Nat.lt_add_one, e1, hm, H0, q1, ix_1670, vi_1670, t0]
      refine ⟨fun c => ?_, fun c => ?_⟩
      · obtain ⟨M, F⟩ := fin (sc A 0 + 0) (by rw [if_pos c, Int32.add_zero])
        exact tail _ _ _ _ M (by rw [List.length_set]; exact q5) F
      · obtain ⟨M, F⟩ := fin (sc A 0 + 1) (by rw [if_neg c])
        exact tail _ _ _ _ M (by rw [List.length_set]; exact q5) F
    | succ n ih =>
      intro r hn hr hh g x4 q1 q2 q3 q5 q6 q7
      have e1 : nI r < 4 := nI_lt (b := 4) (by omega) (by omega)
      have hm := mo hh q6
      have ci := cix_lt V.1 key (show r < 4 by omega)
      have vi : vp_in (nI (cix A key r)) 2195 := vp_in_nI (by omega) (by omega)
      have cl : (nI (cix A key r)).toNatClampNeg = cix A key r := nI_clamp (by omega)
      have gc := q2 _ ci
      obtain ⟨w, hw, ew⟩ := raiC_15 C key r (cix A key r) ci
      have es : raiC A key (r + 1) = if (raiC A key r).1 (cix A key r) < 15 then (upd (raiC A key r).1 (cix A key r) ((raiC A key r).1 (cix A key r) + 1), 1) else raiC A key r := rfl
      -- the place: as the desk says, for the counters don't matter there
      have PL : PM (d + 3) 180 [.ref m, .int key, .int (nI r)] hh (fun v h' => v = some (.int (nI (cix A key r))) ∧ h' = hh) := by
        have RX : rep g (uC A (raiC A key r).1) := R.gX (fun k a b => q3 k (by omega)) (fun k hk => q2 k hk) (fun k hk => by rw [q3 _ (by omega)]; exact R.n hk) (fun i hi => by rw [q3 _ (by omega)]; exact R.s hi) rfl rfl (Or.inl rfl)
        exact c_M_counterAt (A := uC A (raiC A key r).1) ⟨H0'.kept q6, g, q1, RX⟩ V.1 key (show r < 4 by omega) d
      rw [w_X12_counts_49]
      simp only [w_X12_counts_50, w_X12_counts_51, w_X12_counts_54, w_X12_counts_55, w_X12_counts_56, w_X12_counts_57, pm_1i_c, pm_2i_c, pm_1l_c, pm_2l_c, pm_1a_c, pm_ia_c, pm_iia_c, pm_va_c, pm_cp_c, pm_k0_c, pm_k1_c, pm_k2_c, pm_k3_c, pm_s1_c, pm_s2_c, pm_s3_c, pm_s4_c, pm_ri_c, pm_ra_c, pm_rn_c, pm_rk_i, pm_rk_z, pm_rk_a, pm_vk_i, pm_vk_z, pm_vk_a, pm_cti, pm_ctr, pm_ldi_z, pm_ldi_s, pm_lda_z, pm_lda_s, pm_cat_n, pm_cat_i, pm_cat_r, pm_cat_l, pm_obj, pm_arr, pm_opt, pm_ird, pm_aln, List.getElem?_cons_zero, List.getElem?_cons_succ, List.set_cons_zero, List.set_cons_succ, List.length_cons, List.length_nil, List.length_set, true_and, and_true, Nat.add_zero, Nat.zero_add, Nat.le_refl, Nat.reduceAdd, Nat.reduceLT, Nat.reduceLeDiff, Nat.zero_le, not_false_eq_true, not_true_eq_false, false_implies, implies_true, true_implies, Nat.zero_lt_succ, Nat.lt_add_one, e1, hm, H0, q5]
      refine PM_use (PL) ?_
      rintro v h2 l2 ⟨rfl, rfl⟩
      show W_X12_counts _ _ _ _ _ _ _ _ _
      simp only [w_X12_counts_60, w_X12_counts_62, w_X12_counts_63, w_X12_counts_66, w_X12_counts_68, w_X12_counts_69, w_X12_counts_71, w_X12_counts_74, w_X12_counts_77, w_X12_counts_78, w_X12_counts_81, w_X12_counts_83, w_X12_counts_84, w_X12_counts_85, w_X12_counts_86, w_X12_counts_87, w_X12_counts_88, w_X12_counts_89, w_X12_counts_90, w_X12_counts_93, pm_1i_c, pm_2i_c, pm_1l_c, pm_2l_c, pm_1a_c, pm_ia_c, pm_iia_c, pm_va_c, pm_cp_c, pm_k0_c, pm_k1_c, pm_k2_c, pm_k3_c, pm_s1_c, pm_s2_c, pm_s3_c, pm_s4_c, pm_ri_c, pm_ra_c, pm_rn_c, pm_rk_i, pm_rk_z, pm_rk_a, pm_vk_i, pm_vk_z, pm_vk_a, pm_cti, pm_ctr, pm_ldi_z, pm_ldi_s, pm_lda_z, pm_lda_s, pm_cat_n, pm_cat_i, pm_cat_r, pm_cat_l, pm_obj, pm_arr, pm_opt, pm_ird, pm_aln, List.getElem?_cons_zero, List.getElem?_cons_succ, List.set_cons_zero, List.set_cons_succ, List.length_cons, List.length_nil, List.length_set, true_and, and_true, Nat.add_zero, Nat.zero_add, Nat.le_refl, Nat.reduceAdd, Nat.reduceLT, Nat.reduceLeDiff, Nat.zero_le, not_false_eq_true, not_true_eq_false, false_implies, implies_true, true_implies, Nat.zero_lt_succ, Nat.lt_add_one, pm_tl_n, pm_tl_s, sc_uL, hm, H0, q1, vi, cl, gc, nI_1]
      refine ⟨fun c => ?_, fun c => ?_⟩
      · have c2 : (raiC A key r).1 (cix A key r) < 15 := by
          rw [ew] at c ⊢
          refine nI_lt (b := 15) ?_ (by omega)
          rcases Nat.lt_or_ge w 15 with z | z
          · exact z
          · exact absurd (by rw [show w = 15 by omega]; rfl) c
        rw [if_pos c2] at es
        have I := ih (r + 1) (by omega) (by omega) (h2.set (m + 1) (.inl (0, 2195, .inl (upd g (cix A key r) ((raiC A key r).1 (cix A key r) + 1))))) _ (some (.int (nI (cix A key r)))) (by rw [hset_s, q1]; rfl) (fun j hj => by
          rw [es]
          show _ = upd _ _ _ j
          by_cases e : j = cix A key r
          · rw [e, upd_e, upd_e]
          · rw [upd_n e, upd_n e]
            exact q2 j hj) (fun j hj => by rw [upd_n (by omega)]; exact q3 j hj) (by rw [List.length_set]; exact q5) (q6.tr (fun i hi => hset_n (Ne.symm hi))) (by rw [es]; exact Or.inr rfl)
        rw [es] at I
        exact I
      · have c2 : ¬ (raiC A key r).1 (cix A key r) < 15 := by
          rw [c]
          decide
        rw [if_neg c2] at es
        have I := ih (r + 1) (by omega) (by omega) h2 g (some (.int (nI (cix A key r)))) q1 (by rw [es]; exact q2) q3 q5 q6 (by rw [es]; exact q7)
        rw [es] at I
        exact I
  have raise : ¬ (sc A 14 = 1 ∧ notd A key = false) → W_X12_counts (d + 3) (h.length + 0) 0 (fun v h' => v = none ∧ md_ h' m o (addF A key) ∧ fr1 h h' (m + 1)) 45 [some (.ref m), some (.int key), none, none, none] [] h 0 := by
    intro hno
    simp only [w_X12_counts_45, w_X12_counts_46, w_X12_counts_47, w_X12_counts_48, pm_1i_c, pm_2i_c, pm_1l_c, pm_2l_c, pm_1a_c, pm_ia_c, pm_iia_c, pm_va_c, pm_cp_c, pm_k0_c, pm_k1_c, pm_k2_c, pm_k3_c, pm_s1_c, pm_s2_c, pm_s3_c, pm_s4_c, pm_ri_c, pm_ra_c, pm_rn_c, pm_rk_i, pm_rk_z, pm_rk_a, pm_vk_i, pm_vk_z, pm_vk_a, pm_cti, pm_ctr, pm_ldi_z, pm_ldi_s, pm_lda_z, pm_lda_s, pm_cat_n, pm_cat_i, pm_cat_r, pm_cat_l, pm_obj, pm_arr, pm_opt, pm_ird, pm_aln, List.getElem?_cons_zero, List.getElem?_cons_succ, List.set_cons_zero, List.set_cons_succ, List.length_cons, List.length_nil, List.length_set, true_and, and_true, Nat.add_zero, Nat.zero_add, Nat.le_refl, Nat.reduceAdd, Nat.reduceLT, Nat.reduceLeDiff, Nat.zero_le, not_false_eq_true, not_true_eq_false, false_implies, implies_true, true_implies, Nat.zero_lt_succ, Nat.lt_add_one]
    exact loop hno 4 0 rfl (by omega) h f _ H1 (fun j hj => R.c hj) (fun j hj => rfl) rfl fr1.rf (Or.inl rfl)
  by_cases z : sc A 14 = 1
  · simp only [w_X12_counts_0, w_X12_counts_1, w_X12_counts_4, w_X12_counts_7, w_X12_counts_8, w_X12_counts_9, w_X12_counts_12, w_X12_counts_13, w_X12_counts_14, pm_1i_c, pm_2i_c, pm_1l_c, pm_2l_c, pm_1a_c, pm_ia_c, pm_iia_c, pm_va_c, pm_cp_c, pm_k0_c, pm_k1_c, pm_k2_c, pm_k3_c, pm_s1_c, pm_s2_c, pm_s3_c, pm_s4_c, pm_ri_c, pm_ra_c, pm_rn_c, pm_rk_i, pm_rk_z, pm_rk_a, pm_vk_i, pm_vk_z, pm_vk_a, pm_cti, pm_ctr, pm_ldi_z, pm_ldi_s, pm_lda_z, pm_lda_s, pm_cat_n, pm_cat_i, pm_cat_r, pm_cat_l, pm_obj, pm_arr, pm_opt, pm_ird, pm_aln, List.getElem?_cons_zero, List.getElem?_cons_succ, List.set_cons_zero, List.set_cons_succ, List.length_cons, List.length_nil, List.length_set, true_and, and_true, Nat.add_zero, Nat.zero_add, Nat.le_refl, Nat.reduceAdd, Nat.reduceLT, Nat.reduceLeDiff, Nat.zero_le, not_false_eq_true, not_true_eq_false, false_implies, implies_true, true_implies, Nat.zero_lt_succ, Nat.lt_add_one, H0, H1, ix_1684, vi_1684, s14, z]
    refine PM_use (c_M_hasNoted HH key d) ?_
    rintro v h1 l1 ⟨rfl, rfl⟩
    cases hnd : notd A key with
    | true =>
      show W_X12_counts _ _ _ _ _ _ _ _ _
      simp only [w_X12_counts_17, pm_1i_c, pm_2i_c, pm_1l_c, pm_2l_c, pm_1a_c, pm_ia_c, pm_iia_c, pm_va_c, pm_cp_c, pm_k0_c, pm_k1_c, pm_k2_c, pm_k3_c, pm_s1_c, pm_s2_c, pm_s3_c, pm_s4_c, pm_ri_c, pm_ra_c, pm_rn_c, pm_rk_i, pm_rk_z, pm_rk_a, pm_vk_i, pm_vk_z, pm_vk_a, pm_cti, pm_ctr, pm_ldi_z, pm_ldi_s, pm_lda_z, pm_lda_s, pm_cat_n, pm_cat_i, pm_cat_r, pm_cat_l, pm_obj, pm_arr, pm_opt, pm_ird, pm_aln, List.getElem?_cons_zero, List.getElem?_cons_succ, List.set_cons_zero, List.set_cons_succ, List.length_cons, List.length_nil, List.length_set, true_and, and_true, Nat.add_zero, Nat.zero_add, Nat.le_refl, Nat.reduceAdd, Nat.reduceLT, Nat.reduceLeDiff, Nat.zero_le, not_false_eq_true, not_true_eq_false, false_implies, implies_true, true_implies, Nat.zero_lt_succ, Nat.lt_add_one, pm_tl_n, pm_tl_s, sc_uL, if_true, show ¬ (1 : Int32) = 0 by decide]
      exact raise (fun q => by rw [hnd] at q; cases q.2)
    | false =>
      have n0 := nix_lt key 0
      have n1 := nix_lt key 1
      have v0 : vp_in (nI (1024 + nix key 0)) 2195 := vp_in_nI (by omega) (by omega)
      have v1 : vp_in (nI (1024 + nix key 1)) 2195 := vp_in_nI (by omega) (by omega)
      have c0 : (nI (1024 + nix key 0)).toNatClampNeg = 1024 + nix key 0 := nI_clamp (by omega)
      have c1 : (nI (1024 + nix key 1)).toNatClampNeg = 1024 + nix key 1 := nI_clamp (by omega)
      show W_X12_counts _ _ _ _ _ _ _ _ _
      simp only [w_X12_counts_17, w_X12_counts_20, w_X12_counts_21, w_X12_counts_24, w_X12_counts_25, w_X12_counts_26, pm_1i_c, pm_2i_c, pm_1l_c, pm_2l_c, pm_1a_c, pm_ia_c, pm_iia_c, pm_va_c, pm_cp_c, pm_k0_c, pm_k1_c, pm_k2_c, pm_k3_c, pm_s1_c, pm_s2_c, pm_s3_c, pm_s4_c, pm_ri_c, pm_ra_c, pm_rn_c, pm_rk_i, pm_rk_z, pm_rk_a, pm_vk_i, pm_vk_z, pm_vk_a, pm_cti, pm_ctr, pm_ldi_z, pm_ldi_s, pm_lda_z, pm_lda_s, pm_cat_n, pm_cat_i, pm_cat_r, pm_cat_l, pm_obj, pm_arr, pm_opt, pm_ird, pm_aln, List.getElem?_cons_zero, List.getElem?_cons_succ, List.set_cons_zero, List.set_cons_succ, List.length_cons, List.length_nil, List.length_set, true_and, and_true, Nat.add_zero, Nat.zero_add, Nat.le_refl, Nat.reduceAdd, Nat.reduceLT, Nat.reduceLeDiff, Nat.zero_le, not_false_eq_true, not_true_eq_false, false_implies, implies_true, true_implies, Nat.zero_lt_succ, Nat.lt_add_one, pm_tl_n, pm_tl_s, sc_uL, Bool.false_eq_true, if_false, H0, H1]
      refine PM_use (c_M_bitAt key (r := 0) (by omega) (d + 1)) ?_
      rintro v h2 l2 ⟨rfl, rfl⟩
      show W_X12_counts _ _ _ _ _ _ _ _ _
      simp only [w_X12_counts_29, w_X12_counts_30, w_X12_counts_31, w_X12_counts_32, w_X12_counts_35, w_X12_counts_36, w_X12_counts_37, pm_1i_c, pm_2i_c, pm_1l_c, pm_2l_c, pm_1a_c, pm_ia_c, pm_iia_c, pm_va_c, pm_cp_c, pm_k0_c, pm_k1_c, pm_k2_c, pm_k3_c, pm_s1_c, pm_s2_c, pm_s3_c, pm_s4_c, pm_ri_c, pm_ra_c, pm_rn_c, pm_rk_i, pm_rk_z, pm_rk_a, pm_vk_i, pm_vk_z, pm_vk_a, pm_cti, pm_ctr, pm_ldi_z, pm_ldi_s, pm_lda_z, pm_lda_s, pm_cat_n, pm_cat_i, pm_cat_r, pm_cat_l, pm_obj, pm_arr, pm_opt, pm_ird, pm_aln, List.getElem?_cons_zero, List.getElem?_cons_succ, List.set_cons_zero, List.set_cons_succ, List.length_cons, List.length_nil, List.length_set, true_and, and_true, Nat.add_zero, Nat.zero_add, Nat.le_refl, Nat.reduceAdd, Nat.reduceLT, Nat.reduceLeDiff, Nat.zero_le, not_false_eq_true, not_true_eq_false, false_implies, implies_true, true_implies, Nat.zero_lt_succ, Nat.lt_add_one, pm_tl_n, pm_tl_s, sc_uL, H0, H1, v0, c0, hset_r1, hset_s, Option.map_some]
      refine PM_use (c_M_bitAt key (r := 1) (by omega) (d + 1)) ?_
      rintro v h3 l3 ⟨rfl, rfl⟩
      show W_X12_counts _ _ _ _ _ _ _ _ _
      simp only [w_X12_counts_40, w_X12_counts_41, w_X12_counts_42, pm_1i_c, pm_2i_c, pm_1l_c, pm_2l_c, pm_1a_c, pm_ia_c, pm_iia_c, pm_va_c, pm_cp_c, pm_k0_c, pm_k1_c, pm_k2_c, pm_k3_c, pm_s1_c, pm_s2_c, pm_s3_c, pm_s4_c, pm_ri_c, pm_ra_c, pm_rn_c, pm_rk_i, pm_rk_z, pm_rk_a, pm_vk_i, pm_vk_z, pm_vk_a, pm_cti, pm_ctr, pm_ldi_z, pm_ldi_s, pm_lda_z, pm_lda_s, pm_cat_n, pm_cat_i, pm_cat_r, pm_cat_l, pm_obj, pm_arr, pm_opt, pm_ird, pm_aln, List.getElem?_cons_zero, List.getElem?_cons_succ, List.set_cons_zero, List.set_cons_succ, List.length_cons, List.length_nil, List.length_set, true_and, and_true, Nat.add_zero, Nat.zero_add, Nat.le_refl, Nat.reduceAdd, Nat.reduceLT, Nat.reduceLeDiff, Nat.zero_le, not_false_eq_true, not_true_eq_false, false_implies, implies_true, true_implies, Nat.zero_lt_succ, Nat.lt_add_one, pm_tl_n, pm_tl_s, sc_uL, H0, H1, v1, c1, hset_r1, hset_s, Option.map_some, List.set_set]
      have eF : addF1 A key = uN A (upd (upd (nt A) (nix key 0) 1) (nix key 1) 1) := if_pos ⟨z, hnd⟩
      obtain ⟨M, F⟩ := md_.set (A' := addF1 A key) (f' := upd (upd f (1024 + nix key 0) 1) (1024 + nix key 1) 1) H0' H1 (by
        rw [eF]
        refine R.gX (fun k a b => by rw [upd_n (by omega), upd_n (by omega)]) (fun k hk => by rw [upd_n (by omega), upd_n (by omega)]; exact R.c hk) (fun k hk => ?_) (fun i hi => by rw [upd_n (by omega), upd_n (by omega)]; exact R.s hi) rfl rfl (Or.inl rfl)
        rw [nt_uN]
        by_cases e1 : k = nix key 1
        · rw [e1, upd_e, upd_e]
        · rw [upd_n (by omega), upd_n e1]
          by_cases e0 : k = nix key 0
          · rw [e0, upd_e, upd_e]
          · rw [upd_n (by omega), upd_n e0]
            exact R.n hk)
      exact tail _ _ _ _ M (by rw [List.length_set]) F
  · simp only [w_X12_counts_0, w_X12_counts_1, w_X12_counts_4, w_X12_counts_7, w_X12_counts_8, w_X12_counts_9, pm_1i_c, pm_2i_c, pm_1l_c, pm_2l_c, pm_1a_c, pm_ia_c, pm_iia_c, pm_va_c, pm_cp_c, pm_k0_c, pm_k1_c, pm_k2_c, pm_k3_c, pm_s1_c, pm_s2_c, pm_s3_c, pm_s4_c, pm_ri_c, pm_ra_c, pm_rn_c, pm_rk_i, pm_rk_z, pm_rk_a, pm_vk_i, pm_vk_z, pm_vk_a, pm_cti, pm_ctr, pm_ldi_z, pm_ldi_s, pm_lda_z, pm_lda_s, pm_cat_n, pm_cat_i, pm_cat_r, pm_cat_l, pm_obj, pm_arr, pm_opt, pm_ird, pm_aln, List.getElem?_cons_zero, List.getElem?_cons_succ, List.set_cons_zero, List.set_cons_succ, List.length_cons, List.length_nil, List.length_set, true_and, and_true, Nat.add_zero, Nat.zero_add, Nat.le_refl, Nat.reduceAdd, Nat.reduceLT, Nat.reduceLeDiff, Nat.zero_le, not_false_eq_true, not_true_eq_false, false_implies, implies_true, true_implies, Nat.zero_lt_succ, Nat.lt_add_one, H0, H1, ix_1684, vi_1684, s14, z]
    exact raise (fun q => z q.1)
end MC
