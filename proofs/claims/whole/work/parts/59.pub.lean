/-! AdmissionDeskModel: all its cells; the beginning of each call; calls that change nothing but 'thrown'. -/
/-- a byte as the model's rows of bytes hold it -/
def sgB (x : Int32) : Int32 := if x < 128 then x else x - 256
def mm_ (h : pmH) (m : Nat) (o : Nat → Int32) (A K : AD) (bs ws : List Int32) : Prop := mO h m o ∧ (∃ f, h[m + 1]? = some (.inl (0, 2195, .inl f)) ∧ rep f A) ∧ (∃ f, h[m + 2]? = some (.inl (0, 2195, .inl f)) ∧ (o 0 = 1 → rep f K)) ∧ (∃ f, h[m + 3]? = some (.inl (0, 2195, .inl f))) ∧ (∃ f, h[m + 4]? = some (.inl (1, 400, .inl f)) ∧ bs.length ≤ 400 ∧ o 2 = nI bs.length ∧ ∀ k, k < bs.length → f k = sgB (bs.getD k (-1))) ∧ (∃ f, h[m + 5]? = some (.inl (0, 5, .inl f))) ∧ (∃ f, h[m + 6]? = some (.inl (0, 500, .inl f))) ∧ pil h m ∧ (∃ f, h[m + 8]? = some (.inl (0, 501, .inl f))) ∧ (∃ f, h[m + 9]? = some (.inl (0, 66, .inl f))) ∧ ∃ f, h[m + 10]? = some (.inl (1, 1000, .inl f)) ∧ ws.length ≤ 1000 ∧ o 12 = nI ws.length ∧ ∀ k, k < ws.length → f k = ws.getD k (-1)
def frM (h h' : pmH) (m : Nat) : Prop := ∀ i, i < m ∨ m + 11 ≤ i → h'[i]? = h[i]?
theorem frM.rf {h : pmH} {m : Nat} : frM h h m := fun _ _ => rfl
theorem frM.tr {h h1 h2 : pmH} {m : Nat} (x : frM h h1 m) (y : frM h1 h2 m) : frM h h2 m := fun i p => (y i p).trans (x i p)
/-- how a call of the model ends: the desk, what is kept, the tape, what was written; hasKept, thrown, fault -/
def mq_ (h : pmH) (m : Nat) (A K : AD) (bs ws : List Int32) (ik th ft : Int32) (h' : pmH) : Prop := (∃ o', mm_ h' m o' A K bs ws ∧ o' 0 = ik ∧ o' 1 = th ∧ o' 7 = ft) ∧ frM h h' m
section MN
variable {h h' : pmH} {m : Nat} {o : Nat → Int32} {A A' K K' : AD} {bs ws bs' ws' : List Int32}
theorem mm_.ob (C : mm_ h m o A K bs ws) : mO h m o := C.1
theorem mm_.n (C : mm_ h m o A K bs ws) : ∃ f, h[m + 1]? = some (.inl (0, 2195, .inl f)) ∧ rep f A := C.2.1
theorem mm_.md (C : mm_ h m o A K bs ws) : md_ h m o A := ⟨C.1, C.2.1⟩
theorem mm_.k (C : mm_ h m o A K bs ws) : ∃ f, h[m + 2]? = some (.inl (0, 2195, .inl f)) ∧ (o 0 = 1 → rep f K) := C.2.2.1
theorem mm_.as (C : mm_ h m o A K bs ws) : ∃ f, h[m + 3]? = some (.inl (0, 2195, .inl f)) := C.2.2.2.1
theorem mm_.tp (C : mm_ h m o A K bs ws) : ∃ f, h[m + 4]? = some (.inl (1, 400, .inl f)) ∧ bs.length ≤ 400 ∧ o 2 = nI bs.length ∧ ∀ k, k < bs.length → f k = sgB (bs.getD k (-1)) := C.2.2.2.2.1
theorem mm_.fv (C : mm_ h m o A K bs ws) : ∃ f, h[m + 5]? = some (.inl (0, 5, .inl f)) := C.2.2.2.2.2.1
theorem mm_.cd (C : mm_ h m o A K bs ws) : ∃ f, h[m + 6]? = some (.inl (0, 500, .inl f)) := C.2.2.2.2.2.2.1
theorem mm_.p (C : mm_ h m o A K bs ws) : pil h m := C.2.2.2.2.2.2.2.1
theorem mm_.td (C : mm_ h m o A K bs ws) : ∃ f, h[m + 8]? = some (.inl (0, 501, .inl f)) := C.2.2.2.2.2.2.2.2.1
theorem mm_.rw (C : mm_ h m o A K bs ws) : ∃ f, h[m + 9]? = some (.inl (0, 66, .inl f)) := C.2.2.2.2.2.2.2.2.2.1
theorem mm_.tx (C : mm_ h m o A K bs ws) : ∃ f, h[m + 10]? = some (.inl (1, 1000, .inl f)) ∧ ws.length ≤ 1000 ∧ o 12 = nI ws.length ∧ ∀ k, k < ws.length → f k = ws.getD k (-1) := C.2.2.2.2.2.2.2.2.2.2
/-- the row of numbers and the pile at others -/
theorem mm_.ue (C : mm_ h m o A K bs ws) (M : md_ h' m o A') (P : pil h' m) (F : frm h h' m) : mm_ h' m o A' K bs ws ∧ frM h h' m := by
  refine ⟨⟨M.1, M.2, ?_, ?_, ?_, ?_, ?_, P, ?_, ?_, ?_⟩, fun i hi => F i (by omega) (by omega)⟩
  · obtain ⟨f, h1, h2⟩ := C.k
    exact ⟨f, (F _ (by omega) (by omega)).trans h1, h2⟩
  · obtain ⟨f, h1⟩ := C.as
    exact ⟨f, (F _ (by omega) (by omega)).trans h1⟩
  · obtain ⟨f, h1, h2⟩ := C.tp
    exact ⟨f, (F _ (by omega) (by omega)).trans h1, h2⟩
  · obtain ⟨f, h1⟩ := C.fv
    exact ⟨f, (F _ (by omega) (by omega)).trans h1⟩
  · obtain ⟨f, h1⟩ := C.cd
    exact ⟨f, (F _ (by omega) (by omega)).trans h1⟩
  · obtain ⟨f, h1⟩ := C.td
    exact ⟨f, (F _ (by omega) (by omega)).trans h1⟩
  · obtain ⟨f, h1⟩ := C.rw
    exact ⟨f, (F _ (by omega) (by omega)).trans h1⟩
  · obtain ⟨f, h1, h2⟩ := C.tx
    exact ⟨f, (F _ (by omega) (by omega)).trans h1, h2⟩
theorem mm_.ud (C : mm_ h m o A K bs ws) (M : md_ h' m o A') (F : fr1 h h' (m + 1)) : mm_ h' m o A' K bs ws ∧ frM h h' m := C.ue M (C.p.t1 F) F.tm
/-- other numbers of the model's own -/
theorem mm_.uo (C : mm_ h m o A K bs ws) (o' : Nat → Int32) (M : mO h' m o') (F : fr1 h h' m) (e0 : o' 0 = o 0) (e2 : o' 2 = o 2) (e12 : o' 12 = o 12) : mm_ h' m o' A K bs ws ∧ frM h h' m := by
  refine ⟨⟨M, ?_, ?_, ?_, ?_, ?_, ?_, ?_, ?_, ?_, ?_⟩, fun i hi => F i (by omega)⟩
  · obtain ⟨f, h1, h2⟩ := C.n
    exact ⟨f, (F _ (by omega)).trans h1, h2⟩
  · obtain ⟨f, h1, h2⟩ := C.k
    exact ⟨f, (F _ (by omega)).trans h1, by rw [e0]; exact h2⟩
  · obtain ⟨f, h1⟩ := C.as
    exact ⟨f, (F _ (by omega)).trans h1⟩
  · obtain ⟨f, h1, h2⟩ := C.tp
    exact ⟨f, (F _ (by omega)).trans h1, by rw [e2]; exact h2⟩
  · obtain ⟨f, h1⟩ := C.fv
    exact ⟨f, (F _ (by omega)).trans h1⟩
  · obtain ⟨f, h1⟩ := C.cd
    exact ⟨f, (F _ (by omega)).trans h1⟩
  · exact C.p.keep (F _ (by omega))
  · obtain ⟨f, h1⟩ := C.td
    exact ⟨f, (F _ (by omega)).trans h1⟩
  · obtain ⟨f, h1⟩ := C.rw
    exact ⟨f, (F _ (by omega)).trans h1⟩
  · obtain ⟨f, h1, h2⟩ := C.tx
    exact ⟨f, (F _ (by omega)).trans h1, by rw [e12]; exact h2⟩
/-- 'thrown' at another number -/
theorem mm_.th (C : mm_ h m o A K bs ws) (v : Int32) : ∃ h1, h.set m (.inr (12, [.ref (m + 1), .ref (m + 2), .ref (m + 3), .int (o 0), .int v, .ref (m + 4), .int (o 2), .ref (m + 5), .int (o 3), .int (o 4), .int (o 5), .int (o 6), .int (o 7), .int (o 8), .int (o 9), .int (o 10), .ref (m + 6), .ref (m + 7), .ref (m + 8), .int (o 11), .ref (m + 9), .ref (m + 10), .int (o 12)])) = h1 ∧ h1.length = h.length ∧ frM h h1 m ∧ mm_ h1 m (upd o 1 v) A K bs ws ∧ h1[m]? = some (.inr (12, [.ref (m + 1), .ref (m + 2), .ref (m + 3), .int (o 0), .int v, .ref (m + 4), .int (o 2), .ref (m + 5), .int (o 3), .int (o 4), .int (o 5), .int (o 6), .int (o 7), .int (o 8), .int (o 9), .int (o 10), .ref (m + 6), .ref (m + 7), .ref (m + 8), .int (o 11), .ref (m + 9), .ref (m + 10), .int (o 12)])) := by
  have H0 := C.ob
  unfold mO at H0
  have e : (h.set m (.inr (12, [.ref (m + 1), .ref (m + 2), .ref (m + 3), .int (o 0), .int v, .ref (m + 4), .int (o 2), .ref (m + 5), .int (o 3), .int (o 4), .int (o 5), .int (o 6), .int (o 7), .int (o 8), .int (o 9), .int (o 10), .ref (m + 6), .ref (m + 7), .ref (m + 8), .int (o 11), .ref (m + 9), .ref (m + 10), .int (o 12)])))[m]? = some (.inr (12, [.ref (m + 1), .ref (m + 2), .ref (m + 3), .int (o 0), .int v, .ref (m + 4), .int (o 2), .ref (m + 5), .int (o 3), .int (o 4), .int (o 5), .int (o 6), .int (o 7), .int (o 8), .int (o 9), .int (o 10), .ref (m + 6), .ref (m + 7), .ref (m + 8), .int (o 11), .ref (m + 9), .ref (m + 10), .int (o 12)])) := by
    rw [hset_s, H0]
    rfl
  obtain ⟨C1, F1⟩ := C.uo (upd o 1 v) e (fun i hi => hset_n (Ne.symm hi)) rfl rfl rfl
  exact ⟨_, rfl, List.length_set, F1, C1, e⟩
theorem mm_.q {th : Int32} (C : mm_ h' m (upd o 1 th) A K bs ws) (F : frM h h' m) : mq_ h m A K bs ws (o 0) th (o 7) h' := ⟨⟨_, C, rfl, rfl, rfl⟩, F⟩
theorem c_P_throwsIf0 (C : mm_ h m o A K bs ws) (c : Int32) (d : Nat) : PM (d + 1) 146 [.ref m, .int 0, .int c] h (fun v h' => v = some (.int 0) ∧ h' = h) := by
  refine en_X12_throwsIf rfl rfl rfl ?_
  simp only [w_X12_throwsIf_0, w_X12_throwsIf_1, w_X12_throwsIf_4, w_X12_throwsIf_5, w_X12_throwsIf_6, w_X12_throwsIf_9, w_X12_throwsIf_10, pm_1i_c, pm_2i_c, pm_1l_c, pm_2l_c, pm_1a_c, pm_ia_c, pm_iia_c, pm_va_c, pm_cp_c, pm_k0_c, pm_k1_c, pm_k2_c, pm_k3_c, pm_s1_c, pm_s2_c, pm_s3_c, pm_s4_c, pm_ri_c, pm_ra_c, pm_rn_c, pm_rk_i, pm_rk_z, pm_rk_a, pm_vk_i, pm_vk_z, pm_vk_a, pm_cti, pm_ctr, pm_ldi_z, pm_ldi_s, pm_lda_z, pm_lda_s, pm_cat_n, pm_cat_i, pm_cat_r, pm_cat_l, pm_obj, pm_arr, pm_opt, pm_ird, pm_aln, List.getElem?_cons_zero, List.getElem?_cons_succ, List.set_cons_zero, List.set_cons_succ, List.length_cons, List.length_nil, List.length_set, true_and, and_true, Nat.add_zero, Nat.zero_add, Nat.le_refl, Nat.reduceAdd, Nat.reduceLT, Nat.reduceLeDiff, Nat.zero_le, not_false_eq_true, not_true_eq_false, false_implies, implies_true, true_implies, Nat.zero_lt_succ, Nat.lt_add_one]
  exact Or.inl trivial
theorem c_P_throwsIf1 (C : mm_ h m o A K bs ws) (c : Int32) (d : Nat) : PM (d + 1) 146 [.ref m, .int 1, .int c] h (fun v h' => v = some (.int 1) ∧ mm_ h' m (upd o 1 c) A K bs ws ∧ frM h h' m) := by
  have H0 := C.ob
  unfold mO at H0
  obtain ⟨h1, e1, l1, F1, C1, -⟩ := C.th c
  refine en_X12_throwsIf rfl rfl rfl ?_
  simp only [w_X12_throwsIf_0, w_X12_throwsIf_1, w_X12_throwsIf_4, w_X12_throwsIf_5, w_X12_throwsIf_6, w_X12_throwsIf_9, w_X12_throwsIf_10, pm_1i_c, pm_2i_c, pm_1l_c, pm_2l_c, pm_1a_c, pm_ia_c, pm_iia_c, pm_va_c, pm_cp_c, pm_k0_c, pm_k1_c, pm_k2_c, pm_k3_c, pm_s1_c, pm_s2_c, pm_s3_c, pm_s4_c, pm_ri_c, pm_ra_c, pm_rn_c, pm_rk_i, pm_rk_z, pm_rk_a, pm_vk_i, pm_vk_z, pm_vk_a, pm_cti, pm_ctr, pm_ldi_z, pm_ldi_s, pm_lda_z, pm_lda_s, pm_cat_n, pm_cat_i, pm_cat_r, pm_cat_l, pm_obj, pm_arr, pm_opt, pm_ird, pm_aln, List.getElem?_cons_zero, List.getElem?_cons_succ, List.set_cons_zero, List.set_cons_succ, List.length_cons, List.length_nil, List.length_set, true_and, and_true, Nat.add_zero, Nat.zero_add, Nat.le_refl, Nat.reduceAdd, Nat.reduceLT, Nat.reduceLeDiff, Nat.zero_le, not_false_eq_true, not_true_eq_false, false_implies, implies_true, true_implies, Nat.zero_lt_succ, Nat.lt_add_one, show ¬ (1 : Int32) = 0 by decide, H0, e1, l1]
  exact ⟨Or.inr trivial, C1, F1⟩
theorem inB_ky (x : Int32) : inB x 0 99999 = kyB x := by
  unfold inB kyB
  rw [decide_eq_decide]
  have n1 : (99999 : Int32).toInt = 99999 := rfl
  have n2 : (100000 : Int32).toInt = 100000 := rfl
  rw [Int32.lt_iff_toInt_lt (x := 99999), Int32.lt_iff_toInt_lt (y := 100000)]
  exact and_congr_right fun _ => by omega
theorem kyB_of {x : Int32} (c : kyB x = true) : ∃ n, n < 100000 ∧ x = nI n := by
  unfold kyB at c
  obtain ⟨c1, c2⟩ := of_decide_eq_true c
  obtain ⟨j, hj, rfl⟩ := nI_of c1
  exact ⟨j, (nI_ltI (b := 100000) hj (by omega)).mp c2, rfl⟩
theorem c_P_noKey0 (C : mm_ h m o A K bs ws) {x : Int32} (c : kyB x = true) (d : Nat) : PM (d + 2) 209 [.ref m, .int x] h (fun v h' => v = some (.int 0) ∧ h' = h) := by
  refine en_X12_noKey rfl rfl ?_
  have H0 := C.ob
  unfold mO at H0
  simp only [w_X12_noKey_0, w_X12_noKey_1, w_X12_noKey_2, w_X12_noKey_3, w_X12_noKey_6, pm_1i_c, pm_2i_c, pm_1l_c, pm_2l_c, pm_1a_c, pm_ia_c, pm_iia_c, pm_va_c, pm_cp_c, pm_k0_c, pm_k1_c, pm_k2_c, pm_k3_c, pm_s1_c, pm_s2_c, pm_s3_c, pm_s4_c, pm_ri_c, pm_ra_c, pm_rn_c, pm_rk_i, pm_rk_z, pm_rk_a, pm_vk_i, pm_vk_z, pm_vk_a, pm_cti, pm_ctr, pm_ldi_z, pm_ldi_s, pm_lda_z, pm_lda_s, pm_cat_n, pm_cat_i, pm_cat_r, pm_cat_l, pm_obj, pm_arr, pm_opt, pm_ird, pm_aln, List.getElem?_cons_zero, List.getElem?_cons_succ, List.set_cons_zero, List.set_cons_succ, List.length_cons, List.length_nil, List.length_set, true_and, and_true, Nat.add_zero, Nat.zero_add, Nat.le_refl, Nat.reduceAdd, Nat.reduceLT, Nat.reduceLeDiff, Nat.zero_le, not_false_eq_true, not_true_eq_false, false_implies, implies_true, true_implies, Nat.zero_lt_succ, Nat.lt_add_one]
  refine PM_use (c_M_in x 0 99999 d) ?_
  rintro v g1 l1 ⟨rfl, rfl⟩
  rw [inB_ky, c]
  show W_X12_noKey _ _ _ _ _ _ _ _ _
  simp only [w_X12_noKey_9, w_X12_noKey_12, w_X12_noKey_13, w_X12_noKey_16, w_X12_noKey_17, w_X12_noKey_18, pm_1i_c, pm_2i_c, pm_1l_c, pm_2l_c, pm_1a_c, pm_ia_c, pm_iia_c, pm_va_c, pm_cp_c, pm_k0_c, pm_k1_c, pm_k2_c, pm_k3_c, pm_s1_c, pm_s2_c, pm_s3_c, pm_s4_c, pm_ri_c, pm_ra_c, pm_rn_c, pm_rk_i, pm_rk_z, pm_rk_a, pm_vk_i, pm_vk_z, pm_vk_a, pm_cti, pm_ctr, pm_ldi_z, pm_ldi_s, pm_lda_z, pm_lda_s, pm_cat_n, pm_cat_i, pm_cat_r, pm_cat_l, pm_obj, pm_arr, pm_opt, pm_ird, pm_aln, List.getElem?_cons_zero, List.getElem?_cons_succ, List.set_cons_zero, List.set_cons_succ, List.length_cons, List.length_nil, List.length_set, true_and, and_true, Nat.add_zero, Nat.zero_add, Nat.le_refl, Nat.reduceAdd, Nat.reduceLT, Nat.reduceLeDiff, Nat.zero_le, not_false_eq_true, not_true_eq_false, false_implies, implies_true, true_implies, Nat.zero_lt_succ, Nat.lt_add_one, pm_tl_n, pm_tl_s, sc_uL, if_true, show ¬ (1 : Int32) = 0 by decide, H0]
  refine PM_use (c_P_throwsIf0 C 1 d) ?_
  rintro v g1 l1 ⟨rfl, rfl⟩
  show W_X12_noKey _ _ _ _ _ _ _ _ _
  simp only [w_X12_noKey_21, pm_1i_c, pm_2i_c, pm_1l_c, pm_2l_c, pm_1a_c, pm_ia_c, pm_iia_c, pm_va_c, pm_cp_c, pm_k0_c, pm_k1_c, pm_k2_c, pm_k3_c, pm_s1_c, pm_s2_c, pm_s3_c, pm_s4_c, pm_ri_c, pm_ra_c, pm_rn_c, pm_rk_i, pm_rk_z, pm_rk_a, pm_vk_i, pm_vk_z, pm_vk_a, pm_cti, pm_ctr, pm_ldi_z, pm_ldi_s, pm_lda_z, pm_lda_s, pm_cat_n, pm_cat_i, pm_cat_r, pm_cat_l, pm_obj, pm_arr, pm_opt, pm_ird, pm_aln, List.getElem?_cons_zero, List.getElem?_cons_succ, List.set_cons_zero, List.set_cons_succ, List.length_cons, List.length_nil, List.length_set, true_and, and_true, Nat.add_zero, Nat.zero_add, Nat.le_refl, Nat.reduceAdd, Nat.reduceLT, Nat.reduceLeDiff, Nat.zero_le, not_false_eq_true, not_true_eq_false, false_implies, implies_true, true_implies, Nat.zero_lt_succ, Nat.lt_add_one, pm_tl_n, pm_tl_s, sc_uL]
  exact Or.inl trivial
theorem c_P_noKey1 (C : mm_ h m o A K bs ws) {x : Int32} (c : kyB x = false) (d : Nat) : PM (d + 2) 209 [.ref m, .int x] h (fun v h' => v = some (.int 1) ∧ mm_ h' m (upd o 1 1) A K bs ws ∧ frM h h' m) := by
  refine en_X12_noKey rfl rfl ?_
  have H0 := C.ob
  unfold mO at H0
  simp only [w_X12_noKey_0, w_X12_noKey_1, w_X12_noKey_2, w_X12_noKey_3, w_X12_noKey_6, pm_1i_c, pm_2i_c, pm_1l_c, pm_2l_c, pm_1a_c, pm_ia_c, pm_iia_c, pm_va_c, pm_cp_c, pm_k0_c, pm_k1_c, pm_k2_c, pm_k3_c, pm_s1_c, pm_s2_c, pm_s3_c, pm_s4_c, pm_ri_c, pm_ra_c, pm_rn_c, pm_rk_i, pm_rk_z, pm_rk_a, pm_vk_i, pm_vk_z, pm_vk_a, pm_cti, pm_ctr, pm_ldi_z, pm_ldi_s, pm_lda_z, pm_lda_s, pm_cat_n, pm_cat_i, pm_cat_r, pm_cat_l, pm_obj, pm_arr, pm_opt, pm_ird, pm_aln, List.getElem?_cons_zero, List.getElem?_cons_succ, List.set_cons_zero, List.set_cons_succ, List.length_cons, List.length_nil, List.length_set, true_and, and_true, Nat.add_zero, Nat.zero_add, Nat.le_refl, Nat.reduceAdd, Nat.reduceLT, Nat.reduceLeDiff, Nat.zero_le, not_false_eq_true, not_true_eq_false, false_implies, implies_true, true_implies, Nat.zero_lt_succ, Nat.lt_add_one]
  refine PM_use (c_M_in x 0 99999 d) ?_
  rintro v g1 l1 ⟨rfl, rfl⟩
  rw [inB_ky, c]
  show W_X12_noKey _ _ _ _ _ _ _ _ _
  simp only [w_X12_noKey_9, w_X12_noKey_12, w_X12_noKey_13, w_X12_noKey_16, w_X12_noKey_17, w_X12_noKey_18, pm_1i_c, pm_2i_c, pm_1l_c, pm_2l_c, pm_1a_c, pm_ia_c, pm_iia_c, pm_va_c, pm_cp_c, pm_k0_c, pm_k1_c, pm_k2_c, pm_k3_c, pm_s1_c, pm_s2_c, pm_s3_c, pm_s4_c, pm_ri_c, pm_ra_c, pm_rn_c, pm_rk_i, pm_rk_z, pm_rk_a, pm_vk_i, pm_vk_z, pm_vk_a, pm_cti, pm_ctr, pm_ldi_z, pm_ldi_s, pm_lda_z, pm_lda_s, pm_cat_n, pm_cat_i, pm_cat_r, pm_cat_l, pm_obj, pm_arr, pm_opt, pm_ird, pm_aln, List.getElem?_cons_zero, List.getElem?_cons_succ, List.set_cons_zero, List.set_cons_succ, List.length_cons, List.length_nil, List.length_set, true_and, and_true, Nat.add_zero, Nat.zero_add, Nat.le_refl, Nat.reduceAdd, Nat.reduceLT, Nat.reduceLeDiff, Nat.zero_le, not_false_eq_true, not_true_eq_false, false_implies, implies_true, true_implies, Nat.zero_lt_succ, Nat.lt_add_one, pm_tl_n, pm_tl_s, sc_uL, Bool.false_eq_true, if_false, H0]
  refine PM_use (c_P_throwsIf1 C 1 d) ?_
  rintro v g2 l2 ⟨rfl, K1, K2⟩
  show W_X12_noKey _ _ _ _ _ _ _ _ _
  simp only [w_X12_noKey_21, pm_1i_c, pm_2i_c, pm_1l_c, pm_2l_c, pm_1a_c, pm_ia_c, pm_iia_c, pm_va_c, pm_cp_c, pm_k0_c, pm_k1_c, pm_k2_c, pm_k3_c, pm_s1_c, pm_s2_c, pm_s3_c, pm_s4_c, pm_ri_c, pm_ra_c, pm_rn_c, pm_rk_i, pm_rk_z, pm_rk_a, pm_vk_i, pm_vk_z, pm_vk_a, pm_cti, pm_ctr, pm_ldi_z, pm_ldi_s, pm_lda_z, pm_lda_s, pm_cat_n, pm_cat_i, pm_cat_r, pm_cat_l, pm_obj, pm_arr, pm_opt, pm_ird, pm_aln, List.getElem?_cons_zero, List.getElem?_cons_succ, List.set_cons_zero, List.set_cons_succ, List.length_cons, List.length_nil, List.length_set, true_and, and_true, Nat.add_zero, Nat.zero_add, Nat.le_refl, Nat.reduceAdd, Nat.reduceLT, Nat.reduceLeDiff, Nat.zero_le, not_false_eq_true, not_true_eq_false, false_implies, implies_true, true_implies, Nat.zero_lt_succ, Nat.lt_add_one, pm_tl_n, pm_tl_s, sc_uL, l2]
  exact ⟨Or.inr trivial, K1, K2⟩
theorem upd_upd {f : Nat → Int32} {k : Nat} {x y : Int32} : upd (upd f k x) k y = upd f k y := by
  funext j
  unfold upd
  by_cases c : j = k
  · rw [if_pos c, if_pos c]
  · rw [if_neg c, if_neg c, if_neg c]
theorem c_P_ask (C : mm_ h m o A K bs ws) (I : mI A) (x : Int32) (d : Nat) : PM (d + 10) 210 [.ref m, .int x] h (fun v h' => if kyB x = true then v = some (.int (nI (partN A x))) ∧ mq_ h m (srvF A x) K bs ws (o 0) 0 (o 7) h' else v = some (.int 0) ∧ mq_ h m A K bs ws (o 0) 1 (o 7) h') := by
  have H0 := C.ob
  unfold mO at H0
  obtain ⟨h1, e1, l1, F1, C1, H1⟩ := C.th 0
  refine en_X12_ask rfl rfl ?_
  simp only [w_X12_ask_0, w_X12_ask_1, w_X12_ask_2, w_X12_ask_5, w_X12_ask_6, w_X12_ask_7, pm_1i_c, pm_2i_c, pm_1l_c, pm_2l_c, pm_1a_c, pm_ia_c, pm_iia_c, pm_va_c, pm_cp_c, pm_k0_c, pm_k1_c, pm_k2_c, pm_k3_c, pm_s1_c, pm_s2_c, pm_s3_c, pm_s4_c, pm_ri_c, pm_ra_c, pm_rn_c, pm_rk_i, pm_rk_z, pm_rk_a, pm_vk_i, pm_vk_z, pm_vk_a, pm_cti, pm_ctr, pm_ldi_z, pm_ldi_s, pm_lda_z, pm_lda_s, pm_cat_n, pm_cat_i, pm_cat_r, pm_cat_l, pm_obj, pm_arr, pm_opt, pm_ird, pm_aln, List.getElem?_cons_zero, List.getElem?_cons_succ, List.set_cons_zero, List.set_cons_succ, List.length_cons, List.length_nil, List.length_set, true_and, and_true, Nat.add_zero, Nat.zero_add, Nat.le_refl, Nat.reduceAdd, Nat.reduceLT, Nat.reduceLeDiff, Nat.zero_le, not_false_eq_true, not_true_eq_false, false_implies, implies_true, true_implies, Nat.zero_lt_succ, Nat.lt_add_one, H0, e1, H1, l1]
  by_cases c : kyB x = true
  · refine PM_use (c_P_noKey0 C1 c (d + 7)) ?_
    rintro v g1 k1 ⟨rfl, rfl⟩
    show W_X12_ask _ _ _ _ _ _ _ _ _
    simp only [w_X12_ask_10, w_X12_ask_17, w_X12_ask_18, w_X12_ask_19, pm_1i_c, pm_2i_c, pm_1l_c, pm_2l_c, pm_1a_c, pm_ia_c, pm_iia_c, pm_va_c, pm_cp_c, pm_k0_c, pm_k1_c, pm_k2_c, pm_k3_c, pm_s1_c, pm_s2_c, pm_s3_c, pm_s4_c, pm_ri_c, pm_ra_c, pm_rn_c, pm_rk_i, pm_rk_z, pm_rk_a, pm_vk_i, pm_vk_z, pm_vk_a, pm_cti, pm_ctr, pm_ldi_z, pm_ldi_s, pm_lda_z, pm_lda_s, pm_cat_n, pm_cat_i, pm_cat_r, pm_cat_l, pm_obj, pm_arr, pm_opt, pm_ird, pm_aln, List.getElem?_cons_zero, List.getElem?_cons_succ, List.set_cons_zero, List.set_cons_succ, List.length_cons, List.length_nil, List.length_set, true_and, and_true, Nat.add_zero, Nat.zero_add, Nat.le_refl, Nat.reduceAdd, Nat.reduceLT, Nat.reduceLeDiff, Nat.zero_le, not_false_eq_true, not_true_eq_false, false_implies, implies_true, true_implies, Nat.zero_lt_succ, Nat.lt_add_one, pm_tl_n, pm_tl_s, sc_uL, H1, l1]
    refine PM_use (c_M_asks C1.md C1.p I (kyB_of c) d) ?_
    rintro v g2 k2 ⟨rfl, K1, K2, K3⟩
    show W_X12_ask _ _ _ _ _ _ _ _ _
    simp only [w_X12_ask_22, pm_1i_c, pm_2i_c, pm_1l_c, pm_2l_c, pm_1a_c, pm_ia_c, pm_iia_c, pm_va_c, pm_cp_c, pm_k0_c, pm_k1_c, pm_k2_c, pm_k3_c, pm_s1_c, pm_s2_c, pm_s3_c, pm_s4_c, pm_ri_c, pm_ra_c, pm_rn_c, pm_rk_i, pm_rk_z, pm_rk_a, pm_vk_i, pm_vk_z, pm_vk_a, pm_cti, pm_ctr, pm_ldi_z, pm_ldi_s, pm_lda_z, pm_lda_s, pm_cat_n, pm_cat_i, pm_cat_r, pm_cat_l, pm_obj, pm_arr, pm_opt, pm_ird, pm_aln, List.getElem?_cons_zero, List.getElem?_cons_succ, List.set_cons_zero, List.set_cons_succ, List.length_cons, List.length_nil, List.length_set, true_and, and_true, Nat.add_zero, Nat.zero_add, Nat.le_refl, Nat.reduceAdd, Nat.reduceLT, Nat.reduceLeDiff, Nat.zero_le, not_false_eq_true, not_true_eq_false, false_implies, implies_true, true_implies, Nat.zero_lt_succ, Nat.lt_add_one, pm_tl_n, pm_tl_s, sc_uL, l1, k2, c, if_true]
    obtain ⟨C2, F2⟩ := C1.ue K1 K2 K3
    exact C2.q (F1.tr F2)
  · have c' : kyB x = false := by simpa using c
    refine PM_use (c_P_noKey1 C1 c' (d + 7)) ?_
    rintro v g1 k1 ⟨rfl, K1, K2⟩
    show W_X12_ask _ _ _ _ _ _ _ _ _
    simp only [w_X12_ask_10, w_X12_ask_13, w_X12_ask_14, w_X12_ask_22, pm_1i_c, pm_2i_c, pm_1l_c, pm_2l_c, pm_1a_c, pm_ia_c, pm_iia_c, pm_va_c, pm_cp_c, pm_k0_c, pm_k1_c, pm_k2_c, pm_k3_c, pm_s1_c, pm_s2_c, pm_s3_c, pm_s4_c, pm_ri_c, pm_ra_c, pm_rn_c, pm_rk_i, pm_rk_z, pm_rk_a, pm_vk_i, pm_vk_z, pm_vk_a, pm_cti, pm_ctr, pm_ldi_z, pm_ldi_s, pm_lda_z, pm_lda_s, pm_cat_n, pm_cat_i, pm_cat_r, pm_cat_l, pm_obj, pm_arr, pm_opt, pm_ird, pm_aln, List.getElem?_cons_zero, List.getElem?_cons_succ, List.set_cons_zero, List.set_cons_succ, List.length_cons, List.length_nil, List.length_set, true_and, and_true, Nat.add_zero, Nat.zero_add, Nat.le_refl, Nat.reduceAdd, Nat.reduceLT, Nat.reduceLeDiff, Nat.zero_le, not_false_eq_true, not_true_eq_false, false_implies, implies_true, true_implies, Nat.zero_lt_succ, Nat.lt_add_one, pm_tl_n, pm_tl_s, sc_uL, show ¬ (1 : Int32) = 0 by decide, l1, k1, c', Bool.false_eq_true, if_false]
    rw [upd_upd] at K1
    exact K1.q (F1.tr K2)
end MN
