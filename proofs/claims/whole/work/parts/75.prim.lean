/-! AdmissionDeskModel: the pieces of its reader. -/
def frP (h h' : pmH) (m : Nat) : Prop := ∀ i, i ≠ m → i ≠ m + 6 → i ≠ m + 8 → h'[i]? = h[i]?
def pr_ (h0 h : pmH) (m : Nat) (o : Nat → Int32) (bs : List Int32) (p b dp n : Nat) (fa : Int32) (cs ks : List Int32) : Prop := h[m]? = some (.inr (12, [.ref (m + 1), .ref (m + 2), .ref (m + 3), .int (o 0), .int (o 1), .ref (m + 4), .int (o 2), .ref (m + 5), .int (nI p), .int (nI b), .int (nI bs.length), .int fa, .int (o 7), .int (nI dp), .int (nI n), .int (nI cs.length), .ref (m + 6), .ref (m + 7), .ref (m + 8), .int (nI ks.length), .ref (m + 9), .ref (m + 10), .int (o 12)])) ∧ (∃ f, h[m + 6]? = some (.inl (0, 500, .inl f)) ∧ ∀ k, k < cs.length → f k = cs.getD k (-1)) ∧ (∃ f, h[m + 8]? = some (.inl (0, 501, .inl f)) ∧ ∀ k, k < ks.length → f k = ks.getD k (-1)) ∧ frP h0 h m
def tap_ (h0 : pmH) (m : Nat) (bs : List Int32) : Prop := bs.length ≤ 400 ∧ byts bs ∧ ∃ f, h0[m + 4]? = some (.inl (1, 400, .inl f)) ∧ ∀ k, k < bs.length → f k = sgB (bs.getD k (-1))
def atV (bs : List Int32) (k : Nat) (x y : Int32) : Bool := decide (k < bs.length ∧ ¬ sgB (bs.getD k (-1)) < x ∧ ¬ y < sgB (bs.getD k (-1)))
theorem sg_rng {v a b : Nat} (hv : v < 256) (ha : a < 128) (hb : b < 128) : (¬ sgB (nI v) < nI a ∧ ¬ nI b < sgB (nI v)) ↔ (a ≤ v ∧ v ≤ b) := by
  rw [Int32.lt_iff_toInt_lt, Int32.lt_iff_toInt_lt, sg_int hv, nI_toInt (by omega), nI_toInt (by omega)]
  split <;> omega
theorem byts_at {bs : List Int32} (H : byts bs) {k : Nat} (hk : k < bs.length) : ∃ v, v < 256 ∧ bs.getD k (-1) = nI v := by
  rw [List.getD_eq_getElem?_getD, List.getElem?_eq_getElem hk]
  exact H _ (List.getElem_mem hk)
theorem atV_r {bs : List Int32} (H : byts bs) {k a b : Nat} (ha : a < 128) (hb : b < 128) : atV bs k (nI a) (nI b) = true ↔ (k < bs.length ∧ ∃ v, bs.getD k (-1) = nI v ∧ a ≤ v ∧ v ≤ b) := by
  unfold atV
  rw [decide_eq_true_eq]
  refine and_congr_right (fun hk => ?_)
  obtain ⟨v, hv, e⟩ := byts_at H hk
  rw [e, sg_rng hv ha hb]
  refine ⟨fun z => ⟨v, rfl, z⟩, ?_⟩
  rintro ⟨w, e2, z1, z2⟩
  have : v = w := (nI_inj (by omega) (by omega)).mp e2
  omega
theorem atV_s {bs : List Int32} (H : byts bs) {k a : Nat} (ha : a < 128) : atV bs k (nI a) (nI a) = true ↔ (k < bs.length ∧ bs.getD k (-1) = nI a) := by
  rw [atV_r H ha ha]
  refine and_congr_right (fun hk => ⟨?_, fun e => ⟨a, e, Nat.le_refl _, Nat.le_refl _⟩⟩)
  rintro ⟨v, e, z1, z2⟩
  rw [e, show v = a by omega]
theorem atV_b {bs : List Int32} (H : byts bs) (k : Nat) : (atV bs k 9 10 = true ∨ atV bs k 32 32 = true) ↔ (k < bs.length ∧ isB (bs.getD k (-1)) = true) := by
  have a := atV_r H (k := k) (a := 9) (b := 10) (by omega) (by omega)
  have b := atV_s H (k := k) (a := 32) (by omega)
  rw [show (9 : Int32) = nI 9 from rfl, show (10 : Int32) = nI 10 from rfl, show (32 : Int32) = nI 32 from rfl, a, b]
  unfold isB
  rw [decide_eq_true_eq, show (9 : Int32) = nI 9 from rfl, show (10 : Int32) = nI 10 from rfl, show (32 : Int32) = nI 32 from rfl]
  constructor
  · rintro (⟨h1, v, h2, h3, h4⟩ | ⟨h1, h2⟩)
    · refine ⟨h1, ?_⟩
      rw [h2]
      rcases Nat.lt_or_ge v 10 with z | z
      · exact Or.inl (by rw [show v = 9 by omega])
      · exact Or.inr (Or.inl (by rw [show v = 10 by omega]))
    · exact ⟨h1, Or.inr (Or.inr h2)⟩
  · rintro ⟨h1, h2 | h2 | h2⟩
    · exact Or.inl ⟨h1, 9, h2, by omega, by omega⟩
    · exact Or.inl ⟨h1, 10, h2, by omega, by omega⟩
    · exact Or.inr ⟨h1, h2⟩
theorem atV_d {bs : List Int32} (H : byts bs) (k : Nat) : atV bs k 48 57 = true ↔ (k < bs.length ∧ isD (bs.getD k (-1)) = true) := by
  have a := atV_r H (k := k) (a := 48) (b := 57) (by omega) (by omega)
  rw [show (48 : Int32) = nI 48 from rfl, show (57 : Int32) = nI 57 from rfl, a]
  refine and_congr_right (fun hk => ?_)
  obtain ⟨v, hv, e⟩ := byts_at H hk
  unfold isD
  rw [decide_eq_true_eq, e, show (48 : Int32) = nI 48 from rfl, show (57 : Int32) = nI 57 from rfl, nI_ltI (by omega) (by omega), nI_ltI (by omega) (by omega)]
  constructor
  · rintro ⟨w, e2, z⟩
    have : v = w := (nI_inj (by omega) (by omega)).mp e2
    omega
  · exact fun z => ⟨v, rfl, by omega⟩
section MR
variable {h0 h h' : pmH} {m : Nat} {o : Nat → Int32} {bs : List Int32} {p b dp n : Nat} {fa : Int32} {cs ks : List Int32}
theorem pr_.c0 (P : pr_ h0 h m o bs p b dp n fa cs ks) : h[m]? = some (.inr (12, [.ref (m + 1), .ref (m + 2), .ref (m + 3), .int (o 0), .int (o 1), .ref (m + 4), .int (o 2), .ref (m + 5), .int (nI p), .int (nI b), .int (nI bs.length), .int fa, .int (o 7), .int (nI dp), .int (nI n), .int (nI cs.length), .ref (m + 6), .ref (m + 7), .ref (m + 8), .int (nI ks.length), .ref (m + 9), .ref (m + 10), .int (o 12)])) := P.1
theorem pr_.fr (P : pr_ h0 h m o bs p b dp n fa cs ks) : frP h0 h m := P.2.2.2
theorem pr_.ta (P : pr_ h0 h m o bs p b dp n fa cs ks) (T : tap_ h0 m bs) : ∃ f, h[m + 4]? = some (.inl (1, 400, .inl f)) ∧ ∀ k, k < bs.length → f k = sgB (bs.getD k (-1)) := by
  obtain ⟨f, h1, h2⟩ := T.2.2
  exact ⟨f, (P.fr _ (by omega) (by omega) (by omega)).trans h1, h2⟩
/-- the object's own numbers at others -/
theorem pr_.uf (P : pr_ h0 h m o bs p b dp n fa cs ks) (p' b' dp' n' : Nat) (fa' : Int32) : ∃ h1, h.set m (.inr (12, [.ref (m + 1), .ref (m + 2), .ref (m + 3), .int (o 0), .int (o 1), .ref (m + 4), .int (o 2), .ref (m + 5), .int (nI p'), .int (nI b'), .int (nI bs.length), .int fa', .int (o 7), .int (nI dp'), .int (nI n'), .int (nI cs.length), .ref (m + 6), .ref (m + 7), .ref (m + 8), .int (nI ks.length), .ref (m + 9), .ref (m + 10), .int (o 12)])) = h1 ∧ h1.length = h.length ∧ pr_ h0 h1 m o bs p' b' dp' n' fa' cs ks := by
  obtain ⟨f, f1, f2⟩ := P.2.1
  obtain ⟨g, g1, g2⟩ := P.2.2.1
  refine ⟨_, rfl, List.length_set, ?_, ⟨f, (hset_n (by omega)).trans f1, f2⟩, ⟨g, (hset_n (by omega)).trans g1, g2⟩, fun i a b c => (hset_n (Ne.symm a)).trans (P.fr i a b c)⟩
  rw [hset_s, P.1]
  rfl
theorem c_Y_hasFailed (P : pr_ h0 h m o bs p b dp n fa cs ks) (d : Nat) : PM (d + 1) 154 [.ref m] h (fun v h' => v = some (.int (if fa = -1 then 0 else 1)) ∧ h' = h) := by
  have H0 := P.c0
  refine en_X12_hasFailed rfl ?_
  by_cases c : fa = -1
  · simp only [w_X12_hasFailed_0, w_X12_hasFailed_1, w_X12_hasFailed_4, w_X12_hasFailed_5, w_X12_hasFailed_8, w_X12_hasFailed_9, w_X12_hasFailed_12, w_X12_hasFailed_13, pm_1i_c, pm_2i_c, pm_1l_c, pm_2l_c, pm_1a_c, pm_ia_c, pm_iia_c, pm_va_c, pm_cp_c, pm_k0_c, pm_k1_c, pm_k2_c, pm_k3_c, pm_s1_c, pm_s2_c, pm_s3_c, pm_s4_c, pm_ri_c, pm_ra_c, pm_rn_c, pm_rk_i, pm_rk_z, pm_rk_a, pm_vk_i, pm_vk_z, pm_vk_a, pm_cti, pm_ctr, pm_ldi_z, pm_ldi_s, pm_lda_z, pm_lda_s, pm_cat_n, pm_cat_i, pm_cat_r, pm_cat_l, pm_obj, pm_arr, pm_opt, pm_ird, pm_aln, List.getElem?_cons_zero, List.getElem?_cons_succ, List.set_cons_zero, List.set_cons_succ, List.length_cons, List.length_nil, List.length_set, true_and, and_true, Nat.add_zero, Nat.zero_add, Nat.le_refl, Nat.reduceAdd, Nat.reduceLT, Nat.reduceLeDiff, Nat.zero_le, not_false_eq_true, not_true_eq_false, false_implies, implies_true, true_implies, Nat.zero_lt_succ, Nat.lt_add_one, H0, c, if_true, true_or, or_true]
  · simp only [w_X12_hasFailed_0, w_X12_hasFailed_1, w_X12_hasFailed_4, w_X12_hasFailed_5, w_X12_hasFailed_8, w_X12_hasFailed_9, w_X12_hasFailed_12, w_X12_hasFailed_13, pm_1i_c, pm_2i_c, pm_1l_c, pm_2l_c, pm_1a_c, pm_ia_c, pm_iia_c, pm_va_c, pm_cp_c, pm_k0_c, pm_k1_c, pm_k2_c, pm_k3_c, pm_s1_c, pm_s2_c, pm_s3_c, pm_s4_c, pm_ri_c, pm_ra_c, pm_rn_c, pm_rk_i, pm_rk_z, pm_rk_a, pm_vk_i, pm_vk_z, pm_vk_a, pm_cti, pm_ctr, pm_ldi_z, pm_ldi_s, pm_lda_z, pm_lda_s, pm_cat_n, pm_cat_i, pm_cat_r, pm_cat_l, pm_obj, pm_arr, pm_opt, pm_ird, pm_aln, List.getElem?_cons_zero, List.getElem?_cons_succ, List.set_cons_zero, List.set_cons_succ, List.length_cons, List.length_nil, List.length_set, true_and, and_true, Nat.add_zero, Nat.zero_add, Nat.le_refl, Nat.reduceAdd, Nat.reduceLT, Nat.reduceLeDiff, Nat.zero_le, not_false_eq_true, not_true_eq_false, false_implies, implies_true, true_implies, Nat.zero_lt_succ, Nat.lt_add_one, H0, c, if_false, true_or, or_true]
theorem c_Y_isAt (P : pr_ h0 h m o bs p b dp n fa cs ks) (T : tap_ h0 m bs) (hp : p ≤ bs.length) (x y : Int32) (d : Nat) : PM (d + 1) 155 [.ref m, .int x, .int y] h (fun v h' => v = some (.int (if atV bs p x y = true then 1 else 0)) ∧ h' = h) := by
  have H0 := P.c0
  have L4 := T.1
  obtain ⟨f, f1, f2⟩ := P.ta T
  refine en_X12_isAt rfl rfl rfl ?_
  unfold atV
  by_cases c : p < bs.length
  · have c' : nI p < nI bs.length := nI_lt c (by omega)
    have v1 : vp_in (nI p) 400 := vp_in_nI (by omega) (by omega)
    have v2 : (nI p).toNatClampNeg = p := nI_clamp (by omega)
    have v3 := f2 p c
    by_cases c2 : sgB (bs.getD p (-1)) < x
    · simp only [w_X12_isAt_0, w_X12_isAt_1, w_X12_isAt_4, w_X12_isAt_5, w_X12_isAt_8, w_X12_isAt_11, w_X12_isAt_12, w_X12_isAt_15, w_X12_isAt_16, w_X12_isAt_19, w_X12_isAt_20, w_X12_isAt_21, w_X12_isAt_24, w_X12_isAt_25, w_X12_isAt_28, w_X12_isAt_29, w_X12_isAt_32, w_X12_isAt_33, w_X12_isAt_34, w_X12_isAt_37, w_X12_isAt_38, w_X12_isAt_41, w_X12_isAt_42, pm_1i_c, pm_2i_c, pm_1l_c, pm_2l_c, pm_1a_c, pm_ia_c, pm_iia_c, pm_va_c, pm_cp_c, pm_k0_c, pm_k1_c, pm_k2_c, pm_k3_c, pm_s1_c, pm_s2_c, pm_s3_c, pm_s4_c, pm_ri_c, pm_ra_c, pm_rn_c, pm_rk_i, pm_rk_z, pm_rk_a, pm_vk_i, pm_vk_z, pm_vk_a, pm_cti, pm_ctr, pm_ldi_z, pm_ldi_s, pm_lda_z, pm_lda_s, pm_cat_n, pm_cat_i, pm_cat_r, pm_cat_l, pm_obj, pm_arr, pm_opt, pm_ird, pm_aln, List.getElem?_cons_zero, List.getElem?_cons_succ, List.set_cons_zero, List.set_cons_succ, List.length_cons, List.length_nil, List.length_set, true_and, and_true, Nat.add_zero, Nat.zero_add, Nat.le_refl, Nat.reduceAdd, Nat.reduceLT, Nat.reduceLeDiff, Nat.zero_le, not_false_eq_true, not_true_eq_false, false_implies, implies_true, true_implies, Nat.zero_lt_succ, Nat.lt_add_one, H0, c', f1, v1, v2, v3, c2, and_false, false_and, decide_false, Bool.false_eq_true, if_false, true_or, or_true]
    · by_cases c3 : y < sgB (bs.getD p (-1))
      · simp only [w_X12_isAt_0, w_X12_isAt_1, w_X12_isAt_4, w_X12_isAt_5, w_X12_isAt_8, w_X12_isAt_11, w_X12_isAt_12, w_X12_isAt_15, w_X12_isAt_16, w_X12_isAt_19, w_X12_isAt_20, w_X12_isAt_21, w_X12_isAt_24, w_X12_isAt_25, w_X12_isAt_28, w_X12_isAt_29, w_X12_isAt_32, w_X12_isAt_33, w_X12_isAt_34, w_X12_isAt_37, w_X12_isAt_38, w_X12_isAt_41, w_X12_isAt_42, pm_1i_c, pm_2i_c, pm_1l_c, pm_2l_c, pm_1a_c, pm_ia_c, pm_iia_c, pm_va_c, pm_cp_c, pm_k0_c, pm_k1_c, pm_k2_c, pm_k3_c, pm_s1_c, pm_s2_c, pm_s3_c, pm_s4_c, pm_ri_c, pm_ra_c, pm_rn_c, pm_rk_i, pm_rk_z, pm_rk_a, pm_vk_i, pm_vk_z, pm_vk_a, pm_cti, pm_ctr, pm_ldi_z, pm_ldi_s, pm_lda_z, pm_lda_s, pm_cat_n, pm_cat_i, pm_cat_r, pm_cat_l, pm_obj, pm_arr, pm_opt, pm_ird, pm_aln, List.getElem?_cons_zero, List.getElem?_cons_succ, List.set_cons_zero, List.set_cons_succ, List.length_cons, List.length_nil, List.length_set, true_and, and_true, Nat.add_zero, Nat.zero_add, Nat.le_refl, Nat.reduceAdd, Nat.reduceLT, Nat.reduceLeDiff, Nat.zero_le, not_false_eq_true, not_true_eq_false, false_implies, implies_true, true_implies, Nat.zero_lt_succ, Nat.lt_add_one, H0, c', f1, v1, v2, v3, c2, c3, and_false, false_and, decide_false, Bool.false_eq_true, if_false, true_or, or_true]
      · simp only [w_X12_isAt_0, w_X12_isAt_1, w_X12_isAt_4, w_X12_isAt_5, w_X12_isAt_8, w_X12_isAt_11, w_X12_isAt_12, w_X12_isAt_15, w_X12_isAt_16, w_X12_isAt_19, w_X12_isAt_20, w_X12_isAt_21, w_X12_isAt_24, w_X12_isAt_25, w_X12_isAt_28, w_X12_isAt_29, w_X12_isAt_32, w_X12_isAt_33, w_X12_isAt_34, w_X12_isAt_37, w_X12_isAt_38, w_X12_isAt_41, w_X12_isAt_42, pm_1i_c, pm_2i_c, pm_1l_c, pm_2l_c, pm_1a_c, pm_ia_c, pm_iia_c, pm_va_c, pm_cp_c, pm_k0_c, pm_k1_c, pm_k2_c, pm_k3_c, pm_s1_c, pm_s2_c, pm_s3_c, pm_s4_c, pm_ri_c, pm_ra_c, pm_rn_c, pm_rk_i, pm_rk_z, pm_rk_a, pm_vk_i, pm_vk_z, pm_vk_a, pm_cti, pm_ctr, pm_ldi_z, pm_ldi_s, pm_lda_z, pm_lda_s, pm_cat_n, pm_cat_i, pm_cat_r, pm_cat_l, pm_obj, pm_arr, pm_opt, pm_ird, pm_aln, List.getElem?_cons_zero, List.getElem?_cons_succ, List.set_cons_zero, List.set_cons_succ, List.length_cons, List.length_nil, List.length_set, true_and, and_true, Nat.add_zero, Nat.zero_add, Nat.le_refl, Nat.reduceAdd, Nat.reduceLT, Nat.reduceLeDiff, Nat.zero_le, not_false_eq_true, not_true_eq_false, false_implies, implies_true, true_implies, Nat.zero_lt_succ, Nat.lt_add_one, H0, c', f1, v1, v2, v3, c, c2, c3, decide_true, if_true, true_or, or_true]
  · have c' : ¬ nI p < nI bs.length := nI_nlt (by omega) (by omega)
    simp only [w_X12_isAt_0, w_X12_isAt_1, w_X12_isAt_4, w_X12_isAt_5, w_X12_isAt_8, w_X12_isAt_11, w_X12_isAt_12, w_X12_isAt_15, w_X12_isAt_16, w_X12_isAt_19, w_X12_isAt_20, w_X12_isAt_21, w_X12_isAt_24, w_X12_isAt_25, w_X12_isAt_28, w_X12_isAt_29, w_X12_isAt_32, w_X12_isAt_33, w_X12_isAt_34, w_X12_isAt_37, w_X12_isAt_38, w_X12_isAt_41, w_X12_isAt_42, pm_1i_c, pm_2i_c, pm_1l_c, pm_2l_c, pm_1a_c, pm_ia_c, pm_iia_c, pm_va_c, pm_cp_c, pm_k0_c, pm_k1_c, pm_k2_c, pm_k3_c, pm_s1_c, pm_s2_c, pm_s3_c, pm_s4_c, pm_ri_c, pm_ra_c, pm_rn_c, pm_rk_i, pm_rk_z, pm_rk_a, pm_vk_i, pm_vk_z, pm_vk_a, pm_cti, pm_ctr, pm_ldi_z, pm_ldi_s, pm_lda_z, pm_lda_s, pm_cat_n, pm_cat_i, pm_cat_r, pm_cat_l, pm_obj, pm_arr, pm_opt, pm_ird, pm_aln, List.getElem?_cons_zero, List.getElem?_cons_succ, List.set_cons_zero, List.set_cons_succ, List.length_cons, List.length_nil, List.length_set, true_and, and_true, Nat.add_zero, Nat.zero_add, Nat.le_refl, Nat.reduceAdd, Nat.reduceLT, Nat.reduceLeDiff, Nat.zero_le, not_false_eq_true, not_true_eq_false, false_implies, implies_true, true_implies, Nat.zero_lt_succ, Nat.lt_add_one, H0, c', c, false_and, decide_false, Bool.false_eq_true, if_false, true_or, or_true]
theorem c_Y_failsAt (P : pr_ h0 h m o bs p b dp n fa cs ks) (x : Int32) (d : Nat) : PM (d + 1) 157 [.ref m, .int x] h (fun v h' => v = none ∧ pr_ h0 h' m o bs p b dp n (if fa = -1 then x else fa) cs ks) := by
  have H0 := P.c0
  refine en_X12_failsAt rfl rfl ?_
  by_cases c : fa = -1
  · obtain ⟨h1, E, l1, P1⟩ := P.uf p b dp n x
    simp only [w_X12_failsAt_0, w_X12_failsAt_1, w_X12_failsAt_4, w_X12_failsAt_5, w_X12_failsAt_8, w_X12_failsAt_9, w_X12_failsAt_10, w_X12_failsAt_13, pm_1i_c, pm_2i_c, pm_1l_c, pm_2l_c, pm_1a_c, pm_ia_c, pm_iia_c, pm_va_c, pm_cp_c, pm_k0_c, pm_k1_c, pm_k2_c, pm_k3_c, pm_s1_c, pm_s2_c, pm_s3_c, pm_s4_c, pm_ri_c, pm_ra_c, pm_rn_c, pm_rk_i, pm_rk_z, pm_rk_a, pm_vk_i, pm_vk_z, pm_vk_a, pm_cti, pm_ctr, pm_ldi_z, pm_ldi_s, pm_lda_z, pm_lda_s, pm_cat_n, pm_cat_i, pm_cat_r, pm_cat_l, pm_obj, pm_arr, pm_opt, pm_ird, pm_aln, List.getElem?_cons_zero, List.getElem?_cons_succ, List.set_cons_zero, List.set_cons_succ, List.length_cons, List.length_nil, List.length_set, true_and, and_true, Nat.add_zero, Nat.zero_add, Nat.le_refl, Nat.reduceAdd, Nat.reduceLT, Nat.reduceLeDiff, Nat.zero_le, not_false_eq_true, not_true_eq_false, false_implies, implies_true, true_implies, Nat.zero_lt_succ, Nat.lt_add_one, H0, c, if_true]
    rw [E]
    exact P1
  · simp only [w_X12_failsAt_0, w_X12_failsAt_1, w_X12_failsAt_4, w_X12_failsAt_5, w_X12_failsAt_8, w_X12_failsAt_9, w_X12_failsAt_10, w_X12_failsAt_13, pm_1i_c, pm_2i_c, pm_1l_c, pm_2l_c, pm_1a_c, pm_ia_c, pm_iia_c, pm_va_c, pm_cp_c, pm_k0_c, pm_k1_c, pm_k2_c, pm_k3_c, pm_s1_c, pm_s2_c, pm_s3_c, pm_s4_c, pm_ri_c, pm_ra_c, pm_rn_c, pm_rk_i, pm_rk_z, pm_rk_a, pm_vk_i, pm_vk_z, pm_vk_a, pm_cti, pm_ctr, pm_ldi_z, pm_ldi_s, pm_lda_z, pm_lda_s, pm_cat_n, pm_cat_i, pm_cat_r, pm_cat_l, pm_obj, pm_arr, pm_opt, pm_ird, pm_aln, List.getElem?_cons_zero, List.getElem?_cons_succ, List.set_cons_zero, List.set_cons_succ, List.length_cons, List.length_nil, List.length_set, true_and, and_true, Nat.add_zero, Nat.zero_add, Nat.le_refl, Nat.reduceAdd, Nat.reduceLT, Nat.reduceLeDiff, Nat.zero_le, not_false_eq_true, not_true_eq_false, false_implies, implies_true, true_implies, Nat.zero_lt_succ, Nat.lt_add_one, H0, c, if_false]
    exact P
theorem c_Y_codes (P : pr_ h0 h m o bs p b dp n fa cs ks) (x : Int32) (hc : cs.length < 500) (d : Nat) : PM (d + 1) 166 [.ref m, .int x] h (fun v h' => v = none ∧ pr_ h0 h' m o bs p b dp n fa (cs ++ [x]) ks) := by
  have H0 := P.c0
  obtain ⟨f, f1, f2⟩ := P.2.1
  obtain ⟨g, g1, g2⟩ := P.2.2.1
  have v1 : vp_in (nI cs.length) 500 := vp_in_nI hc (by omega)
  have v2 : (nI cs.length).toNatClampNeg = cs.length := nI_clamp (by omega)
  have nm : ∀ (l : pmH) (q : pmC), (l.set (m + 6) q)[m]? = l[m]? := fun _ _ => hset_n (by omega)
  refine en_X12_codes rfl rfl ?_
  simp only [w_X12_codes_0, w_X12_codes_1, w_X12_codes_4, w_X12_codes_5, w_X12_codes_8, w_X12_codes_9, w_X12_codes_10, w_X12_codes_11, w_X12_codes_12, w_X12_codes_15, w_X12_codes_16, w_X12_codes_17, w_X12_codes_20, pm_1i_c, pm_2i_c, pm_1l_c, pm_2l_c, pm_1a_c, pm_ia_c, pm_iia_c, pm_va_c, pm_cp_c, pm_k0_c, pm_k1_c, pm_k2_c, pm_k3_c, pm_s1_c, pm_s2_c, pm_s3_c, pm_s4_c, pm_ri_c, pm_ra_c, pm_rn_c, pm_rk_i, pm_rk_z, pm_rk_a, pm_vk_i, pm_vk_z, pm_vk_a, pm_cti, pm_ctr, pm_ldi_z, pm_ldi_s, pm_lda_z, pm_lda_s, pm_cat_n, pm_cat_i, pm_cat_r, pm_cat_l, pm_obj, pm_arr, pm_opt, pm_ird, pm_aln, List.getElem?_cons_zero, List.getElem?_cons_succ, List.set_cons_zero, List.set_cons_succ, List.length_cons, List.length_nil, List.length_set, true_and, and_true, Nat.add_zero, Nat.zero_add, Nat.le_refl, Nat.reduceAdd, Nat.reduceLT, Nat.reduceLeDiff, Nat.zero_le, not_false_eq_true, not_true_eq_false, false_implies, implies_true, true_implies, Nat.zero_lt_succ, Nat.lt_add_one, H0, f1, v1, v2, nm, nI_1]
  refine ⟨?_, ⟨upd f cs.length x, ?_, ?_⟩, ⟨g, ?_, g2⟩, fun i a b c => ?_⟩
  · rw [hset_s, hset_n (by omega), H0]
    rw [List.length_append]
    rfl
  · rw [hset_n (by omega), hset_s, f1]
    rfl
  · intro k hk
    have hk : k < (cs ++ [x]).length := hk
    rw [List.length_append] at hk
    have hk : k < cs.length + 1 := hk
    show upd f cs.length x k = (cs ++ [x]).getD k (-1)
    rw [List.getD_eq_getElem?_getD]
    by_cases e : k = cs.length
    · rw [e, upd_e, List.getElem?_concat_length]
      rfl
    · rw [upd_n e, List.getElem?_append_left (by omega), ← List.getD_eq_getElem?_getD]
      exact f2 k (by omega)
  · rw [hset_n (by omega), hset_n (by omega)]
    exact g1
  · rw [hset_n (Ne.symm a), hset_n (Ne.symm b)]
    exact P.fr i a b c
theorem c_Y_blanks (P : pr_ h0 h m o bs p b dp n fa cs ks) (T : tap_ h0 m bs) (hp : p ≤ bs.length) (d : Nat) : PM (d + 2) 156 [.ref m] h (fun v h' => v = none ∧ pr_ h0 h' m o bs (skp bs p) (skp bs p) dp n fa cs ks) := by
  refine en_X12_blanks rfl ?_
  have L4 := T.1
  have loop : ∀ z k, bs.length - k = z → k ≤ bs.length → ∀ (g : pmH), pr_ h0 g m o bs k b dp n fa cs ks → g.length = h.length → skp bs k = skp bs p → W_X12_blanks (d + 1) (h.length + 0) 0 (fun v h' => v = none ∧ pr_ h0 h' m o bs (skp bs p) (skp bs p) dp n fa cs ks) 0 [some (.ref m)] [] g 0 := by
    intro z
    induction z with
    | zero =>
      intro k hz hk g P1 lg e
      have hb : ∀ z, atV bs k 9 10 = true ∨ atV bs k 32 32 = true → z := fun z y => by
        have := ((atV_b T.2.1 k).mp y).1
        omega
      have n1 : atV bs k 9 10 = false := by
        cases c : atV bs k 9 10 with
        | true => exact hb _ (Or.inl c)
        | false => rfl
      have n2 : atV bs k 32 32 = false := by
        cases c : atV bs k 32 32 with
        | true => exact hb _ (Or.inr c)
        | false => rfl
      have sk : skp bs k = k := beR_end isB (by omega)
      have H1 := P1.c0
      rw [w_X12_blanks_0]
      simp only [w_X12_blanks_1, w_X12_blanks_3, w_X12_blanks_5, pm_1i_c, pm_2i_c, pm_1l_c, pm_2l_c, pm_1a_c, pm_ia_c, pm_iia_c, pm_va_c, pm_cp_c, pm_k0_c, pm_k1_c, pm_k2_c, pm_k3_c, pm_s1_c, pm_s2_c, pm_s3_c, pm_s4_c, pm_ri_c, pm_ra_c, pm_rn_c, pm_rk_i, pm_rk_z, pm_rk_a, pm_vk_i, pm_vk_z, pm_vk_a, pm_cti, pm_ctr, pm_ldi_z, pm_ldi_s, pm_lda_z, pm_lda_s, pm_cat_n, pm_cat_i, pm_cat_r, pm_cat_l, pm_obj, pm_arr, pm_opt, pm_ird, pm_aln, List.getElem?_cons_zero, List.getElem?_cons_succ, List.set_cons_zero, List.set_cons_succ, List.length_cons, List.length_nil, List.length_set, true_and, and_true, Nat.add_zero, Nat.zero_add, Nat.le_refl, Nat.reduceAdd, Nat.reduceLT, Nat.reduceLeDiff, Nat.zero_le, not_false_eq_true, not_true_eq_false, false_implies, implies_true, true_implies, Nat.zero_lt_succ, Nat.lt_add_one, H1, lg]
      refine PM_use (c_Y_isAt P1 T hk 9 10 d) ?_
      rintro v g1 l1 ⟨rfl, rfl⟩
      simp only [n1, Bool.false_eq_true, if_false]
      show W_X12_blanks _ _ _ _ _ _ _ _ _
      simp only [w_X12_blanks_8, w_X12_blanks_11, w_X12_blanks_12, w_X12_blanks_14, w_X12_blanks_16, pm_1i_c, pm_2i_c, pm_1l_c, pm_2l_c, pm_1a_c, pm_ia_c, pm_iia_c, pm_va_c, pm_cp_c, pm_k0_c, pm_k1_c, pm_k2_c, pm_k3_c, pm_s1_c, pm_s2_c, pm_s3_c, pm_s4_c, pm_ri_c, pm_ra_c, pm_rn_c, pm_rk_i, pm_rk_z, pm_rk_a, pm_vk_i, pm_vk_z, pm_vk_a, pm_cti, pm_ctr, pm_ldi_z, pm_ldi_s, pm_lda_z, pm_lda_s, pm_cat_n, pm_cat_i, pm_cat_r, pm_cat_l, pm_obj, pm_arr, pm_opt, pm_ird, pm_aln, List.getElem?_cons_zero, List.getElem?_cons_succ, List.set_cons_zero, List.set_cons_succ, List.length_cons, List.length_nil, List.length_set, true_and, and_true, Nat.add_zero, Nat.zero_add, Nat.le_refl, Nat.reduceAdd, Nat.reduceLT, Nat.reduceLeDiff, Nat.zero_le, not_false_eq_true, not_true_eq_false, false_implies, implies_true, true_implies, Nat.zero_lt_succ, Nat.lt_add_one, pm_tl_n, pm_tl_s, sc_uL, H1, lg]
      refine PM_use (c_Y_isAt P1 T hk 32 32 d) ?_
      rintro v g1 l1 ⟨rfl, rfl⟩
      simp only [n2, Bool.false_eq_true, if_false]
      obtain ⟨g2, E, l2, P2⟩ := P1.uf (skp bs p) (skp bs p) dp n fa
      rw [← e, sk] at E
      show W_X12_blanks _ _ _ _ _ _ _ _ _
      simp only [w_X12_blanks_19, w_X12_blanks_35, w_X12_blanks_36, w_X12_blanks_37, w_X12_blanks_40, w_X12_blanks_43, pm_1i_c, pm_2i_c, pm_1l_c, pm_2l_c, pm_1a_c, pm_ia_c, pm_iia_c, pm_va_c, pm_cp_c, pm_k0_c, pm_k1_c, pm_k2_c, pm_k3_c, pm_s1_c, pm_s2_c, pm_s3_c, pm_s4_c, pm_ri_c, pm_ra_c, pm_rn_c, pm_rk_i, pm_rk_z, pm_rk_a, pm_vk_i, pm_vk_z, pm_vk_a, pm_cti, pm_ctr, pm_ldi_z, pm_ldi_s, pm_lda_z, pm_lda_s, pm_cat_n, pm_cat_i, pm_cat_r, pm_cat_l, pm_obj, pm_arr, pm_opt, pm_ird, pm_aln, List.getElem?_cons_zero, List.getElem?_cons_succ, List.set_cons_zero, List.set_cons_succ, List.length_cons, List.length_nil, List.length_set, true_and, and_true, Nat.add_zero, Nat.zero_add, Nat.le_refl, Nat.reduceAdd, Nat.reduceLT, Nat.reduceLeDiff, Nat.zero_le, not_false_eq_true, not_true_eq_false, false_implies, implies_true, true_implies, Nat.zero_lt_succ, Nat.lt_add_one, pm_tl_n, pm_tl_s, sc_uL, H1, lg]
      rw [E]
      exact P2
    | succ z ih =>
      intro k hz hk g P1 lg e
      have H1 := P1.c0
      obtain ⟨g2, E, l2, P2⟩ := P1.uf (k + 1) b dp n fa
      rw [w_X12_blanks_0]
      simp only [w_X12_blanks_1, w_X12_blanks_3, w_X12_blanks_5, pm_1i_c, pm_2i_c, pm_1l_c, pm_2l_c, pm_1a_c, pm_ia_c, pm_iia_c, pm_va_c, pm_cp_c, pm_k0_c, pm_k1_c, pm_k2_c, pm_k3_c, pm_s1_c, pm_s2_c, pm_s3_c, pm_s4_c, pm_ri_c, pm_ra_c, pm_rn_c, pm_rk_i, pm_rk_z, pm_rk_a, pm_vk_i, pm_vk_z, pm_vk_a, pm_cti, pm_ctr, pm_ldi_z, pm_ldi_s, pm_lda_z, pm_lda_s, pm_cat_n, pm_cat_i, pm_cat_r, pm_cat_l, pm_obj, pm_arr, pm_opt, pm_ird, pm_aln, List.getElem?_cons_zero, List.getElem?_cons_succ, List.set_cons_zero, List.set_cons_succ, List.length_cons, List.length_nil, List.length_set, true_and, and_true, Nat.add_zero, Nat.zero_add, Nat.le_refl, Nat.reduceAdd, Nat.reduceLT, Nat.reduceLeDiff, Nat.zero_le, not_false_eq_true, not_true_eq_false, false_implies, implies_true, true_implies, Nat.zero_lt_succ, Nat.lt_add_one, H1, lg]
      refine PM_use (c_Y_isAt P1 T hk 9 10 d) ?_
      rintro v g1 l1 ⟨rfl, rfl⟩
      have go : isB (bs.getD k (-1)) = true → skp bs (k + 1) = skp bs p := fun y => by
        rw [← e]
        exact (beR_in isB (by omega) y).symm
      rcases Bool.eq_false_or_eq_true (atV bs k 9 10) with c | c
      · have hb := ((atV_b T.2.1 k).mp (Or.inl c)).2
        simp only [c, if_true]
        show W_X12_blanks _ _ _ _ _ _ _ _ _
        simp only [w_X12_blanks_8, w_X12_blanks_22, w_X12_blanks_23, w_X12_blanks_24, w_X12_blanks_27, w_X12_blanks_28, w_X12_blanks_29, w_X12_blanks_32, pm_1i_c, pm_2i_c, pm_1l_c, pm_2l_c, pm_1a_c, pm_ia_c, pm_iia_c, pm_va_c, pm_cp_c, pm_k0_c, pm_k1_c, pm_k2_c, pm_k3_c, pm_s1_c, pm_s2_c, pm_s3_c, pm_s4_c, pm_ri_c, pm_ra_c, pm_rn_c, pm_rk_i, pm_rk_z, pm_rk_a, pm_vk_i, pm_vk_z, pm_vk_a, pm_cti, pm_ctr, pm_ldi_z, pm_ldi_s, pm_lda_z, pm_lda_s, pm_cat_n, pm_cat_i, pm_cat_r, pm_cat_l, pm_obj, pm_arr, pm_opt, pm_ird, pm_aln, List.getElem?_cons_zero, List.getElem?_cons_succ, List.set_cons_zero, List.set_cons_succ, List.length_cons, List.length_nil, List.length_set, true_and, and_true, Nat.add_zero, Nat.zero_add, Nat.le_refl, Nat.reduceAdd, Nat.reduceLT, Nat.reduceLeDiff, Nat.zero_le, not_false_eq_true, not_true_eq_false, false_implies, implies_true, true_implies, Nat.zero_lt_succ, Nat.lt_add_one, pm_tl_n, pm_tl_s, sc_uL, H1, lg, nI_1, show ¬ (1 : Int32) = 0 by decide]
        rw [E]
        exact ih (k + 1) (by omega) (by omega) g2 P2 (l2.trans lg) (go hb)
      · simp only [c, Bool.false_eq_true, if_false]
        show W_X12_blanks _ _ _ _ _ _ _ _ _
        simp only [w_X12_blanks_8, w_X12_blanks_11, w_X12_blanks_12, w_X12_blanks_14, w_X12_blanks_16, pm_1i_c, pm_2i_c, pm_1l_c, pm_2l_c, pm_1a_c, pm_ia_c, pm_iia_c, pm_va_c, pm_cp_c, pm_k0_c, pm_k1_c, pm_k2_c, pm_k3_c, pm_s1_c, pm_s2_c, pm_s3_c, pm_s4_c, pm_ri_c, pm_ra_c, pm_rn_c, pm_rk_i, pm_rk_z, pm_rk_a, pm_vk_i, pm_vk_z, pm_vk_a, pm_cti, pm_ctr, pm_ldi_z, pm_ldi_s, pm_lda_z, pm_lda_s, pm_cat_n, pm_cat_i, pm_cat_r, pm_cat_l, pm_obj, pm_arr, pm_opt, pm_ird, pm_aln, List.getElem?_cons_zero, List.getElem?_cons_succ, List.set_cons_zero, List.set_cons_succ, List.length_cons, List.length_nil, List.length_set, true_and, and_true, Nat.add_zero, Nat.zero_add, Nat.le_refl, Nat.reduceAdd, Nat.reduceLT, Nat.reduceLeDiff, Nat.zero_le, not_false_eq_true, not_true_eq_false, false_implies, implies_true, true_implies, Nat.zero_lt_succ, Nat.lt_add_one, pm_tl_n, pm_tl_s, sc_uL, H1, lg]
        refine PM_use (c_Y_isAt P1 T hk 32 32 d) ?_
        rintro v g1 l1 ⟨rfl, rfl⟩
        rcases Bool.eq_false_or_eq_true (atV bs k 32 32) with c2 | c2
        · have hb := ((atV_b T.2.1 k).mp (Or.inr c2)).2
          simp only [c2, if_true]
          show W_X12_blanks _ _ _ _ _ _ _ _ _
          simp only [w_X12_blanks_19, w_X12_blanks_22, w_X12_blanks_23, w_X12_blanks_24, w_X12_blanks_27, w_X12_blanks_28, w_X12_blanks_29, w_X12_blanks_32, pm_1i_c, pm_2i_c, pm_1l_c, pm_2l_c, pm_1a_c, pm_ia_c, pm_iia_c, pm_va_c, pm_cp_c, pm_k0_c, pm_k1_c, pm_k2_c, pm_k3_c, pm_s1_c, pm_s2_c, pm_s3_c, pm_s4_c, pm_ri_c, pm_ra_c, pm_rn_c, pm_rk_i, pm_rk_z, pm_rk_a, pm_vk_i, pm_vk_z, pm_vk_a, pm_cti, pm_ctr, pm_ldi_z, pm_ldi_s, pm_lda_z, pm_lda_s, pm_cat_n, pm_cat_i, pm_cat_r, pm_cat_l, pm_obj, pm_arr, pm_opt, pm_ird, pm_aln, List.getElem?_cons_zero, List.getElem?_cons_succ, List.set_cons_zero, List.set_cons_succ, List.length_cons, List.length_nil, List.length_set, true_and, and_true, Nat.add_zero, Nat.zero_add, Nat.le_refl, Nat.reduceAdd, Nat.reduceLT, Nat.reduceLeDiff, Nat.zero_le, not_false_eq_true, not_true_eq_false, false_implies, implies_true, true_implies, Nat.zero_lt_succ, Nat.lt_add_one, pm_tl_n, pm_tl_s, sc_uL, H1, lg, nI_1, show ¬ (1 : Int32) = 0 by decide]
          rw [E]
          exact ih (k + 1) (by omega) (by omega) g2 P2 (l2.trans lg) (go hb)
        · have nb : isB (bs.getD k (-1)) = false := by
            cases y : isB (bs.getD k (-1)) with
            | true =>
              rcases (atV_b T.2.1 k).mpr ⟨by omega, y⟩ with w | w
              · rw [c] at w
                cases w
              · rw [c2] at w
                cases w
            | false => rfl
          have sk : skp bs k = k := beR_out isB (by omega) nb
          simp only [c2, Bool.false_eq_true, if_false]
          obtain ⟨g3, E3, l3, P3⟩ := P1.uf (skp bs p) (skp bs p) dp n fa
          rw [← e, sk] at E3
          show W_X12_blanks _ _ _ _ _ _ _ _ _
          simp only [w_X12_blanks_19, w_X12_blanks_35, w_X12_blanks_36, w_X12_blanks_37, w_X12_blanks_40, w_X12_blanks_43, pm_1i_c, pm_2i_c, pm_1l_c, pm_2l_c, pm_1a_c, pm_ia_c, pm_iia_c, pm_va_c, pm_cp_c, pm_k0_c, pm_k1_c, pm_k2_c, pm_k3_c, pm_s1_c, pm_s2_c, pm_s3_c, pm_s4_c, pm_ri_c, pm_ra_c, pm_rn_c, pm_rk_i, pm_rk_z, pm_rk_a, pm_vk_i, pm_vk_z, pm_vk_a, pm_cti, pm_ctr, pm_ldi_z, pm_ldi_s, pm_lda_z, pm_lda_s, pm_cat_n, pm_cat_i, pm_cat_r, pm_cat_l, pm_obj, pm_arr, pm_opt, pm_ird, pm_aln, List.getElem?_cons_zero, List.getElem?_cons_succ, List.set_cons_zero, List.set_cons_succ, List.length_cons, List.length_nil, List.length_set, true_and, and_true, Nat.add_zero, Nat.zero_add, Nat.le_refl, Nat.reduceAdd, Nat.reduceLT, Nat.reduceLeDiff, Nat.zero_le, not_false_eq_true, not_true_eq_false, false_implies, implies_true, true_implies, Nat.zero_lt_succ, Nat.lt_add_one, pm_tl_n, pm_tl_s, sc_uL, H1, lg]
          rw [E3]
          exact P3
  exact loop _ p rfl hp h P rfl rfl
end MR
