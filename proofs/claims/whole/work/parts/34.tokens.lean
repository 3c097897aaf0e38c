/-! Tokens: the text cut up. -/
def isD (x : Int32) : Bool := decide (¬ x < 48 ∧ ¬ 57 < x)
def isL (x : Int32) : Bool := decide (¬ x < 97 ∧ ¬ 122 < x)
def beG (p : Int32 → Bool) (bs : List Int32) : Nat → Nat → Nat
  | 0, k => k
  | f + 1, k => if p (bs.getD k (-1)) = true then beG p bs f (k + 1) else k
def beR (p : Int32 → Bool) (bs : List Int32) (k : Nat) : Nat := beG p bs (bs.length - k) k
def nuG (bs : List Int32) : Nat → Nat → Int32 → Int32
  | 0, _, v => v
  | f + 1, k, v => nuG bs f (k + 1) (v * 10 + bs.getD k (-1) - 48)
def nuF (bs : List Int32) (a b : Nat) : Int32 := nuG bs (b - a) a 0
def wdc (k : Nat) : Int32 := nI (("cand vict hits asks out  door room key  and  or   not  ".toList.getD k 'a').toNat)
def sgF (bs : List Int32) (a b j : Nat) : Int32 := if a + j < b then bs.getD (a + j) (-1) else 32
def iwG (bs : List Int32) (w a b : Nat) : Nat → Nat → Bool
  | 0, _ => decide (b - a < 5)
  | f + 1, j => if wdc (w + j) = sgF bs a b j then iwG bs w a b f (j + 1) else false
def woG (bs : List Int32) (a b : Nat) : Nat → Nat → Int32
  | 0, _ => 268
  | f + 1, i => if iwG bs (5 * i) a b 5 0 = true then nI (256 + i) else woG bs a b f (i + 1)
def woF (bs : List Int32) (a b : Nat) : Int32 := woG bs a b 11 0
section TK
variable {h : pmH} {P : Nat} {bs : List Int32}
theorem c_T_isDigit (x : Int32) (d : Nat) : PM (d + 1) 104 [.int x] h (fun v h' => v = some (.int (if isD x then 1 else 0)) ∧ h' = h) := by
  refine en_X9_isDigit rfl ?_
  unfold isD
  by_cases c1 : x < 48
  · simp only [w_X9_isDigit_0, w_X9_isDigit_1, w_X9_isDigit_3, w_X9_isDigit_6, w_X9_isDigit_7, w_X9_isDigit_9, w_X9_isDigit_12, w_X9_isDigit_13, w_X9_isDigit_16, w_X9_isDigit_17, pm_1i_c, pm_2i_c, pm_1l_c, pm_2l_c, pm_1a_c, pm_ia_c, pm_iia_c, pm_va_c, pm_cp_c, pm_k0_c, pm_k1_c, pm_k2_c, pm_k3_c, pm_s1_c, pm_s2_c, pm_s3_c, pm_s4_c, pm_ri_c, pm_ra_c, pm_rn_c, pm_rk_i, pm_rk_z, pm_rk_a, pm_vk_i, pm_vk_z, pm_vk_a, pm_cti, pm_ctr, pm_ldi_z, pm_ldi_s, pm_lda_z, pm_lda_s, pm_cat_n, pm_cat_i, pm_cat_r, pm_cat_l, pm_obj, pm_arr, pm_opt, pm_ird, pm_aln, List.getElem?_cons_zero, List.getElem?_cons_succ, List.set_cons_zero, List.set_cons_succ, List.length_cons, List.length_nil, List.length_set, true_and, and_true, Nat.add_zero, Nat.zero_add, Nat.le_refl, Nat.reduceAdd, Nat.reduceLT, Nat.reduceLeDiff, Nat.zero_le, not_false_eq_true, not_true_eq_false, false_implies, implies_true, true_implies, Nat.zero_lt_succ, Nat.lt_add_one, c1]
    simp
  · by_cases c2 : 57 < x
    · simp only [w_X9_isDigit_0, w_X9_isDigit_1, w_X9_isDigit_3, w_X9_isDigit_6, w_X9_isDigit_7, w_X9_isDigit_9, w_X9_isDigit_12, w_X9_isDigit_13, w_X9_isDigit_16, w_X9_isDigit_17, pm_1i_c, pm_2i_c, pm_1l_c, pm_2l_c, pm_1a_c, pm_ia_c, pm_iia_c, pm_va_c, pm_cp_c, pm_k0_c, pm_k1_c, pm_k2_c, pm_k3_c, pm_s1_c, pm_s2_c, pm_s3_c, pm_s4_c, pm_ri_c, pm_ra_c, pm_rn_c, pm_rk_i, pm_rk_z, pm_rk_a, pm_vk_i, pm_vk_z, pm_vk_a, pm_cti, pm_ctr, pm_ldi_z, pm_ldi_s, pm_lda_z, pm_lda_s, pm_cat_n, pm_cat_i, pm_cat_r, pm_cat_l, pm_obj, pm_arr, pm_opt, pm_ird, pm_aln, List.getElem?_cons_zero, List.getElem?_cons_succ, List.set_cons_zero, List.set_cons_succ, List.length_cons, List.length_nil, List.length_set, true_and, and_true, Nat.add_zero, Nat.zero_add, Nat.le_refl, Nat.reduceAdd, Nat.reduceLT, Nat.reduceLeDiff, Nat.zero_le, not_false_eq_true, not_true_eq_false, false_implies, implies_true, true_implies, Nat.zero_lt_succ, Nat.lt_add_one, c1, c2]
      simp
    · simp only [w_X9_isDigit_0, w_X9_isDigit_1, w_X9_isDigit_3, w_X9_isDigit_6, w_X9_isDigit_7, w_X9_isDigit_9, w_X9_isDigit_12, w_X9_isDigit_13, w_X9_isDigit_16, w_X9_isDigit_17, pm_1i_c, pm_2i_c, pm_1l_c, pm_2l_c, pm_1a_c, pm_ia_c, pm_iia_c, pm_va_c, pm_cp_c, pm_k0_c, pm_k1_c, pm_k2_c, pm_k3_c, pm_s1_c, pm_s2_c, pm_s3_c, pm_s4_c, pm_ri_c, pm_ra_c, pm_rn_c, pm_rk_i, pm_rk_z, pm_rk_a, pm_vk_i, pm_vk_z, pm_vk_a, pm_cti, pm_ctr, pm_ldi_z, pm_ldi_s, pm_lda_z, pm_lda_s, pm_cat_n, pm_cat_i, pm_cat_r, pm_cat_l, pm_obj, pm_arr, pm_opt, pm_ird, pm_aln, List.getElem?_cons_zero, List.getElem?_cons_succ, List.set_cons_zero, List.set_cons_succ, List.length_cons, List.length_nil, List.length_set, true_and, and_true, Nat.add_zero, Nat.zero_add, Nat.le_refl, Nat.reduceAdd, Nat.reduceLT, Nat.reduceLeDiff, Nat.zero_le, not_false_eq_true, not_true_eq_false, false_implies, implies_true, true_implies, Nat.zero_lt_succ, Nat.lt_add_one, c1, c2]
      simp
theorem c_T_isLetter (x : Int32) (d : Nat) : PM (d + 1) 103 [.int x] h (fun v h' => v = some (.int (if isL x then 1 else 0)) ∧ h' = h) := by
  refine en_X9_isLetter rfl ?_
  unfold isL
  by_cases c1 : x < 97
  · simp only [w_X9_isLetter_0, w_X9_isLetter_1, w_X9_isLetter_3, w_X9_isLetter_6, w_X9_isLetter_7, w_X9_isLetter_9, w_X9_isLetter_12, w_X9_isLetter_13, w_X9_isLetter_16, w_X9_isLetter_17, pm_1i_c, pm_2i_c, pm_1l_c, pm_2l_c, pm_1a_c, pm_ia_c, pm_iia_c, pm_va_c, pm_cp_c, pm_k0_c, pm_k1_c, pm_k2_c, pm_k3_c, pm_s1_c, pm_s2_c, pm_s3_c, pm_s4_c, pm_ri_c, pm_ra_c, pm_rn_c, pm_rk_i, pm_rk_z, pm_rk_a, pm_vk_i, pm_vk_z, pm_vk_a, pm_cti, pm_ctr, pm_ldi_z, pm_ldi_s, pm_lda_z, pm_lda_s, pm_cat_n, pm_cat_i, pm_cat_r, pm_cat_l, pm_obj, pm_arr, pm_opt, pm_ird, pm_aln, List.getElem?_cons_zero, List.getElem?_cons_succ, List.set_cons_zero, List.set_cons_succ, List.length_cons, List.length_nil, List.length_set, true_and, and_true, Nat.add_zero, Nat.zero_add, Nat.le_refl, Nat.reduceAdd, Nat.reduceLT, Nat.reduceLeDiff, Nat.zero_le, not_false_eq_true, not_true_eq_false, false_implies, implies_true, true_implies, Nat.zero_lt_succ, Nat.lt_add_one, c1]
    simp
  · by_cases c2 : 122 < x
    · simp only [w_X9_isLetter_0, w_X9_isLetter_1, w_X9_isLetter_3, w_X9_isLetter_6, w_X9_isLetter_7, w_X9_isLetter_9, w_X9_isLetter_12, w_X9_isLetter_13, w_X9_isLetter_16, w_X9_isLetter_17, pm_1i_c, pm_2i_c, pm_1l_c, pm_2l_c, pm_1a_c, pm_ia_c, pm_iia_c, pm_va_c, pm_cp_c, pm_k0_c, pm_k1_c, pm_k2_c, pm_k3_c, pm_s1_c, pm_s2_c, pm_s3_c, pm_s4_c, pm_ri_c, pm_ra_c, pm_rn_c, pm_rk_i, pm_rk_z, pm_rk_a, pm_vk_i, pm_vk_z, pm_vk_a, pm_cti, pm_ctr, pm_ldi_z, pm_ldi_s, pm_lda_z, pm_lda_s, pm_cat_n, pm_cat_i, pm_cat_r, pm_cat_l, pm_obj, pm_arr, pm_opt, pm_ird, pm_aln, List.getElem?_cons_zero, List.getElem?_cons_succ, List.set_cons_zero, List.set_cons_succ, List.length_cons, List.length_nil, List.length_set, true_and, and_true, Nat.add_zero, Nat.zero_add, Nat.le_refl, Nat.reduceAdd, Nat.reduceLT, Nat.reduceLeDiff, Nat.zero_le, not_false_eq_true, not_true_eq_false, false_implies, implies_true, true_implies, Nat.zero_lt_succ, Nat.lt_add_one, c1, c2]
      simp
    · simp only [w_X9_isLetter_0, w_X9_isLetter_1, w_X9_isLetter_3, w_X9_isLetter_6, w_X9_isLetter_7, w_X9_isLetter_9, w_X9_isLetter_12, w_X9_isLetter_13, w_X9_isLetter_16, w_X9_isLetter_17, pm_1i_c, pm_2i_c, pm_1l_c, pm_2l_c, pm_1a_c, pm_ia_c, pm_iia_c, pm_va_c, pm_cp_c, pm_k0_c, pm_k1_c, pm_k2_c, pm_k3_c, pm_s1_c, pm_s2_c, pm_s3_c, pm_s4_c, pm_ri_c, pm_ra_c, pm_rn_c, pm_rk_i, pm_rk_z, pm_rk_a, pm_vk_i, pm_vk_z, pm_vk_a, pm_cti, pm_ctr, pm_ldi_z, pm_ldi_s, pm_lda_z, pm_lda_s, pm_cat_n, pm_cat_i, pm_cat_r, pm_cat_l, pm_obj, pm_arr, pm_opt, pm_ird, pm_aln, List.getElem?_cons_zero, List.getElem?_cons_succ, List.set_cons_zero, List.set_cons_succ, List.length_cons, List.length_nil, List.length_set, true_and, and_true, Nat.add_zero, Nat.zero_add, Nat.le_refl, Nat.reduceAdd, Nat.reduceLT, Nat.reduceLeDiff, Nat.zero_le, not_false_eq_true, not_true_eq_false, false_implies, implies_true, true_implies, Nat.zero_lt_succ, Nat.lt_add_one, c1, c2]
      simp
theorem beG_le (p : Int32 → Bool) (bs : List Int32) : ∀ (f k : Nat), k ≤ beG p bs f k ∧ beG p bs f k ≤ k + f
  | 0, k => ⟨Nat.le_refl _, Nat.le_refl _⟩
  | f + 1, k => by
    unfold beG
    split
    · have := beG_le p bs f (k + 1)
      omega
    · omega
theorem c_T_behindDigits (R : rw_ h P 400 bs) {a : Nat} (ha : a ≤ bs.length) (d : Nat) : PM (d + 2) 98 [.ref P, .int (nI a)] h (fun v h' => v = some (.int (nI (beR isD bs a))) ∧ h' = h) := by
  have ro := R.o
  have len := R.le
  refine en_X9_behindDigits rfl rfl ?_
  have loop : ∀ f k, f = bs.length - k → k ≤ bs.length → beG isD bs f k = beR isD bs a → W_X9_behindDigits (d + 1) (h.length + 0) 0 (fun v h' => v = some (.int (nI (beR isD bs a))) ∧ h' = h) 2 [some (.ref P), some (.int (nI a)), some (.int (nI k))] [] h 0 := by
    intro f
    induction f with
    | zero =>
      intro k hn hk e
      have e1 : ¬ nI k < nI bs.length := nI_nlt (by omega) (by omega)
      rw [w_X9_behindDigits_2]
      simp only [w_X9_behindDigits_3, w_X9_behindDigits_4, w_X9_behindDigits_7, w_X9_behindDigits_10, w_X9_behindDigits_11, w_X9_behindDigits_12, w_X9_behindDigits_15, w_X9_behindDigits_18, w_X9_behindDigits_21, w_X9_behindDigits_24, w_X9_behindDigits_27, w_X9_behindDigits_28, pm_1i_c, pm_2i_c, pm_1l_c, pm_2l_c, pm_1a_c, pm_ia_c, pm_iia_c, pm_va_c, pm_cp_c, pm_k0_c, pm_k1_c, pm_k2_c, pm_k3_c, pm_s1_c, pm_s2_c, pm_s3_c, pm_s4_c, pm_ri_c, pm_ra_c, pm_rn_c, pm_rk_i, pm_rk_z, pm_rk_a, pm_vk_i, pm_vk_z, pm_vk_a, pm_cti, pm_ctr, pm_ldi_z, pm_ldi_s, pm_lda_z, pm_lda_s, pm_cat_n, pm_cat_i, pm_cat_r, pm_cat_l, pm_obj, pm_arr, pm_opt, pm_ird, pm_aln, List.getElem?_cons_zero, List.getElem?_cons_succ, List.set_cons_zero, List.set_cons_succ, List.length_cons, List.length_nil, List.length_set, true_and, and_true, Nat.add_zero, Nat.zero_add, Nat.le_refl, Nat.reduceAdd, Nat.reduceLT, Nat.reduceLeDiff, Nat.zero_le, not_false_eq_true, not_true_eq_false, false_implies, implies_true, true_implies, Nat.zero_lt_succ, Nat.lt_add_one, ro]
      refine PM_use (c_Row_size R d) ?_
      rintro v h1 l1 ⟨rfl, rfl⟩
      show W_X9_behindDigits _ _ _ _ _ _ _ _ _
      simp only [w_X9_behindDigits_7, w_X9_behindDigits_10, w_X9_behindDigits_11, w_X9_behindDigits_12, w_X9_behindDigits_15, w_X9_behindDigits_18, w_X9_behindDigits_21, w_X9_behindDigits_24, w_X9_behindDigits_27, w_X9_behindDigits_28, pm_1i_c, pm_2i_c, pm_1l_c, pm_2l_c, pm_1a_c, pm_ia_c, pm_iia_c, pm_va_c, pm_cp_c, pm_k0_c, pm_k1_c, pm_k2_c, pm_k3_c, pm_s1_c, pm_s2_c, pm_s3_c, pm_s4_c, pm_ri_c, pm_ra_c, pm_rn_c, pm_rk_i, pm_rk_z, pm_rk_a, pm_vk_i, pm_vk_z, pm_vk_a, pm_cti, pm_ctr, pm_ldi_z, pm_ldi_s, pm_lda_z, pm_lda_s, pm_cat_n, pm_cat_i, pm_cat_r, pm_cat_l, pm_obj, pm_arr, pm_opt, pm_ird, pm_aln, List.getElem?_cons_zero, List.getElem?_cons_succ, List.set_cons_zero, List.set_cons_succ, List.length_cons, List.length_nil, List.length_set, true_and, and_true, Nat.add_zero, Nat.zero_add, Nat.le_refl, Nat.reduceAdd, Nat.reduceLT, Nat.reduceLeDiff, Nat.zero_le, not_false_eq_true, not_true_eq_false, false_implies, implies_true, true_implies, Nat.zero_lt_succ, Nat.lt_add_one, pm_tl_n, pm_tl_s, sc_uL, e1]
      rw [← e]
      rfl
    | succ f ih =>
      intro k hn hk e
      have e1 : nI k < nI bs.length := nI_lt (by omega) (by omega)
      have es : beG isD bs (f + 1) k = if isD (bs.getD k (-1)) = true then beG isD bs f (k + 1) else k := rfl
      rw [es] at e
      rw [w_X9_behindDigits_2]
      simp only [w_X9_behindDigits_3, w_X9_behindDigits_4, w_X9_behindDigits_7, w_X9_behindDigits_10, w_X9_behindDigits_11, w_X9_behindDigits_12, w_X9_behindDigits_15, w_X9_behindDigits_18, w_X9_behindDigits_21, w_X9_behindDigits_24, w_X9_behindDigits_27, w_X9_behindDigits_28, pm_1i_c, pm_2i_c, pm_1l_c, pm_2l_c, pm_1a_c, pm_ia_c, pm_iia_c, pm_va_c, pm_cp_c, pm_k0_c, pm_k1_c, pm_k2_c, pm_k3_c, pm_s1_c, pm_s2_c, pm_s3_c, pm_s4_c, pm_ri_c, pm_ra_c, pm_rn_c, pm_rk_i, pm_rk_z, pm_rk_a, pm_vk_i, pm_vk_z, pm_vk_a, pm_cti, pm_ctr, pm_ldi_z, pm_ldi_s, pm_lda_z, pm_lda_s, pm_cat_n, pm_cat_i, pm_cat_r, pm_cat_l, pm_obj, pm_arr, pm_opt, pm_ird, pm_aln, List.getElem?_cons_zero, List.getElem?_cons_succ, List.set_cons_zero, List.set_cons_succ, List.length_cons, List.length_nil, List.length_set, true_and, and_true, Nat.add_zero, Nat.zero_add, Nat.le_refl, Nat.reduceAdd, Nat.reduceLT, Nat.reduceLeDiff, Nat.zero_le, not_false_eq_true, not_true_eq_false, false_implies, implies_true, true_implies, Nat.zero_lt_succ, Nat.lt_add_one, ro]
      refine PM_use (c_Row_size R d) ?_
      rintro v h1 l1 ⟨rfl, rfl⟩
      show W_X9_behindDigits _ _ _ _ _ _ _ _ _
      simp only [w_X9_behindDigits_7, w_X9_behindDigits_10, w_X9_behindDigits_11, w_X9_behindDigits_12, w_X9_behindDigits_15, w_X9_behindDigits_18, w_X9_behindDigits_21, w_X9_behindDigits_24, w_X9_behindDigits_27, w_X9_behindDigits_28, pm_1i_c, pm_2i_c, pm_1l_c, pm_2l_c, pm_1a_c, pm_ia_c, pm_iia_c, pm_va_c, pm_cp_c, pm_k0_c, pm_k1_c, pm_k2_c, pm_k3_c, pm_s1_c, pm_s2_c, pm_s3_c, pm_s4_c, pm_ri_c, pm_ra_c, pm_rn_c, pm_rk_i, pm_rk_z, pm_rk_a, pm_vk_i, pm_vk_z, pm_vk_a, pm_cti, pm_ctr, pm_ldi_z, pm_ldi_s, pm_lda_z, pm_lda_s, pm_cat_n, pm_cat_i, pm_cat_r, pm_cat_l, pm_obj, pm_arr, pm_opt, pm_ird, pm_aln, List.getElem?_cons_zero, List.getElem?_cons_succ, List.set_cons_zero, List.set_cons_succ, List.length_cons, List.length_nil, List.length_set, true_and, and_true, Nat.add_zero, Nat.zero_add, Nat.le_refl, Nat.reduceAdd, Nat.reduceLT, Nat.reduceLeDiff, Nat.zero_le, not_false_eq_true, not_true_eq_false, false_implies, implies_true, true_implies, Nat.zero_lt_succ, Nat.lt_add_one, pm_tl_n, pm_tl_s, sc_uL, e1, ro]
      refine PM_use (c_Row_get R (nI k) d) ?_
      rintro v h1 l1 ⟨rfl, rfl⟩
      rw [rw_getN (by omega)]
      show W_X9_behindDigits _ _ _ _ _ _ _ _ _
      simp only [w_X9_behindDigits_15, w_X9_behindDigits_18, w_X9_behindDigits_21, w_X9_behindDigits_24, w_X9_behindDigits_27, w_X9_behindDigits_28, pm_1i_c, pm_2i_c, pm_1l_c, pm_2l_c, pm_1a_c, pm_ia_c, pm_iia_c, pm_va_c, pm_cp_c, pm_k0_c, pm_k1_c, pm_k2_c, pm_k3_c, pm_s1_c, pm_s2_c, pm_s3_c, pm_s4_c, pm_ri_c, pm_ra_c, pm_rn_c, pm_rk_i, pm_rk_z, pm_rk_a, pm_vk_i, pm_vk_z, pm_vk_a, pm_cti, pm_ctr, pm_ldi_z, pm_ldi_s, pm_lda_z, pm_lda_s, pm_cat_n, pm_cat_i, pm_cat_r, pm_cat_l, pm_obj, pm_arr, pm_opt, pm_ird, pm_aln, List.getElem?_cons_zero, List.getElem?_cons_succ, List.set_cons_zero, List.set_cons_succ, List.length_cons, List.length_nil, List.length_set, true_and, and_true, Nat.add_zero, Nat.zero_add, Nat.le_refl, Nat.reduceAdd, Nat.reduceLT, Nat.reduceLeDiff, Nat.zero_le, not_false_eq_true, not_true_eq_false, false_implies, implies_true, true_implies, Nat.zero_lt_succ, Nat.lt_add_one, pm_tl_n, pm_tl_s, sc_uL]
      refine PM_use (c_T_isDigit (bs.getD k (-1)) d) ?_
      rintro v h1 l1 ⟨rfl, rfl⟩
      show W_X9_behindDigits _ _ _ _ _ _ _ _ _
      simp only [w_X9_behindDigits_18, w_X9_behindDigits_21, w_X9_behindDigits_24, w_X9_behindDigits_27, w_X9_behindDigits_28, pm_1i_c, pm_2i_c, pm_1l_c, pm_2l_c, pm_1a_c, pm_ia_c, pm_iia_c, pm_va_c, pm_cp_c, pm_k0_c, pm_k1_c, pm_k2_c, pm_k3_c, pm_s1_c, pm_s2_c, pm_s3_c, pm_s4_c, pm_ri_c, pm_ra_c, pm_rn_c, pm_rk_i, pm_rk_z, pm_rk_a, pm_vk_i, pm_vk_z, pm_vk_a, pm_cti, pm_ctr, pm_ldi_z, pm_ldi_s, pm_lda_z, pm_lda_s, pm_cat_n, pm_cat_i, pm_cat_r, pm_cat_l, pm_obj, pm_arr, pm_opt, pm_ird, pm_aln, List.getElem?_cons_zero, List.getElem?_cons_succ, List.set_cons_zero, List.set_cons_succ, List.length_cons, List.length_nil, List.length_set, true_and, and_true, Nat.add_zero, Nat.zero_add, Nat.le_refl, Nat.reduceAdd, Nat.reduceLT, Nat.reduceLeDiff, Nat.zero_le, not_false_eq_true, not_true_eq_false, false_implies, implies_true, true_implies, Nat.zero_lt_succ, Nat.lt_add_one, pm_tl_n, pm_tl_s, sc_uL, nI_1]
      cases c : isD (bs.getD k (-1)) with
      | true =>
        rw [if_pos c] at e
        refine ⟨fun z => absurd z (by decide), fun _ => ih (k + 1) (by omega) (by omega) e⟩
      | false =>
        rw [if_neg (by rw [c]; decide)] at e
        refine ⟨fun _ => by rw [← e], fun z => absurd rfl z⟩
  simp only [w_X9_behindDigits_0, w_X9_behindDigits_1, pm_1i_c, pm_2i_c, pm_1l_c, pm_2l_c, pm_1a_c, pm_ia_c, pm_iia_c, pm_va_c, pm_cp_c, pm_k0_c, pm_k1_c, pm_k2_c, pm_k3_c, pm_s1_c, pm_s2_c, pm_s3_c, pm_s4_c, pm_ri_c, pm_ra_c, pm_rn_c, pm_rk_i, pm_rk_z, pm_rk_a, pm_vk_i, pm_vk_z, pm_vk_a, pm_cti, pm_ctr, pm_ldi_z, pm_ldi_s, pm_lda_z, pm_lda_s, pm_cat_n, pm_cat_i, pm_cat_r, pm_cat_l, pm_obj, pm_arr, pm_opt, pm_ird, pm_aln, List.getElem?_cons_zero, List.getElem?_cons_succ, List.set_cons_zero, List.set_cons_succ, List.length_cons, List.length_nil, List.length_set, true_and, and_true, Nat.add_zero, Nat.zero_add, Nat.le_refl, Nat.reduceAdd, Nat.reduceLT, Nat.reduceLeDiff, Nat.zero_le, not_false_eq_true, not_true_eq_false, false_implies, implies_true, true_implies, Nat.zero_lt_succ, Nat.lt_add_one]
  exact loop _ a rfl ha rfl
theorem c_T_behindLetters (R : rw_ h P 400 bs) {a : Nat} (ha : a ≤ bs.length) (d : Nat) : PM (d + 2) 99 [.ref P, .int (nI a)] h (fun v h' => v = some (.int (nI (beR isL bs a))) ∧ h' = h) := by
  have ro := R.o
  have len := R.le
  refine en_X9_behindLetters rfl rfl ?_
  have loop : ∀ f k, f = bs.length - k → k ≤ bs.length → beG isL bs f k = beR isL bs a → W_X9_behindLetters (d + 1) (h.length + 0) 0 (fun v h' => v = some (.int (nI (beR isL bs a))) ∧ h' = h) 2 [some (.ref P), some (.int (nI a)), some (.int (nI k))] [] h 0 := by
    intro f
    induction f with
    | zero =>
      intro k hn hk e
      have e1 : ¬ nI k < nI bs.length := nI_nlt (by omega) (by omega)
      rw [w_X9_behindLetters_2]
      simp only [w_X9_behindLetters_3, w_X9_behindLetters_4, w_X9_behindLetters_7, w_X9_behindLetters_10, w_X9_behindLetters_11, w_X9_behindLetters_12, w_X9_behindLetters_15, w_X9_behindLetters_18, w_X9_behindLetters_21, w_X9_behindLetters_24, w_X9_behindLetters_27, w_X9_behindLetters_28, pm_1i_c, pm_2i_c, pm_1l_c, pm_2l_c, pm_1a_c, pm_ia_c, pm_iia_c, pm_va_c, pm_cp_c, pm_k0_c, pm_k1_c, pm_k2_c, pm_k3_c, pm_s1_c, pm_s2_c, pm_s3_c, pm_s4_c, pm_ri_c, pm_ra_c, pm_rn_c, pm_rk_i, pm_rk_z, pm_rk_a, pm_vk_i, pm_vk_z, pm_vk_a, pm_cti, pm_ctr, pm_ldi_z, pm_ldi_s, pm_lda_z, pm_lda_s, pm_cat_n, pm_cat_i, pm_cat_r, pm_cat_l, pm_obj, pm_arr, pm_opt, pm_ird, pm_aln, List.getElem?_cons_zero, List.getElem?_cons_succ, List.set_cons_zero, List.set_cons_succ, List.length_cons, List.length_nil, List.length_set, true_and, and_true, Nat.add_zero, Nat.zero_add, Nat.le_refl, Nat.reduceAdd, Nat.reduceLT, Nat.reduceLeDiff, Nat.zero_le, not_false_eq_true, not_true_eq_false, false_implies, implies_true, true_implies, Nat.zero_lt_succ, Nat.lt_add_one, ro]
      refine PM_use (c_Row_size R d) ?_
      rintro v h1 l1 ⟨rfl, rfl⟩
      show W_X9_behindLetters _ _ _ _ _ _ _ _ _
      simp only [w_X9_behindLetters_7, w_X9_behindLetters_10, w_X9_behindLetters_11, w_X9_behindLetters_12, w_X9_behindLetters_15, w_X9_behindLetters_18, w_X9_behindLetters_21, w_X9_behindLetters_24, w_X9_behindLetters_27, w_X9_behindLetters_28, pm_1i_c, pm_2i_c, pm_1l_c, pm_2l_c, pm_1a_c, pm_ia_c, pm_iia_c, pm_va_c, pm_cp_c, pm_k0_c, pm_k1_c, pm_k2_c, pm_k3_c, pm_s1_c, pm_s2_c, pm_s3_c, pm_s4_c, pm_ri_c, pm_ra_c, pm_rn_c, pm_rk_i, pm_rk_z, pm_rk_a, pm_vk_i, pm_vk_z, pm_vk_a, pm_cti, pm_ctr, pm_ldi_z, pm_ldi_s, pm_lda_z, pm_lda_s, pm_cat_n, pm_cat_i, pm_cat_r, pm_cat_l, pm_obj, pm_arr, pm_opt, pm_ird, pm_aln, List.getElem?_cons_zero, List.getElem?_cons_succ, List.set_cons_zero, List.set_cons_succ, List.length_cons, List.length_nil, List.length_set, true_and, and_true, Nat.add_zero, Nat.zero_add, Nat.le_refl, Nat.reduceAdd, Nat.reduceLT, Nat.reduceLeDiff, Nat.zero_le, not_false_eq_true, not_true_eq_false, false_implies, implies_true, true_implies, Nat.zero_lt_succ, Nat.lt_add_one, pm_tl_n, pm_tl_s, sc_uL, e1]
      rw [← e]
      rfl
    | succ f ih =>
      intro k hn hk e
      have e1 : nI k < nI bs.length := nI_lt (by omega) (by omega)
      have es : beG isL bs (f + 1) k = if isL (bs.getD k (-1)) = true then beG isL bs f (k + 1) else k := rfl
      rw [es] at e
      rw [w_X9_behindLetters_2]
      simp only [w_X9_behindLetters_3, w_X9_behindLetters_4, w_X9_behindLetters_7, w_X9_behindLetters_10, w_X9_behindLetters_11, w_X9_behindLetters_12, w_X9_behindLetters_15, w_X9_behindLetters_18, w_X9_behindLetters_21, w_X9_behindLetters_24, w_X9_behindLetters_27, w_X9_behindLetters_28, pm_1i_c, pm_2i_c, pm_1l_c, pm_2l_c, pm_1a_c, pm_ia_c, pm_iia_c, pm_va_c, pm_cp_c, pm_k0_c, pm_k1_c, pm_k2_c, pm_k3_c, pm_s1_c, pm_s2_c, pm_s3_c, pm_s4_c, pm_ri_c, pm_ra_c, pm_rn_c, pm_rk_i, pm_rk_z, pm_rk_a, pm_vk_i, pm_vk_z, pm_vk_a, pm_cti, pm_ctr, pm_ldi_z, pm_ldi_s, pm_lda_z, pm_lda_s, pm_cat_n, pm_cat_i, pm_cat_r, pm_cat_l, pm_obj, pm_arr, pm_opt, pm_ird, pm_aln, List.getElem?_cons_zero, List.getElem?_cons_succ, List.set_cons_zero, List.set_cons_succ, List.length_cons, List.length_nil, List.length_set, true_and, and_true, Nat.add_zero, Nat.zero_add, Nat.le_refl, Nat.reduceAdd, Nat.reduceLT, Nat.reduceLeDiff, Nat.zero_le, not_false_eq_true, not_true_eq_false, false_implies, implies_true, true_implies, Nat.zero_lt_succ, Nat.lt_add_one, ro]
      refine PM_use (c_Row_size R d) ?_
      rintro v h1 l1 ⟨rfl, rfl⟩
      show W_X9_behindLetters _ _ _ _ _ _ _ _ _
      simp only [w_X9_behindLetters_7, w_X9_behindLetters_10, w_X9_behindLetters_11, w_X9_behindLetters_12, w_X9_behindLetters_15, w_X9_behindLetters_18, w_X9_behindLetters_21, w_X9_behindLetters_24, w_X9_behindLetters_27, w_X9_behindLetters_28, pm_1i_c, pm_2i_c, pm_1l_c, pm_2l_c, pm_1a_c, pm_ia_c, pm_iia_c, pm_va_c, pm_cp_c, pm_k0_c, pm_k1_c, pm_k2_c, pm_k3_c, pm_s1_c, pm_s2_c, pm_s3_c, pm_s4_c, pm_ri_c, pm_ra_c, pm_rn_c, pm_rk_i, pm_rk_z, pm_rk_a, pm_vk_i, pm_vk_z, pm_vk_a, pm_cti, pm_ctr, pm_ldi_z, pm_ldi_s, pm_lda_z, pm_lda_s, pm_cat_n, pm_cat_i, pm_cat_r, pm_cat_l, pm_obj, pm_arr, pm_opt, pm_ird, pm_aln, List.getElem?_cons_zero, List.getElem?_cons_succ, List.set_cons_zero, List.set_cons_succ, List.length_cons, List.length_nil, List.length_set, true_and, and_true, Nat.add_zero, Nat.zero_add, Nat.le_refl, Nat.reduceAdd, Nat.reduceLT, Nat.reduceLeDiff, Nat.zero_le, not_false_eq_true, not_true_eq_false, false_implies, implies_true, true_implies, Nat.zero_lt_succ, Nat.lt_add_one, pm_tl_n, pm_tl_s, sc_uL, e1, ro]
      refine PM_use (c_Row_get R (nI k) d) ?_
      rintro v h1 l1 ⟨rfl, rfl⟩
      rw [rw_getN (by omega)]
      show W_X9_behindLetters _ _ _ _ _ _ _ _ _
      simp only [w_X9_behindLetters_15, w_X9_behindLetters_18, w_X9_behindLetters_21, w_X9_behindLetters_24, w_X9_behindLetters_27, w_X9_behindLetters_28, pm_1i_c, pm_2i_c, pm_1l_c, pm_2l_c, pm_1a_c, pm_ia_c, pm_iia_c, pm_va_c, pm_cp_c, pm_k0_c, pm_k1_c, pm_k2_c, pm_k3_c, pm_s1_c, pm_s2_c, pm_s3_c, pm_s4_c, pm_ri_c, pm_ra_c, pm_rn_c, pm_rk_i, pm_rk_z, pm_rk_a, pm_vk_i, pm_vk_z, pm_vk_a, pm_cti, pm_ctr, pm_ldi_z, pm_ldi_s, pm_lda_z, pm_lda_s, pm_cat_n, pm_cat_i, pm_cat_r, pm_cat_l, pm_obj, pm_arr, pm_opt, pm_ird, pm_aln, List.getElem?_cons_zero, List.getElem?_cons_succ, List.set_cons_zero, List.set_cons_succ, List.length_cons, List.length_nil, List.length_set, true_and, and_true, Nat.add_zero, Nat.zero_add, Nat.le_refl, Nat.reduceAdd, Nat.reduceLT, Nat.reduceLeDiff, Nat.zero_le, not_false_eq_true, not_true_eq_false, false_implies, implies_true, true_implies, Nat.zero_lt_succ, Nat.lt_add_one, pm_tl_n, pm_tl_s, sc_uL]
      refine PM_use (c_T_isLetter (bs.getD k (-1)) d) ?_
      rintro v h1 l1 ⟨rfl, rfl⟩
      show W_X9_behindLetters _ _ _ _ _ _ _ _ _
      simp only [w_X9_behindLetters_18, w_X9_behindLetters_21, w_X9_behindLetters_24, w_X9_behindLetters_27, w_X9_behindLetters_28, pm_1i_c, pm_2i_c, pm_1l_c, pm_2l_c, pm_1a_c, pm_ia_c, pm_iia_c, pm_va_c, pm_cp_c, pm_k0_c, pm_k1_c, pm_k2_c, pm_k3_c, pm_s1_c, pm_s2_c, pm_s3_c, pm_s4_c, pm_ri_c, pm_ra_c, pm_rn_c, pm_rk_i, pm_rk_z, pm_rk_a, pm_vk_i, pm_vk_z, pm_vk_a, pm_cti, pm_ctr, pm_ldi_z, pm_ldi_s, pm_lda_z, pm_lda_s, pm_cat_n, pm_cat_i, pm_cat_r, pm_cat_l, pm_obj, pm_arr, pm_opt, pm_ird, pm_aln, List.getElem?_cons_zero, List.getElem?_cons_succ, List.set_cons_zero, List.set_cons_succ, List.length_cons, List.length_nil, List.length_set, true_and, and_true, Nat.add_zero, Nat.zero_add, Nat.le_refl, Nat.reduceAdd, Nat.reduceLT, Nat.reduceLeDiff, Nat.zero_le, not_false_eq_true, not_true_eq_false, false_implies, implies_true, true_implies, Nat.zero_lt_succ, Nat.lt_add_one, pm_tl_n, pm_tl_s, sc_uL, nI_1]
      cases c : isL (bs.getD k (-1)) with
      | true =>
        rw [if_pos c] at e
        refine ⟨fun z => absurd z (by decide), fun _ => ih (k + 1) (by omega) (by omega) e⟩
      | false =>
        rw [if_neg (by rw [c]; decide)] at e
        refine ⟨fun _ => by rw [← e], fun z => absurd rfl z⟩
  simp only [w_X9_behindLetters_0, w_X9_behindLetters_1, pm_1i_c, pm_2i_c, pm_1l_c, pm_2l_c, pm_1a_c, pm_ia_c, pm_iia_c, pm_va_c, pm_cp_c, pm_k0_c, pm_k1_c, pm_k2_c, pm_k3_c, pm_s1_c, pm_s2_c, pm_s3_c, pm_s4_c, pm_ri_c, pm_ra_c, pm_rn_c, pm_rk_i, pm_rk_z, pm_rk_a, pm_vk_i, pm_vk_z, pm_vk_a, pm_cti, pm_ctr, pm_ldi_z, pm_ldi_s, pm_lda_z, pm_lda_s, pm_cat_n, pm_cat_i, pm_cat_r, pm_cat_l, pm_obj, pm_arr, pm_opt, pm_ird, pm_aln, List.getElem?_cons_zero, List.getElem?_cons_succ, List.set_cons_zero, List.set_cons_succ, List.length_cons, List.length_nil, List.length_set, true_and, and_true, Nat.add_zero, Nat.zero_add, Nat.le_refl, Nat.reduceAdd, Nat.reduceLT, Nat.reduceLeDiff, Nat.zero_le, not_false_eq_true, not_true_eq_false, false_implies, implies_true, true_implies, Nat.zero_lt_succ, Nat.lt_add_one]
  exact loop _ a rfl ha rfl
theorem c_T_numberOf (R : rw_ h P 400 bs) {a b : Nat} (hab : a ≤ b) (hb : b ≤ 1000) (d : Nat) : PM (d + 2) 100 [.ref P, .int (nI a), .int (nI b)] h (fun v h' => v = some (.int (nuF bs a b)) ∧ h' = h) := by
  have ro := R.o
  refine en_X9_numberOf rfl rfl rfl ?_
  have loop : ∀ f k x, f = b - k → k ≤ b → nuG bs f k x = nuF bs a b → W_X9_numberOf (d + 1) (h.length + 0) 0 (fun v h' => v = some (.int (nuF bs a b)) ∧ h' = h) 5 [some (.ref P), some (.int (nI a)), some (.int (nI b)), some (.int x), some (.int (nI k))] [] h 0 := by
    intro f
    induction f with
    | zero =>
      intro k x hn hk e
      have e1 : ¬ nI k < nI b := nI_nlt (by omega) (by omega)
      rw [w_X9_numberOf_5]
      simp only [w_X9_numberOf_7, w_X9_numberOf_8, w_X9_numberOf_11, w_X9_numberOf_12, w_X9_numberOf_14, w_X9_numberOf_15, w_X9_numberOf_16, w_X9_numberOf_18, w_X9_numberOf_21, w_X9_numberOf_22, w_X9_numberOf_24, w_X9_numberOf_25, w_X9_numberOf_26, w_X9_numberOf_29, w_X9_numberOf_32, w_X9_numberOf_33, pm_1i_c, pm_2i_c, pm_1l_c, pm_2l_c, pm_1a_c, pm_ia_c, pm_iia_c, pm_va_c, pm_cp_c, pm_k0_c, pm_k1_c, pm_k2_c, pm_k3_c, pm_s1_c, pm_s2_c, pm_s3_c, pm_s4_c, pm_ri_c, pm_ra_c, pm_rn_c, pm_rk_i, pm_rk_z, pm_rk_a, pm_vk_i, pm_vk_z, pm_vk_a, pm_cti, pm_ctr, pm_ldi_z, pm_ldi_s, pm_lda_z, pm_lda_s, pm_cat_n, pm_cat_i, pm_cat_r, pm_cat_l, pm_obj, pm_arr, pm_opt, pm_ird, pm_aln, List.getElem?_cons_zero, List.getElem?_cons_succ, List.set_cons_zero, List.set_cons_succ, List.length_cons, List.length_nil, List.length_set, true_and, and_true, Nat.add_zero, Nat.zero_add, Nat.le_refl, Nat.reduceAdd, Nat.reduceLT, Nat.reduceLeDiff, Nat.zero_le, not_false_eq_true, not_true_eq_false, false_implies, implies_true, true_implies, Nat.zero_lt_succ, Nat.lt_add_one, ro, e1]
      rw [← e]
      rfl
    | succ f ih =>
      intro k x hn hk e
      have e1 : nI k < nI b := nI_lt (by omega) (by omega)
      rw [w_X9_numberOf_5]
      simp only [w_X9_numberOf_7, w_X9_numberOf_8, w_X9_numberOf_11, w_X9_numberOf_12, w_X9_numberOf_14, w_X9_numberOf_15, w_X9_numberOf_16, w_X9_numberOf_18, w_X9_numberOf_21, w_X9_numberOf_22, w_X9_numberOf_24, w_X9_numberOf_25, w_X9_numberOf_26, w_X9_numberOf_29, w_X9_numberOf_32, w_X9_numberOf_33, pm_1i_c, pm_2i_c, pm_1l_c, pm_2l_c, pm_1a_c, pm_ia_c, pm_iia_c, pm_va_c, pm_cp_c, pm_k0_c, pm_k1_c, pm_k2_c, pm_k3_c, pm_s1_c, pm_s2_c, pm_s3_c, pm_s4_c, pm_ri_c, pm_ra_c, pm_rn_c, pm_rk_i, pm_rk_z, pm_rk_a, pm_vk_i, pm_vk_z, pm_vk_a, pm_cti, pm_ctr, pm_ldi_z, pm_ldi_s, pm_lda_z, pm_lda_s, pm_cat_n, pm_cat_i, pm_cat_r, pm_cat_l, pm_obj, pm_arr, pm_opt, pm_ird, pm_aln, List.getElem?_cons_zero, List.getElem?_cons_succ, List.set_cons_zero, List.set_cons_succ, List.length_cons, List.length_nil, List.length_set, true_and, and_true, Nat.add_zero, Nat.zero_add, Nat.le_refl, Nat.reduceAdd, Nat.reduceLT, Nat.reduceLeDiff, Nat.zero_le, not_false_eq_true, not_true_eq_false, false_implies, implies_true, true_implies, Nat.zero_lt_succ, Nat.lt_add_one, ro, e1]
      refine PM_use (c_Row_get R (nI k) d) ?_
      rintro v h1 l1 ⟨rfl, rfl⟩
      rw [rw_getN (by omega)]
      show W_X9_numberOf _ _ _ _ _ _ _ _ _
      simp only [w_X9_numberOf_21, w_X9_numberOf_22, w_X9_numberOf_24, w_X9_numberOf_25, w_X9_numberOf_26, w_X9_numberOf_29, w_X9_numberOf_32, w_X9_numberOf_33, pm_1i_c, pm_2i_c, pm_1l_c, pm_2l_c, pm_1a_c, pm_ia_c, pm_iia_c, pm_va_c, pm_cp_c, pm_k0_c, pm_k1_c, pm_k2_c, pm_k3_c, pm_s1_c, pm_s2_c, pm_s3_c, pm_s4_c, pm_ri_c, pm_ra_c, pm_rn_c, pm_rk_i, pm_rk_z, pm_rk_a, pm_vk_i, pm_vk_z, pm_vk_a, pm_cti, pm_ctr, pm_ldi_z, pm_ldi_s, pm_lda_z, pm_lda_s, pm_cat_n, pm_cat_i, pm_cat_r, pm_cat_l, pm_obj, pm_arr, pm_opt, pm_ird, pm_aln, List.getElem?_cons_zero, List.getElem?_cons_succ, List.set_cons_zero, List.set_cons_succ, List.length_cons, List.length_nil, List.length_set, true_and, and_true, Nat.add_zero, Nat.zero_add, Nat.le_refl, Nat.reduceAdd, Nat.reduceLT, Nat.reduceLeDiff, Nat.zero_le, not_false_eq_true, not_true_eq_false, false_implies, implies_true, true_implies, Nat.zero_lt_succ, Nat.lt_add_one, pm_tl_n, pm_tl_s, sc_uL, nI_1]
      exact ih (k + 1) _ (by omega) (by omega) e
  simp only [w_X9_numberOf_0, w_X9_numberOf_1, w_X9_numberOf_2, w_X9_numberOf_3, pm_1i_c, pm_2i_c, pm_1l_c, pm_2l_c, pm_1a_c, pm_ia_c, pm_iia_c, pm_va_c, pm_cp_c, pm_k0_c, pm_k1_c, pm_k2_c, pm_k3_c, pm_s1_c, pm_s2_c, pm_s3_c, pm_s4_c, pm_ri_c, pm_ra_c, pm_rn_c, pm_rk_i, pm_rk_z, pm_rk_a, pm_vk_i, pm_vk_z, pm_vk_a, pm_cti, pm_ctr, pm_ldi_z, pm_ldi_s, pm_lda_z, pm_lda_s, pm_cat_n, pm_cat_i, pm_cat_r, pm_cat_l, pm_obj, pm_arr, pm_opt, pm_ird, pm_aln, List.getElem?_cons_zero, List.getElem?_cons_succ, List.set_cons_zero, List.set_cons_succ, List.length_cons, List.length_nil, List.length_set, true_and, and_true, Nat.add_zero, Nat.zero_add, Nat.le_refl, Nat.reduceAdd, Nat.reduceLT, Nat.reduceLeDiff, Nat.zero_le, not_false_eq_true, not_true_eq_false, false_implies, implies_true, true_implies, Nat.zero_lt_succ, Nat.lt_add_one]
  exact loop _ a 0 rfl hab rfl
theorem c_T_isWord (R : rw_ h P 400 bs) {w a b : Nat} (hw : w + 5 ≤ 55) (hab : a ≤ b) (hb : b ≤ 1000) (d : Nat) : PM (d + 2) 102 [.int (nI w), .ref P, .int (nI a), .int (nI b)] h (fun v h' => v = some (.int (if iwG bs w a b 5 0 then 1 else 0)) ∧ h' = h) := by
  have ro := R.o
  refine en_X9_isWord rfl rfl rfl rfl ?_
  have e0 : pm_sq 1000002 = some (RX9, 74, "cand vict hits asks out  door room key  and  or   not  ") := rfl
  have e55 : "cand vict hits asks out  door room key  and  or   not  ".length = 55 := by decide
  have loop : ∀ f j, f = 5 - j → j ≤ 5 → iwG bs w a b f j = iwG bs w a b 5 0 → ∀ x5, W_X9_isWord (d + 1) (h.length + 0) 0 (fun v h' => v = some (.int (if iwG bs w a b 5 0 then 1 else 0)) ∧ h' = h) 3 [some (.int (nI w)), some (.ref P), some (.int (nI a)), some (.int (nI b)), some (.int (nI j)), x5] [] h 0 := by
    intro f
    induction f with
    | zero =>
      intro j hn hj e x5
      have e1 : ¬ nI j < 5 := nI_nlt (b := 5) (by omega) (by omega)
      rw [w_X9_isWord_3]
      simp only [w_X9_isWord_5, w_X9_isWord_6, w_X9_isWord_9, w_X9_isWord_10, w_X9_isWord_12, w_X9_isWord_13, w_X9_isWord_15, w_X9_isWord_18, w_X9_isWord_21, w_X9_isWord_22, w_X9_isWord_24, w_X9_isWord_25, w_X9_isWord_26, w_X9_isWord_29, w_X9_isWord_30, w_X9_isWord_31, w_X9_isWord_33, w_X9_isWord_34, w_X9_isWord_37, w_X9_isWord_40, w_X9_isWord_42, w_X9_isWord_44, w_X9_isWord_46, w_X9_isWord_47, w_X9_isWord_49, w_X9_isWord_50, w_X9_isWord_53, w_X9_isWord_55, w_X9_isWord_58, w_X9_isWord_59, w_X9_isWord_60, w_X9_isWord_63, w_X9_isWord_66, w_X9_isWord_67, w_X9_isWord_68, w_X9_isWord_69, w_X9_isWord_70, w_X9_isWord_73, w_X9_isWord_74, w_X9_isWord_77, w_X9_isWord_78, pm_1i_c, pm_2i_c, pm_1l_c, pm_2l_c, pm_1a_c, pm_ia_c, pm_iia_c, pm_va_c, pm_cp_c, pm_k0_c, pm_k1_c, pm_k2_c, pm_k3_c, pm_s1_c, pm_s2_c, pm_s3_c, pm_s4_c, pm_ri_c, pm_ra_c, pm_rn_c, pm_rk_i, pm_rk_z, pm_rk_a, pm_vk_i, pm_vk_z, pm_vk_a, pm_cti, pm_ctr, pm_ldi_z, pm_ldi_s, pm_lda_z, pm_lda_s, pm_cat_n, pm_cat_i, pm_cat_r, pm_cat_l, pm_obj, pm_arr, pm_opt, pm_ird, pm_aln, List.getElem?_cons_zero, List.getElem?_cons_succ, List.set_cons_zero, List.set_cons_succ, List.length_cons, List.length_nil, List.length_set, true_and, and_true, Nat.add_zero, Nat.zero_add, Nat.le_refl, Nat.reduceAdd, Nat.reduceLT, Nat.reduceLeDiff, Nat.zero_le, not_false_eq_true, not_true_eq_false, false_implies, implies_true, true_implies, Nat.zero_lt_succ, Nat.lt_add_one, e1]
      rw [← e, pk_sub hab]
      have z : iwG bs w a b 0 j = decide (b - a < 5) := rfl
      have z2 : nI (b - a) < 5 ↔ b - a < 5 := nI_ltI (a := b - a) (b := 5) (by omega) (by omega)
      rw [z]
      refine ⟨fun c => ?_, fun c => ?_⟩
      · rw [if_neg (by rw [decide_eq_true_eq]; exact fun y => c (z2.mpr y))]
        exact ⟨Or.inl trivial, rfl⟩
      · rw [if_pos (decide_eq_true (z2.mp c))]
        exact ⟨Or.inr trivial, rfl⟩
    | succ f ih =>
      intro j hn hj e x5
      have e1 : nI j < 5 := nI_lt (b := 5) (by omega) (by omega)
      have e2 : nI (w + j) < nI 55 := nI_lt (by omega) (by omega)
      have e3 : vp_in (nI (w + j)) 55 := vp_in_nI (by omega) (by omega)
      have e4 : (nI (w + j)).toNatClampNeg = w + j := nI_clamp (by omega)
      have es : iwG bs w a b (f + 1) j = if wdc (w + j) = sgF bs a b j then iwG bs w a b f (j + 1) else false := rfl
      rw [es] at e
      have fin : ∀ x, x = sgF bs a b j → W_X9_isWord (d + 1) (h.length + 0) 0 (fun v h' => v = some (.int (if iwG bs w a b 5 0 then 1 else 0)) ∧ h' = h) 42 [some (.int (nI w)), some (.ref P), some (.int (nI a)), some (.int (nI b)), some (.int (nI j)), x5] [.int x] h 0 := by
        intro x hx
        subst hx
        simp only [w_X9_isWord_42, w_X9_isWord_44, w_X9_isWord_46, w_X9_isWord_47, w_X9_isWord_49, w_X9_isWord_50, w_X9_isWord_53, w_X9_isWord_55, w_X9_isWord_58, w_X9_isWord_59, w_X9_isWord_60, w_X9_isWord_63, pm_1i_c, pm_2i_c, pm_1l_c, pm_2l_c, pm_1a_c, pm_ia_c, pm_iia_c, pm_va_c, pm_cp_c, pm_k0_c, pm_k1_c, pm_k2_c, pm_k3_c, pm_s1_c, pm_s2_c, pm_s3_c, pm_s4_c, pm_ri_c, pm_ra_c, pm_rn_c, pm_rk_i, pm_rk_z, pm_rk_a, pm_vk_i, pm_vk_z, pm_vk_a, pm_cti, pm_ctr, pm_ldi_z, pm_ldi_s, pm_lda_z, pm_lda_s, pm_cat_n, pm_cat_i, pm_cat_r, pm_cat_l, pm_obj, pm_arr, pm_opt, pm_ird, pm_aln, List.getElem?_cons_zero, List.getElem?_cons_succ, List.set_cons_zero, List.set_cons_succ, List.length_cons, List.length_nil, List.length_set, true_and, and_true, Nat.add_zero, Nat.zero_add, Nat.le_refl, Nat.reduceAdd, Nat.reduceLT, Nat.reduceLeDiff, Nat.zero_le, not_false_eq_true, not_true_eq_false, false_implies, implies_true, true_implies, Nat.zero_lt_succ, Nat.lt_add_one, nI_add, e0, e55, e3, e4, nI_1]
        refine ⟨fun c => ?_, fun c => ?_⟩
        · rw [if_pos (show wdc (w + j) = sgF bs a b j from c)] at e
          exact ih (j + 1) (by omega) (by omega) e _
        · rw [if_neg (show ¬ wdc (w + j) = sgF bs a b j from c)] at e
          rw [← e]
          exact ⟨Or.inl trivial, rfl⟩
      rw [w_X9_isWord_3]
      simp only [w_X9_isWord_5, w_X9_isWord_6, w_X9_isWord_9, w_X9_isWord_10, w_X9_isWord_12, w_X9_isWord_13, w_X9_isWord_15, w_X9_isWord_18, w_X9_isWord_21, w_X9_isWord_22, w_X9_isWord_24, w_X9_isWord_25, w_X9_isWord_26, pm_1i_c, pm_2i_c, pm_1l_c, pm_2l_c, pm_1a_c, pm_ia_c, pm_iia_c, pm_va_c, pm_cp_c, pm_k0_c, pm_k1_c, pm_k2_c, pm_k3_c, pm_s1_c, pm_s2_c, pm_s3_c, pm_s4_c, pm_ri_c, pm_ra_c, pm_rn_c, pm_rk_i, pm_rk_z, pm_rk_a, pm_vk_i, pm_vk_z, pm_vk_a, pm_cti, pm_ctr, pm_ldi_z, pm_ldi_s, pm_lda_z, pm_lda_s, pm_cat_n, pm_cat_i, pm_cat_r, pm_cat_l, pm_obj, pm_arr, pm_opt, pm_ird, pm_aln, List.getElem?_cons_zero, List.getElem?_cons_succ, List.set_cons_zero, List.set_cons_succ, List.length_cons, List.length_nil, List.length_set, true_and, and_true, Nat.add_zero, Nat.zero_add, Nat.le_refl, Nat.reduceAdd, Nat.reduceLT, Nat.reduceLeDiff, Nat.zero_le, not_false_eq_true, not_true_eq_false, false_implies, implies_true, true_implies, Nat.zero_lt_succ, Nat.lt_add_one, e1, nI_add, e0, e55, e2]
      refine ⟨fun c => ?_, fun c => ?_⟩
      · rw [nI_ltI (by omega) (by omega)] at c
        simp only [w_X9_isWord_40, pm_1i_c, pm_2i_c, pm_1l_c, pm_2l_c, pm_1a_c, pm_ia_c, pm_iia_c, pm_va_c, pm_cp_c, pm_k0_c, pm_k1_c, pm_k2_c, pm_k3_c, pm_s1_c, pm_s2_c, pm_s3_c, pm_s4_c, pm_ri_c, pm_ra_c, pm_rn_c, pm_rk_i, pm_rk_z, pm_rk_a, pm_vk_i, pm_vk_z, pm_vk_a, pm_cti, pm_ctr, pm_ldi_z, pm_ldi_s, pm_lda_z, pm_lda_s, pm_cat_n, pm_cat_i, pm_cat_r, pm_cat_l, pm_obj, pm_arr, pm_opt, pm_ird, pm_aln, List.getElem?_cons_zero, List.getElem?_cons_succ, List.set_cons_zero, List.set_cons_succ, List.length_cons, List.length_nil, List.length_set, true_and, and_true, Nat.add_zero, Nat.zero_add, Nat.le_refl, Nat.reduceAdd, Nat.reduceLT, Nat.reduceLeDiff, Nat.zero_le, not_false_eq_true, not_true_eq_false, false_implies, implies_true, true_implies, Nat.zero_lt_succ, Nat.lt_add_one]
        exact fin 32 (by unfold sgF; rw [if_neg c])
      · rw [nI_ltI (by omega) (by omega)] at c
        simp only [w_X9_isWord_29, w_X9_isWord_30, w_X9_isWord_31, w_X9_isWord_33, w_X9_isWord_34, pm_1i_c, pm_2i_c, pm_1l_c, pm_2l_c, pm_1a_c, pm_ia_c, pm_iia_c, pm_va_c, pm_cp_c, pm_k0_c, pm_k1_c, pm_k2_c, pm_k3_c, pm_s1_c, pm_s2_c, pm_s3_c, pm_s4_c, pm_ri_c, pm_ra_c, pm_rn_c, pm_rk_i, pm_rk_z, pm_rk_a, pm_vk_i, pm_vk_z, pm_vk_a, pm_cti, pm_ctr, pm_ldi_z, pm_ldi_s, pm_lda_z, pm_lda_s, pm_cat_n, pm_cat_i, pm_cat_r, pm_cat_l, pm_obj, pm_arr, pm_opt, pm_ird, pm_aln, List.getElem?_cons_zero, List.getElem?_cons_succ, List.set_cons_zero, List.set_cons_succ, List.length_cons, List.length_nil, List.length_set, true_and, and_true, Nat.add_zero, Nat.zero_add, Nat.le_refl, Nat.reduceAdd, Nat.reduceLT, Nat.reduceLeDiff, Nat.zero_le, not_false_eq_true, not_true_eq_false, false_implies, implies_true, true_implies, Nat.zero_lt_succ, Nat.lt_add_one, nI_add, ro]
        refine PM_use (c_Row_get R (nI (a + j)) d) ?_
        rintro v h1 l1 ⟨rfl, rfl⟩
        rw [rw_getN (by omega)]
        show W_X9_isWord _ _ _ _ _ _ _ _ _
        simp only [w_X9_isWord_37, pm_1i_c, pm_2i_c, pm_1l_c, pm_2l_c, pm_1a_c, pm_ia_c, pm_iia_c, pm_va_c, pm_cp_c, pm_k0_c, pm_k1_c, pm_k2_c, pm_k3_c, pm_s1_c, pm_s2_c, pm_s3_c, pm_s4_c, pm_ri_c, pm_ra_c, pm_rn_c, pm_rk_i, pm_rk_z, pm_rk_a, pm_vk_i, pm_vk_z, pm_vk_a, pm_cti, pm_ctr, pm_ldi_z, pm_ldi_s, pm_lda_z, pm_lda_s, pm_cat_n, pm_cat_i, pm_cat_r, pm_cat_l, pm_obj, pm_arr, pm_opt, pm_ird, pm_aln, List.getElem?_cons_zero, List.getElem?_cons_succ, List.set_cons_zero, List.set_cons_succ, List.length_cons, List.length_nil, List.length_set, true_and, and_true, Nat.add_zero, Nat.zero_add, Nat.le_refl, Nat.reduceAdd, Nat.reduceLT, Nat.reduceLeDiff, Nat.zero_le, not_false_eq_true, not_true_eq_false, false_implies, implies_true, true_implies, Nat.zero_lt_succ, Nat.lt_add_one, pm_tl_n, pm_tl_s, sc_uL]
        exact fin _ (by unfold sgF; rw [if_pos c])
  simp only [w_X9_isWord_0, w_X9_isWord_1, pm_1i_c, pm_2i_c, pm_1l_c, pm_2l_c, pm_1a_c, pm_ia_c, pm_iia_c, pm_va_c, pm_cp_c, pm_k0_c, pm_k1_c, pm_k2_c, pm_k3_c, pm_s1_c, pm_s2_c, pm_s3_c, pm_s4_c, pm_ri_c, pm_ra_c, pm_rn_c, pm_rk_i, pm_rk_z, pm_rk_a, pm_vk_i, pm_vk_z, pm_vk_a, pm_cti, pm_ctr, pm_ldi_z, pm_ldi_s, pm_lda_z, pm_lda_s, pm_cat_n, pm_cat_i, pm_cat_r, pm_cat_l, pm_obj, pm_arr, pm_opt, pm_ird, pm_aln, List.getElem?_cons_zero, List.getElem?_cons_succ, List.set_cons_zero, List.set_cons_succ, List.length_cons, List.length_nil, List.length_set, true_and, and_true, Nat.add_zero, Nat.zero_add, Nat.le_refl, Nat.reduceAdd, Nat.reduceLT, Nat.reduceLeDiff, Nat.zero_le, not_false_eq_true, not_true_eq_false, false_implies, implies_true, true_implies, Nat.zero_lt_succ, Nat.lt_add_one]
  exact loop 5 0 rfl (by omega) rfl _
theorem c_T_wordOf (R : rw_ h P 400 bs) {a b : Nat} (hab : a ≤ b) (hb : b ≤ 1000) (d : Nat) : PM (d + 3) 101 [.ref P, .int (nI a), .int (nI b)] h (fun v h' => v = some (.int (woF bs a b)) ∧ h' = h) := by
  have ro := R.o
  refine en_X9_wordOf rfl rfl rfl ?_
  have e0 : pm_sq 1000002 = some (RX9, 74, "cand vict hits asks out  door room key  and  or   not  ") := rfl
  have e55 : "cand vict hits asks out  door room key  and  or   not  ".length = 55 := by decide
  have loop : ∀ f i, f = 11 - i → i ≤ 11 → woG bs a b f i = woF bs a b → W_X9_wordOf (d + 2) (h.length + 0) 0 (fun v h' => v = some (.int (woF bs a b)) ∧ h' = h) 2 [some (.ref P), some (.int (nI a)), some (.int (nI b)), some (.int (nI (5 * i)))] [] h 0 := by
    intro f
    induction f with
    | zero =>
      intro i hn hi e
      have : i = 11 := by omega
      subst this
      have e1 : nI 55 < nI (5 * 11) + 5 := by decide
      rw [w_X9_wordOf_2]
      simp only [w_X9_wordOf_3, w_X9_wordOf_4, w_X9_wordOf_5, w_X9_wordOf_7, w_X9_wordOf_10, w_X9_wordOf_13, w_X9_wordOf_14, w_X9_wordOf_15, w_X9_wordOf_16, w_X9_wordOf_17, w_X9_wordOf_20, w_X9_wordOf_23, w_X9_wordOf_26, w_X9_wordOf_27, w_X9_wordOf_28, w_X9_wordOf_29, w_X9_wordOf_30, w_X9_wordOf_31, w_X9_wordOf_34, w_X9_wordOf_37, w_X9_wordOf_40, pm_1i_c, pm_2i_c, pm_1l_c, pm_2l_c, pm_1a_c, pm_ia_c, pm_iia_c, pm_va_c, pm_cp_c, pm_k0_c, pm_k1_c, pm_k2_c, pm_k3_c, pm_s1_c, pm_s2_c, pm_s3_c, pm_s4_c, pm_ri_c, pm_ra_c, pm_rn_c, pm_rk_i, pm_rk_z, pm_rk_a, pm_vk_i, pm_vk_z, pm_vk_a, pm_cti, pm_ctr, pm_ldi_z, pm_ldi_s, pm_lda_z, pm_lda_s, pm_cat_n, pm_cat_i, pm_cat_r, pm_cat_l, pm_obj, pm_arr, pm_opt, pm_ird, pm_aln, List.getElem?_cons_zero, List.getElem?_cons_succ, List.set_cons_zero, List.set_cons_succ, List.length_cons, List.length_nil, List.length_set, true_and, and_true, Nat.add_zero, Nat.zero_add, Nat.le_refl, Nat.reduceAdd, Nat.reduceLT, Nat.reduceLeDiff, Nat.zero_le, not_false_eq_true, not_true_eq_false, false_implies, implies_true, true_implies, Nat.zero_lt_succ, Nat.lt_add_one, e0, e55, e1]
      rw [← e]
      rfl
    | succ f ih =>
      intro i hn hi e
      have e1 : ¬ nI 55 < nI (5 * i) + 5 := by
        rw [show (5 : Int32) = nI 5 from rfl, nI_add]
        exact nI_nlt (by omega) (by omega)
      have es : woG bs a b (f + 1) i = if iwG bs (5 * i) a b 5 0 = true then nI (256 + i) else woG bs a b f (i + 1) := rfl
      rw [es] at e
      have e6 : (256 : Int32) + nI (5 * i) / 5 = nI (256 + i) := by
        rw [show (5 : Int32) = nI 5 from rfl, pk_div (by omega) (by omega) (by omega), Nat.mul_div_cancel_left _ (by omega), show (256 : Int32) = nI 256 from rfl, nI_add]
      have e7 : nI (5 * i) + 5 = nI (5 * (i + 1)) := by
        rw [show (5 : Int32) = nI 5 from rfl, nI_add]
        rfl
      rw [w_X9_wordOf_2]
      simp only [w_X9_wordOf_3, w_X9_wordOf_4, w_X9_wordOf_5, w_X9_wordOf_7, w_X9_wordOf_10, w_X9_wordOf_13, w_X9_wordOf_14, w_X9_wordOf_15, w_X9_wordOf_16, w_X9_wordOf_17, w_X9_wordOf_20, w_X9_wordOf_23, w_X9_wordOf_26, w_X9_wordOf_27, w_X9_wordOf_28, w_X9_wordOf_29, w_X9_wordOf_30, w_X9_wordOf_31, w_X9_wordOf_34, w_X9_wordOf_37, w_X9_wordOf_40, pm_1i_c, pm_2i_c, pm_1l_c, pm_2l_c, pm_1a_c, pm_ia_c, pm_iia_c, pm_va_c, pm_cp_c, pm_k0_c, pm_k1_c, pm_k2_c, pm_k3_c, pm_s1_c, pm_s2_c, pm_s3_c, pm_s4_c, pm_ri_c, pm_ra_c, pm_rn_c, pm_rk_i, pm_rk_z, pm_rk_a, pm_vk_i, pm_vk_z, pm_vk_a, pm_cti, pm_ctr, pm_ldi_z, pm_ldi_s, pm_lda_z, pm_lda_s, pm_cat_n, pm_cat_i, pm_cat_r, pm_cat_l, pm_obj, pm_arr, pm_opt, pm_ird, pm_aln, List.getElem?_cons_zero, List.getElem?_cons_succ, List.set_cons_zero, List.set_cons_succ, List.length_cons, List.length_nil, List.length_set, true_and, and_true, Nat.add_zero, Nat.zero_add, Nat.le_refl, Nat.reduceAdd, Nat.reduceLT, Nat.reduceLeDiff, Nat.zero_le, not_false_eq_true, not_true_eq_false, false_implies, implies_true, true_implies, Nat.zero_lt_succ, Nat.lt_add_one, e0, e55, e1]
      refine PM_use (c_T_isWord R (w := 5 * i) (by omega) hab hb d) ?_
      rintro v h1 l1 ⟨rfl, rfl⟩
      show W_X9_wordOf _ _ _ _ _ _ _ _ _
      simp only [w_X9_wordOf_20, w_X9_wordOf_23, w_X9_wordOf_26, w_X9_wordOf_27, w_X9_wordOf_28, w_X9_wordOf_29, w_X9_wordOf_30, w_X9_wordOf_31, w_X9_wordOf_34, w_X9_wordOf_37, w_X9_wordOf_40, pm_1i_c, pm_2i_c, pm_1l_c, pm_2l_c, pm_1a_c, pm_ia_c, pm_iia_c, pm_va_c, pm_cp_c, pm_k0_c, pm_k1_c, pm_k2_c, pm_k3_c, pm_s1_c, pm_s2_c, pm_s3_c, pm_s4_c, pm_ri_c, pm_ra_c, pm_rn_c, pm_rk_i, pm_rk_z, pm_rk_a, pm_vk_i, pm_vk_z, pm_vk_a, pm_cti, pm_ctr, pm_ldi_z, pm_ldi_s, pm_lda_z, pm_lda_s, pm_cat_n, pm_cat_i, pm_cat_r, pm_cat_l, pm_obj, pm_arr, pm_opt, pm_ird, pm_aln, List.getElem?_cons_zero, List.getElem?_cons_succ, List.set_cons_zero, List.set_cons_succ, List.length_cons, List.length_nil, List.length_set, true_and, and_true, Nat.add_zero, Nat.zero_add, Nat.le_refl, Nat.reduceAdd, Nat.reduceLT, Nat.reduceLeDiff, Nat.zero_le, not_false_eq_true, not_true_eq_false, false_implies, implies_true, true_implies, Nat.zero_lt_succ, Nat.lt_add_one, pm_tl_n, pm_tl_s, sc_uL, e6, e7, show ¬ (5 : Int32) = 0 by decide]
      cases c : iwG bs (5 * i) a b 5 0 with
      | true =>
        rw [if_pos c] at e
        refine ⟨fun z => absurd z (by decide), fun _ => by rw [← e]⟩
      | false =>
        rw [if_neg (by rw [c]; decide)] at e
        refine ⟨fun _ => ih (i + 1) (by omega) (by omega) e, fun z => absurd rfl z⟩
  simp only [w_X9_wordOf_0, w_X9_wordOf_1, pm_1i_c, pm_2i_c, pm_1l_c, pm_2l_c, pm_1a_c, pm_ia_c, pm_iia_c, pm_va_c, pm_cp_c, pm_k0_c, pm_k1_c, pm_k2_c, pm_k3_c, pm_s1_c, pm_s2_c, pm_s3_c, pm_s4_c, pm_ri_c, pm_ra_c, pm_rn_c, pm_rk_i, pm_rk_z, pm_rk_a, pm_vk_i, pm_vk_z, pm_vk_a, pm_cti, pm_ctr, pm_ldi_z, pm_ldi_s, pm_lda_z, pm_lda_s, pm_cat_n, pm_cat_i, pm_cat_r, pm_cat_l, pm_obj, pm_arr, pm_opt, pm_ird, pm_aln, List.getElem?_cons_zero, List.getElem?_cons_succ, List.set_cons_zero, List.set_cons_succ, List.length_cons, List.length_nil, List.length_set, true_and, and_true, Nat.add_zero, Nat.zero_add, Nat.le_refl, Nat.reduceAdd, Nat.reduceLT, Nat.reduceLeDiff, Nat.zero_le, not_false_eq_true, not_true_eq_false, false_implies, implies_true, true_implies, Nat.zero_lt_succ, Nat.lt_add_one]
  exact loop 11 0 rfl (by omega) rfl
end TK
