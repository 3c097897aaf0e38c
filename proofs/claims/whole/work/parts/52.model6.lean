/-! AdmissionDeskModel: for how many the parts are; a hit, a contest, a miss. -/
section MG
variable {h h' : pmH} {m : Nat} {o : Nat → Int32} {A A' : AD}
def rN (A : AD) : Nat := (sc A 8).toNatClampNeg
def dN (A : AD) : Nat := (sc A 9).toNatClampNeg
def kN (A : AD) : Nat := (sc A 10).toNatClampNeg
def wN (A : AD) : Nat := max 1 (rN A * dN A / 100)
def mN (A : AD) : Nat := rN A - wN A
def sN (A : AD) : Nat := mN A * kN A / 100
def shV (A : AD) : Prop := (sc A 8 = nI (rN A) ∧ 1 ≤ rN A ∧ rN A ≤ 64) ∧ (sc A 9 = nI (dN A) ∧ 1 ≤ dN A ∧ dN A ≤ 99) ∧ sc A 10 = nI (kN A) ∧ kN A ≤ 99
theorem shV.b (V : shV A) : 1 ≤ wN A ∧ wN A ≤ rN A ∧ rN A ≤ 64 ∧ mN A ≤ 63 ∧ sN A ≤ mN A ∧ wN A + mN A = rN A := by
  obtain ⟨⟨-, a1, a2⟩, ⟨-, b1, b2⟩, -, c2⟩ := V
  have x : rN A * dN A ≤ rN A * 100 := Nat.mul_le_mul_left _ (by omega)
  have y : mN A * kN A ≤ mN A * 100 := Nat.mul_le_mul_left _ (by omega)
  have w : wN A = max 1 (rN A * dN A / 100) := rfl
  have mm : mN A = rN A - wN A := rfl
  have s : sN A = mN A * kN A / 100 := rfl
  omega
theorem shV.w (V : shV A) : wfI (sc A 8) (sc A 9) = nI (wN A) := by
  obtain ⟨⟨a0, a1, a2⟩, ⟨b0, b1, b2⟩, -, -⟩ := V
  have x : rN A * dN A ≤ 64 * 99 := Nat.mul_le_mul a2 b2
  have e : sc A 8 * sc A 9 / 100 = nI (rN A * dN A / 100) := by
    rw [a0, b0, pk_mul, show (100 : Int32) = nI 100 from rfl, pk_div (by omega) (by omega) (by omega)]
  unfold wfI wN
  rw [e]
  by_cases c : rN A * dN A / 100 < 1
  · have : nI (rN A * dN A / 100) < 1 := nI_lt (b := 1) c (by omega)
    rw [if_pos this, Nat.max_eq_left (by omega)]
    rfl
  · have : ¬ nI (rN A * dN A / 100) < 1 := nI_nlt (b := 1) (by omega) (by omega)
    rw [if_neg this, Nat.max_eq_right (by omega)]
theorem shV.mm (V : shV A) : mfI (sc A 8) (sc A 9) = nI (mN A) := by
  have b := V.b
  unfold mfI mN
  rw [V.w, V.1.1, pk_sub (by omega)]
theorem shV.s (V : shV A) : sfI (sc A 8) (sc A 9) (sc A 10) = nI (sN A) := by
  have b := V.b
  have c0 := V.2.2.1
  have c2 := V.2.2.2
  have y : mN A * kN A ≤ 63 * 99 := Nat.mul_le_mul (by omega) c2
  unfold sfI sN
  rw [V.mm, c0, pk_mul, show (100 : Int32) = nI 100 from rfl, pk_div (by omega) (by omega) (by omega)]
theorem shV.p1 (V : shV A) : pfI (sc A 8) (sc A 9) (sc A 10) 1 = nI (wN A) := V.w
theorem shV.p3 (V : shV A) : pfI (sc A 8) (sc A 9) (sc A 10) 3 = nI (sN A) := V.s
def tot (A : AD) : Nat := (li A 1).length + (li A 2).length + (li A 3).length
theorem insR_c {q : Nat} (hl : (li A q).length ≤ 64) (x : Int32) : insR A q x = uL A q (x :: li A q) := by
  unfold insR ins0
  rw [List.take_of_length_le (by rw [List.length_cons]; omega)]
/-- one number more in the row, the heap by a name -/
theorem md_.st {f : Nat → Int32} (H0 : mO h m o) (H1 : h[m + 1]? = some (.inl (0, 2195, .inl f))) (R : rep f A) {i : Nat} (hi : i < 23) {k : Nat} (hk : k = 1670 + i) (v : Int32) : ∃ h1, h.set (m + 1) (.inl (0, 2195, .inl (upd f k v))) = h1 ∧ h1.length = h.length ∧ fr1 h h1 (m + 1) ∧ mO h1 m o ∧ ∃ f1, h1[m + 1]? = some (.inl (0, 2195, .inl f1)) ∧ rep f1 (uS A i v) := by
  subst hk
  obtain ⟨⟨M0, f1, M1, MR⟩, F⟩ := md_.set H0 H1 (R.gS hi v)
  exact ⟨_, rfl, List.length_set, F, M0, f1, M1, MR⟩
theorem fnd_k {p : Nat} {key : Int32} (hm : key ∈ li A p) : ∃ k, k < (li A p).length ∧ rw_fnd (li A p) key = nI k ∧ (li A p).eraseIdx k = (li A p).erase key ∧ (li A p).getD k (-1) = key := by
  refine ⟨(li A p).idxOf key, List.idxOf_lt_length_iff.mpr hm, if_pos hm, (List.erase_eq_eraseIdx_of_idxOf rfl).symm, ?_⟩
  rw [List.getD_eq_getElem?_getD, List.getElem?_eq_getElem (List.idxOf_lt_length_iff.mpr hm)]
  exact List.getElem_idxOf _
set_option maxHeartbeats 1000000 in
theorem c_M_hits (H : md_ h m o A) (V : shV A) {p : Nat} (h1 : 1 ≤ p) (h3 : p ≤ 3) {key : Int32} (hm : key ∈ li A p) (ht : tot A ≤ 64) (hs : (li A 3).length ≤ sN A) (d : Nat) : PM (d + 4) 201 [.ref m, .int (nI p), .int key] h (fun v h' => v = none ∧ md_ h' m o (mvF (uS A 3 (sc A 3 + 1)) p key) ∧ fr1 h h' (m + 1)) := by
  have Hb := H
  obtain ⟨H0, f, H1, R⟩ := H
  have H0' := H0
  unfold mO at H0
  have s3 : f 1673 = sc A 3 := R.s (i := 3) (by omega)
  obtain ⟨g1, e1, l1, F1, M0, f1, M1, MR⟩ := md_.st H0' H1 R (i := 3) (by omega) (k := 1673) rfl (sc A 3 + 1)
  have M : md_ g1 m o (uS A 3 (sc A 3 + 1)) := ⟨M0, f1, M1, MR⟩
  have M0' := M0
  unfold mO at M0'
  obtain ⟨A0, hA0⟩ : ∃ A0, A0 = uS A 3 (sc A 3 + 1) := ⟨_, rfl⟩
  have lA : ∀ q, li A0 q = li A q := fun q => by rw [hA0]; rfl
  have V0 : shV A0 := by rw [hA0]; exact V
  have s0 : sN A0 = sN A := by rw [hA0]; rfl
  rw [← hA0] at M ⊢
  have b := V0.b
  have hm0 : key ∈ li A0 p := by rw [lA]; exact hm
  obtain ⟨k, k1, k2, k3, k4⟩ := fnd_k hm0
  unfold tot at ht
  rw [← lA, ← lA, ← lA] at ht
  rw [← lA, ← s0] at hs
  refine en_X12_hits rfl rfl rfl ?_
  simp only [w_X12_hits_0, w_X12_hits_1, w_X12_hits_4, w_X12_hits_7, w_X12_hits_8, w_X12_hits_9, w_X12_hits_10, w_X12_hits_11, w_X12_hits_12, w_X12_hits_13, w_X12_hits_14, w_X12_hits_15, w_X12_hits_16, w_X12_hits_17, pm_1i_c, pm_2i_c, pm_1l_c, pm_2l_c, pm_1a_c, pm_ia_c, pm_iia_c, pm_va_c, pm_cp_c, pm_k0_c, pm_k1_c, pm_k2_c, pm_k3_c, pm_s1_c, pm_s2_c, pm_s3_c, pm_s4_c, pm_ri_c, pm_ra_c, pm_rn_c, pm_rk_i, pm_rk_z, pm_rk_a, pm_vk_i, pm_vk_z, pm_vk_a, pm_cti, pm_ctr, pm_ldi_z, pm_ldi_s, pm_lda_z, pm_lda_s, pm_cat_n, pm_cat_i, pm_cat_r, pm_cat_l, pm_obj, pm_arr, pm_opt, pm_ird, pm_aln, List.getElem?_cons_zero, List.getElem?_cons_succ, List.set_cons_zero, List.set_cons_succ, List.length_cons, List.length_nil, List.length_set, true_and, and_true, Nat.add_zero, Nat.zero_add, Nat.le_refl, Nat.reduceAdd, Nat.reduceLT, Nat.reduceLeDiff, Nat.zero_le, not_false_eq_true, not_true_eq_false, false_implies, implies_true, true_implies, Nat.zero_lt_succ, Nat.lt_add_one, H0, H1, ix_1673, vi_1673, s3, e1, M0', l1]
  refine PM_use (c_M_indexOf M h1 h3 key d) ?_
  rintro v g2 l2 ⟨rfl, rfl⟩
  show W_X12_hits _ _ _ _ _ _ _ _ _
  simp only [w_X12_hits_20, pm_1i_c, pm_2i_c, pm_1l_c, pm_2l_c, pm_1a_c, pm_ia_c, pm_iia_c, pm_va_c, pm_cp_c, pm_k0_c, pm_k1_c, pm_k2_c, pm_k3_c, pm_s1_c, pm_s2_c, pm_s3_c, pm_s4_c, pm_ri_c, pm_ra_c, pm_rn_c, pm_rk_i, pm_rk_z, pm_rk_a, pm_vk_i, pm_vk_z, pm_vk_a, pm_cti, pm_ctr, pm_ldi_z, pm_ldi_s, pm_lda_z, pm_lda_s, pm_cat_n, pm_cat_i, pm_cat_r, pm_cat_l, pm_obj, pm_arr, pm_opt, pm_ird, pm_aln, List.getElem?_cons_zero, List.getElem?_cons_succ, List.set_cons_zero, List.set_cons_succ, List.length_cons, List.length_nil, List.length_set, true_and, and_true, Nat.add_zero, Nat.zero_add, Nat.le_refl, Nat.reduceAdd, Nat.reduceLT, Nat.reduceLeDiff, Nat.zero_le, not_false_eq_true, not_true_eq_false, false_implies, implies_true, true_implies, Nat.zero_lt_succ, Nat.lt_add_one, pm_tl_n, pm_tl_s, sc_uL, k2, M0', l1]
  refine PM_use (c_M_takesOut M h1 h3 k1 (d + 1)) ?_
  rintro v g3 l3 ⟨rfl, K1, K2⟩
  rw [k3] at K1
  rw [k4]
  have N0 := K1.1
  unfold mO at N0
  have lq : p ≤ 3 → (li A0 p).length ≤ 64 := fun _ => by
    have : p = 1 ∨ p = 2 ∨ p = 3 := by omega
    rcases this with rfl | rfl | rfl <;> omega
  have le : ((li A0 p).erase key).length = (li A0 p).length - 1 := List.length_erase_of_mem hm0
  have nz : 0 < (li A0 p).length := by omega
  have : p = 1 ∨ p = 2 ∨ p = 3 := by omega
  rcases this with rfl | rfl | rfl
  · show W_X12_hits _ _ _ _ _ _ _ _ _
    simp only [w_X12_hits_23, w_X12_hits_24, w_X12_hits_25, w_X12_hits_26, w_X12_hits_27, w_X12_hits_30, w_X12_hits_31, w_X12_hits_34, w_X12_hits_35, w_X12_hits_36, pm_1i_c, pm_2i_c, pm_1l_c, pm_2l_c, pm_1a_c, pm_ia_c, pm_iia_c, pm_va_c, pm_cp_c, pm_k0_c, pm_k1_c, pm_k2_c, pm_k3_c, pm_s1_c, pm_s2_c, pm_s3_c, pm_s4_c, pm_ri_c, pm_ra_c, pm_rn_c, pm_rk_i, pm_rk_z, pm_rk_a, pm_vk_i, pm_vk_z, pm_vk_a, pm_cti, pm_ctr, pm_ldi_z, pm_ldi_s, pm_lda_z, pm_lda_s, pm_cat_n, pm_cat_i, pm_cat_r, pm_cat_l, pm_obj, pm_arr, pm_opt, pm_ird, pm_aln, List.getElem?_cons_zero, List.getElem?_cons_succ, List.set_cons_zero, List.set_cons_succ, List.length_cons, List.length_nil, List.length_set, true_and, and_true, Nat.add_zero, Nat.zero_add, Nat.le_refl, Nat.reduceAdd, Nat.reduceLT, Nat.reduceLeDiff, Nat.zero_le, not_false_eq_true, not_true_eq_false, false_implies, implies_true, true_implies, Nat.zero_lt_succ, Nat.lt_add_one, pm_tl_n, pm_tl_s, sc_uL, N0, l1, l3, show nI 1 = 1 from rfl]
    have K1' : md_ g3 m o (uL A0 1 ((li A0 1).erase key)) := K1
    have T := c_M_toFront (A := uL A0 1 ((li A0 1).erase key)) K1' (p := 1) (by omega) (by omega) (by rw [li_same]; omega) key (d + 1)
    refine PM_use (T) ?_
    rintro v g4 l4 ⟨rfl, T1, T2⟩
    show W_X12_hits _ _ _ _ _ _ _ _ _
    simp only [w_X12_hits_39, w_X12_hits_40, w_X12_hits_41, w_X12_hits_44, w_X12_hits_45, w_X12_hits_46, w_X12_hits_49, w_X12_hits_50, w_X12_hits_51, w_X12_hits_54, w_X12_hits_57, w_X12_hits_58, w_X12_hits_59, w_X12_hits_60, w_X12_hits_61, w_X12_hits_64, w_X12_hits_67, pm_1i_c, pm_2i_c, pm_1l_c, pm_2l_c, pm_1a_c, pm_ia_c, pm_iia_c, pm_va_c, pm_cp_c, pm_k0_c, pm_k1_c, pm_k2_c, pm_k3_c, pm_s1_c, pm_s2_c, pm_s3_c, pm_s4_c, pm_ri_c, pm_ra_c, pm_rn_c, pm_rk_i, pm_rk_z, pm_rk_a, pm_vk_i, pm_vk_z, pm_vk_a, pm_cti, pm_ctr, pm_ldi_z, pm_ldi_s, pm_lda_z, pm_lda_s, pm_cat_n, pm_cat_i, pm_cat_r, pm_cat_l, pm_obj, pm_arr, pm_opt, pm_ird, pm_aln, List.getElem?_cons_zero, List.getElem?_cons_succ, List.set_cons_zero, List.set_cons_succ, List.length_cons, List.length_nil, List.length_set, true_and, and_true, Nat.add_zero, Nat.zero_add, Nat.le_refl, Nat.reduceAdd, Nat.reduceLT, Nat.reduceLeDiff, Nat.zero_le, not_false_eq_true, not_true_eq_false, false_implies, implies_true, true_implies, Nat.zero_lt_succ, Nat.lt_add_one, pm_tl_n, pm_tl_s, sc_uL, l1, l3, l4, show ¬ (1 : Int32) = 2 by decide]
    rw [show mvF A0 1 key = mvE (insR (uL A0 1 ((li A0 1).erase key)) 1 key) from rfl, insR_c (by rw [li_same]; omega)]
    unfold mvE
    rw [if_neg]
    · exact ⟨T1, (F1.tr K2).tr T2⟩
    · show ¬ sfI (sc A0 8) (sc A0 9) (sc A0 10) < nI (li A0 3).length
      rw [V0.s]
      exact nI_nlt hs (by omega)
  · show W_X12_hits _ _ _ _ _ _ _ _ _
    simp only [w_X12_hits_23, w_X12_hits_24, w_X12_hits_25, w_X12_hits_26, w_X12_hits_27, w_X12_hits_30, w_X12_hits_31, w_X12_hits_34, w_X12_hits_35, w_X12_hits_36, pm_1i_c, pm_2i_c, pm_1l_c, pm_2l_c, pm_1a_c, pm_ia_c, pm_iia_c, pm_va_c, pm_cp_c, pm_k0_c, pm_k1_c, pm_k2_c, pm_k3_c, pm_s1_c, pm_s2_c, pm_s3_c, pm_s4_c, pm_ri_c, pm_ra_c, pm_rn_c, pm_rk_i, pm_rk_z, pm_rk_a, pm_vk_i, pm_vk_z, pm_vk_a, pm_cti, pm_ctr, pm_ldi_z, pm_ldi_s, pm_lda_z, pm_lda_s, pm_cat_n, pm_cat_i, pm_cat_r, pm_cat_l, pm_obj, pm_arr, pm_opt, pm_ird, pm_aln, List.getElem?_cons_zero, List.getElem?_cons_succ, List.set_cons_zero, List.set_cons_succ, List.length_cons, List.length_nil, List.length_set, true_and, and_true, Nat.add_zero, Nat.zero_add, Nat.le_refl, Nat.reduceAdd, Nat.reduceLT, Nat.reduceLeDiff, Nat.zero_le, not_false_eq_true, not_true_eq_false, false_implies, implies_true, true_implies, Nat.zero_lt_succ, Nat.lt_add_one, pm_tl_n, pm_tl_s, sc_uL, N0, l1, l3, show nI 2 = 2 from rfl, show ¬ (2 : Int32) = 1 by decide]
    have K1' : md_ g3 m o (uL A0 2 ((li A0 2).erase key)) := K1
    have T := c_M_toFront (A := uL A0 2 ((li A0 2).erase key)) K1' (p := 3) (by omega) (by omega) (show (li A0 3).length ≤ 65 by omega) key (d + 1)
    refine PM_use (T) ?_
    rintro v g4 l4 ⟨rfl, T1, T2⟩
    have Q0 := T1.1
    unfold mO at Q0
    have T1' : md_ g4 m o (uL (uL A0 2 ((li A0 2).erase key)) 3 (key :: li A0 3)) := T1
    obtain ⟨B, hB⟩ : ∃ B, B = uL (uL A0 2 ((li A0 2).erase key)) 3 (key :: li A0 3) := ⟨_, rfl⟩
    have eB : insR (uL A0 2 ((li A0 2).erase key)) 3 key = B := by
      rw [insR_c (A := uL A0 2 ((li A0 2).erase key)) (q := 3) (show (li A0 3).length ≤ 64 by omega), hB]
      rfl
    have lB3 : (li B 3).length = (li A0 3).length + 1 := by rw [hB]; rfl
    have lB2 : (li B 2).length = (li A0 2).length - 1 := by rw [hB]; exact le
    have VB : shV B := by rw [hB]; exact V0
    rw [← hB] at T1'
    show W_X12_hits _ _ _ _ _ _ _ _ _
    simp only [w_X12_hits_39, w_X12_hits_40, w_X12_hits_41, w_X12_hits_44, w_X12_hits_45, w_X12_hits_46, pm_1i_c, pm_2i_c, pm_1l_c, pm_2l_c, pm_1a_c, pm_ia_c, pm_iia_c, pm_va_c, pm_cp_c, pm_k0_c, pm_k1_c, pm_k2_c, pm_k3_c, pm_s1_c, pm_s2_c, pm_s3_c, pm_s4_c, pm_ri_c, pm_ra_c, pm_rn_c, pm_rk_i, pm_rk_z, pm_rk_a, pm_vk_i, pm_vk_z, pm_vk_a, pm_cti, pm_ctr, pm_ldi_z, pm_ldi_s, pm_lda_z, pm_lda_s, pm_cat_n, pm_cat_i, pm_cat_r, pm_cat_l, pm_obj, pm_arr, pm_opt, pm_ird, pm_aln, List.getElem?_cons_zero, List.getElem?_cons_succ, List.set_cons_zero, List.set_cons_succ, List.length_cons, List.length_nil, List.length_set, true_and, and_true, Nat.add_zero, Nat.zero_add, Nat.le_refl, Nat.reduceAdd, Nat.reduceLT, Nat.reduceLeDiff, Nat.zero_le, not_false_eq_true, not_true_eq_false, false_implies, implies_true, true_implies, Nat.zero_lt_succ, Nat.lt_add_one, pm_tl_n, pm_tl_s, sc_uL, l1, l3, l4, Q0]
    refine PM_use (c_M_many T1' (p := 3) (by omega) (by omega) (d + 1)) ?_
    rintro v g5 l5 ⟨rfl, rfl⟩
    show W_X12_hits _ _ _ _ _ _ _ _ _
    simp only [w_X12_hits_49, w_X12_hits_50, w_X12_hits_51, pm_1i_c, pm_2i_c, pm_1l_c, pm_2l_c, pm_1a_c, pm_ia_c, pm_iia_c, pm_va_c, pm_cp_c, pm_k0_c, pm_k1_c, pm_k2_c, pm_k3_c, pm_s1_c, pm_s2_c, pm_s3_c, pm_s4_c, pm_ri_c, pm_ra_c, pm_rn_c, pm_rk_i, pm_rk_z, pm_rk_a, pm_vk_i, pm_vk_z, pm_vk_a, pm_cti, pm_ctr, pm_ldi_z, pm_ldi_s, pm_lda_z, pm_lda_s, pm_cat_n, pm_cat_i, pm_cat_r, pm_cat_l, pm_obj, pm_arr, pm_opt, pm_ird, pm_aln, List.getElem?_cons_zero, List.getElem?_cons_succ, List.set_cons_zero, List.set_cons_succ, List.length_cons, List.length_nil, List.length_set, true_and, and_true, Nat.add_zero, Nat.zero_add, Nat.le_refl, Nat.reduceAdd, Nat.reduceLT, Nat.reduceLeDiff, Nat.zero_le, not_false_eq_true, not_true_eq_false, false_implies, implies_true, true_implies, Nat.zero_lt_succ, Nat.lt_add_one, pm_tl_n, pm_tl_s, sc_uL, l1, l3, l4, Q0]
    refine PM_use (c_M_isFor T1' 3 (d + 2)) ?_
    rintro v g5 l5 ⟨rfl, rfl⟩
    rw [show mvF A0 2 key = mvE (insR (uL A0 2 ((li A0 2).erase key)) 3 key) from rfl, eB]
    rw [VB.p3]
    have mE : mvE B = if nI (sN B) < nI (li B 3).length then mvD B 3 else B := by
      unfold mvE
      rw [VB.s]
    rw [mE]
    by_cases c : nI (sN B) < nI (li B 3).length
    · rw [if_pos c]
      show W_X12_hits _ _ _ _ _ _ _ _ _
      simp only [w_X12_hits_54, w_X12_hits_57, w_X12_hits_58, w_X12_hits_59, w_X12_hits_60, w_X12_hits_61, pm_1i_c, pm_2i_c, pm_1l_c, pm_2l_c, pm_1a_c, pm_ia_c, pm_iia_c, pm_va_c, pm_cp_c, pm_k0_c, pm_k1_c, pm_k2_c, pm_k3_c, pm_s1_c, pm_s2_c, pm_s3_c, pm_s4_c, pm_ri_c, pm_ra_c, pm_rn_c, pm_rk_i, pm_rk_z, pm_rk_a, pm_vk_i, pm_vk_z, pm_vk_a, pm_cti, pm_ctr, pm_ldi_z, pm_ldi_s, pm_lda_z, pm_lda_s, pm_cat_n, pm_cat_i, pm_cat_r, pm_cat_l, pm_obj, pm_arr, pm_opt, pm_ird, pm_aln, List.getElem?_cons_zero, List.getElem?_cons_succ, List.set_cons_zero, List.set_cons_succ, List.length_cons, List.length_nil, List.length_set, true_and, and_true, Nat.add_zero, Nat.zero_add, Nat.le_refl, Nat.reduceAdd, Nat.reduceLT, Nat.reduceLeDiff, Nat.zero_le, not_false_eq_true, not_true_eq_false, false_implies, implies_true, true_implies, Nat.zero_lt_succ, Nat.lt_add_one, pm_tl_n, pm_tl_s, sc_uL, l1, l3, l4, Q0, c]
      refine PM_use (c_M_takesLast T1' (p := 3) (by omega) (by omega) (by omega) d) ?_
      rintro v g6 l6 ⟨rfl, U1, U2⟩
      have P0 := U1.1
      unfold mO at P0
      show W_X12_hits _ _ _ _ _ _ _ _ _
      simp only [w_X12_hits_64, pm_1i_c, pm_2i_c, pm_1l_c, pm_2l_c, pm_1a_c, pm_ia_c, pm_iia_c, pm_va_c, pm_cp_c, pm_k0_c, pm_k1_c, pm_k2_c, pm_k3_c, pm_s1_c, pm_s2_c, pm_s3_c, pm_s4_c, pm_ri_c, pm_ra_c, pm_rn_c, pm_rk_i, pm_rk_z, pm_rk_a, pm_vk_i, pm_vk_z, pm_vk_a, pm_cti, pm_ctr, pm_ldi_z, pm_ldi_s, pm_lda_z, pm_lda_s, pm_cat_n, pm_cat_i, pm_cat_r, pm_cat_l, pm_obj, pm_arr, pm_opt, pm_ird, pm_aln, List.getElem?_cons_zero, List.getElem?_cons_succ, List.set_cons_zero, List.set_cons_succ, List.length_cons, List.length_nil, List.length_set, true_and, and_true, Nat.add_zero, Nat.zero_add, Nat.le_refl, Nat.reduceAdd, Nat.reduceLT, Nat.reduceLeDiff, Nat.zero_le, not_false_eq_true, not_true_eq_false, false_implies, implies_true, true_implies, Nat.zero_lt_succ, Nat.lt_add_one, pm_tl_n, pm_tl_s, sc_uL, l1, l3, l4, l6, P0]
      have T2' := c_M_toFront (A := drpR B 3) U1 (p := 2) (by omega) (by omega) (show (li B 2).length ≤ 65 by omega) ((li B 3).getLastD (-1)) (d + 1)
      refine PM_use (T2') ?_
      rintro v g7 l7 ⟨rfl, X1, X2⟩
      show W_X12_hits _ _ _ _ _ _ _ _ _
      simp only [w_X12_hits_67, pm_1i_c, pm_2i_c, pm_1l_c, pm_2l_c, pm_1a_c, pm_ia_c, pm_iia_c, pm_va_c, pm_cp_c, pm_k0_c, pm_k1_c, pm_k2_c, pm_k3_c, pm_s1_c, pm_s2_c, pm_s3_c, pm_s4_c, pm_ri_c, pm_ra_c, pm_rn_c, pm_rk_i, pm_rk_z, pm_rk_a, pm_vk_i, pm_vk_z, pm_vk_a, pm_cti, pm_ctr, pm_ldi_z, pm_ldi_s, pm_lda_z, pm_lda_s, pm_cat_n, pm_cat_i, pm_cat_r, pm_cat_l, pm_obj, pm_arr, pm_opt, pm_ird, pm_aln, List.getElem?_cons_zero, List.getElem?_cons_succ, List.set_cons_zero, List.set_cons_succ, List.length_cons, List.length_nil, List.length_set, true_and, and_true, Nat.add_zero, Nat.zero_add, Nat.le_refl, Nat.reduceAdd, Nat.reduceLT, Nat.reduceLeDiff, Nat.zero_le, not_false_eq_true, not_true_eq_false, false_implies, implies_true, true_implies, Nat.zero_lt_succ, Nat.lt_add_one, pm_tl_n, pm_tl_s, sc_uL, l1, l3, l4, l6, l7]
      have e : mvD B 3 = uL (drpR B 3) 2 ((li B 3).getLastD (-1) :: li (drpR B 3) 2) := insR_c (A := drpR B 3) (q := 2) (show (li B 2).length ≤ 64 by omega) _
      rw [e]
      exact ⟨X1, (((F1.tr K2).tr T2).tr U2).tr X2⟩
    · rw [if_neg c]
      show W_X12_hits _ _ _ _ _ _ _ _ _
      simp only [w_X12_hits_54, w_X12_hits_67, pm_1i_c, pm_2i_c, pm_1l_c, pm_2l_c, pm_1a_c, pm_ia_c, pm_iia_c, pm_va_c, pm_cp_c, pm_k0_c, pm_k1_c, pm_k2_c, pm_k3_c, pm_s1_c, pm_s2_c, pm_s3_c, pm_s4_c, pm_ri_c, pm_ra_c, pm_rn_c, pm_rk_i, pm_rk_z, pm_rk_a, pm_vk_i, pm_vk_z, pm_vk_a, pm_cti, pm_ctr, pm_ldi_z, pm_ldi_s, pm_lda_z, pm_lda_s, pm_cat_n, pm_cat_i, pm_cat_r, pm_cat_l, pm_obj, pm_arr, pm_opt, pm_ird, pm_aln, List.getElem?_cons_zero, List.getElem?_cons_succ, List.set_cons_zero, List.set_cons_succ, List.length_cons, List.length_nil, List.length_set, true_and, and_true, Nat.add_zero, Nat.zero_add, Nat.le_refl, Nat.reduceAdd, Nat.reduceLT, Nat.reduceLeDiff, Nat.zero_le, not_false_eq_true, not_true_eq_false, false_implies, implies_true, true_implies, Nat.zero_lt_succ, Nat.lt_add_one, pm_tl_n, pm_tl_s, sc_uL, l1, l3, l4, Q0, c]
      exact ⟨T1', (F1.tr K2).tr T2⟩
  · show W_X12_hits _ _ _ _ _ _ _ _ _
    simp only [w_X12_hits_23, w_X12_hits_24, w_X12_hits_25, w_X12_hits_26, w_X12_hits_27, w_X12_hits_30, w_X12_hits_31, w_X12_hits_34, w_X12_hits_35, w_X12_hits_36, pm_1i_c, pm_2i_c, pm_1l_c, pm_2l_c, pm_1a_c, pm_ia_c, pm_iia_c, pm_va_c, pm_cp_c, pm_k0_c, pm_k1_c, pm_k2_c, pm_k3_c, pm_s1_c, pm_s2_c, pm_s3_c, pm_s4_c, pm_ri_c, pm_ra_c, pm_rn_c, pm_rk_i, pm_rk_z, pm_rk_a, pm_vk_i, pm_vk_z, pm_vk_a, pm_cti, pm_ctr, pm_ldi_z, pm_ldi_s, pm_lda_z, pm_lda_s, pm_cat_n, pm_cat_i, pm_cat_r, pm_cat_l, pm_obj, pm_arr, pm_opt, pm_ird, pm_aln, List.getElem?_cons_zero, List.getElem?_cons_succ, List.set_cons_zero, List.set_cons_succ, List.length_cons, List.length_nil, List.length_set, true_and, and_true, Nat.add_zero, Nat.zero_add, Nat.le_refl, Nat.reduceAdd, Nat.reduceLT, Nat.reduceLeDiff, Nat.zero_le, not_false_eq_true, not_true_eq_false, false_implies, implies_true, true_implies, Nat.zero_lt_succ, Nat.lt_add_one, pm_tl_n, pm_tl_s, sc_uL, N0, l1, l3, show nI 3 = 3 from rfl, show ¬ (3 : Int32) = 1 by decide]
    have K1' : md_ g3 m o (uL A0 3 ((li A0 3).erase key)) := K1
    have T := c_M_toFront (A := uL A0 3 ((li A0 3).erase key)) K1' (p := 3) (by omega) (by omega) (by rw [li_same]; omega) key (d + 1)
    refine PM_use (T) ?_
    rintro v g4 l4 ⟨rfl, T1, T2⟩
    show W_X12_hits _ _ _ _ _ _ _ _ _
    simp only [w_X12_hits_39, w_X12_hits_40, w_X12_hits_41, w_X12_hits_44, w_X12_hits_45, w_X12_hits_46, w_X12_hits_49, w_X12_hits_50, w_X12_hits_51, w_X12_hits_54, w_X12_hits_57, w_X12_hits_58, w_X12_hits_59, w_X12_hits_60, w_X12_hits_61, w_X12_hits_64, w_X12_hits_67, pm_1i_c, pm_2i_c, pm_1l_c, pm_2l_c, pm_1a_c, pm_ia_c, pm_iia_c, pm_va_c, pm_cp_c, pm_k0_c, pm_k1_c, pm_k2_c, pm_k3_c, pm_s1_c, pm_s2_c, pm_s3_c, pm_s4_c, pm_ri_c, pm_ra_c, pm_rn_c, pm_rk_i, pm_rk_z, pm_rk_a, pm_vk_i, pm_vk_z, pm_vk_a, pm_cti, pm_ctr, pm_ldi_z, pm_ldi_s, pm_lda_z, pm_lda_s, pm_cat_n, pm_cat_i, pm_cat_r, pm_cat_l, pm_obj, pm_arr, pm_opt, pm_ird, pm_aln, List.getElem?_cons_zero, List.getElem?_cons_succ, List.set_cons_zero, List.set_cons_succ, List.length_cons, List.length_nil, List.length_set, true_and, and_true, Nat.add_zero, Nat.zero_add, Nat.le_refl, Nat.reduceAdd, Nat.reduceLT, Nat.reduceLeDiff, Nat.zero_le, not_false_eq_true, not_true_eq_false, false_implies, implies_true, true_implies, Nat.zero_lt_succ, Nat.lt_add_one, pm_tl_n, pm_tl_s, sc_uL, l1, l3, l4, show ¬ (3 : Int32) = 2 by decide]
    rw [show mvF A0 3 key = mvE (insR (uL A0 3 ((li A0 3).erase key)) 3 key) from rfl, insR_c (by rw [li_same]; omega)]
    unfold mvE
    rw [if_neg]
    · exact ⟨T1, (F1.tr K2).tr T2⟩
    · show ¬ sfI (sc A0 8) (sc A0 9) (sc A0 10) < nI (key :: li (uL A0 3 ((li A0 3).erase key)) 3).length
      rw [V0.s, List.length_cons, li_same]
      exact nI_nlt (by omega) (by omega)
end MG
