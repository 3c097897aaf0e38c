/-! TraceReader: ranges, groups, the whole text. -/
def itB (K N : List Int32) (top : Bool) (E : XZ → XZ) (start : Int32) (s : XZ) : XZ := if kiF K s.1 = 40 ∧ top = true then xFa start s else if taB K 40 s.1 = true then rpF K N s.2.length start (xNd K 41 (E (xTk K 40 s))) else rrF K N start s
def itF (K N : List Int32) (top : Bool) (E : XZ → XZ) (s : XZ) : XZ := itB K N top E (nI s.1.1) s
def imG (K : List Int32) (A : XZ → XZ) : Nat → XZ → XZ
  | 0, s => s
  | f + 1, s => if kiF K s.1 = 267 ∨ kiF K s.1 = 40 then imG K A f (A s) else s
theorem imG_s (K : List Int32) (A : XZ → XZ) (f : Nat) (s : XZ) : imG K A (f + 1) s = if kiF K s.1 = 267 ∨ kiF K s.1 = 40 then imG K A f (A s) else s := rfl
def imF (K : List Int32) (A : XZ → XZ) (s : XZ) : XZ := imG K A 400 (A s)
def XE (K N : List Int32) : Nat → XZ → XZ
  | 0 => imF K (itF K N true id)
  | e + 1 => imF K (itF K N false (XE K N e))
/-- keys only come in -/
def grw (A : XZ → XZ) : Prop := ∀ s, s.2 <+: (A s).2
theorem ftF_k {more start : Int32} {s : XZ} : (ftF more start s).2 = s.2 := by
  unfold ftF
  split <;> rfl
theorem fuF_k {b : Bool} {s : XZ} : (fuF b s).2 = s.2 := by
  unfold fuF
  split <;> rfl
theorem rtF_k {K N : List Int32} {s : XZ} : (rtF K N s).2.2 = s.2 := by
  unfold rtF
  split
  · exact fuF_k
  · rfl
theorem rlF_k {K N : List Int32} {f : Int32} {s : XZ} : (rlF K N f s).2.2 = s.2 := by
  unfold rlF
  split
  · exact fuF_k
  · rfl
theorem rrF_g {K N : List Int32} {start : Int32} : grw (rrF K N start) := by
  intro s
  unfold rrF rrB rrC
  split
  · unfold xAp
    rw [ftF_k, rtF_k, rlF_k]
    exact List.prefix_append _ _
  · rw [ftF_k, rtF_k, rlF_k]
    exact List.prefix_refl _
theorem rpF_g {K N : List Int32} {b : Nat} {start : Int32} : grw (rpF K N b start) := by
  intro s
  unfold rpF rpC
  split
  · unfold xAp
    rw [ftF_k, rtF_k]
    exact List.prefix_append _ _
  · rw [ftF_k, rtF_k]
    exact List.prefix_refl _
theorem itF_g {K N : List Int32} {top : Bool} {E : XZ → XZ} (h : grw E) : grw (itF K N top E) := by
  intro s
  unfold itF itB
  split
  · exact List.prefix_refl _
  · split
    · exact (h (xTk K 40 s)).trans (rpF_g (xNd K 41 (E (xTk K 40 s))))
    · exact rrF_g s
theorem imG_g {K : List Int32} {A : XZ → XZ} (h : grw A) : ∀ f, grw (imG K A f)
  | 0, s => List.prefix_refl _
  | f + 1, s => by
    rw [imG_s]
    split
    · exact (h s).trans (imG_g h f (A s))
    · exact List.prefix_refl _
theorem XE_g (K N : List Int32) : ∀ e, grw (XE K N e)
  | 0 => fun s => (itF_g (E := id) (fun s => List.prefix_refl _) s).trans (imG_g (itF_g (fun s => List.prefix_refl _)) 400 _)
  | e + 1 => fun s => (itF_g (XE_g K N e) s).trans (imG_g (itF_g (XE_g K N e)) 400 _)
theorem fuF_ix {b : Bool} {s : XZ} {n : Nat} (h : s.1.1 ≤ n) : (fuF b s).1.1 ≤ n := by
  unfold fuF
  split
  · exact h
  · exact faF_ix h
section XS
variable {h h' : pmH} {R : Nat} {t : TS} {tb : Int32} {s : XZ}
set_option maxHeartbeats 2000000 in
theorem c_X_readRange (L : tr_ h R t tb s) (V : NV t.1 t.2.2) (start : Int32) (hst : start ≠ -1) (d : Nat) : PM (d + 4) 116 [.ref R, .int start] h (fun v h' => v = none ∧ tr_ h' R t tb (rrF t.1 t.2.2 start s) ∧ frX h h' R) := by
  have ro := L.o
  have to := L.to
  refine en_X10_readRange rfl rfl ?_
  obtain ⟨Z, hZ⟩ : ∃ Z, Z = rrF t.1 t.2.2 start s := ⟨_, rfl⟩
  rw [← hZ]
  -- the keys come in
  have fill : ∀ (a m tm : Nat) (q : XZ), a ≤ m → m < 100000 → 1 ≤ tm → tm ≤ 100 → q.2.length + tm * (m - a + 1) ≤ 500 → xAp (rpL tm (rgL a (m - a + 1))) q = Z → ∀ (hh : pmH) (x5 x6 : Option Value), tr_ hh R t tb q → hh.length = h.length → frX h hh R → W_X10_readRange (d + 3) (h.length + 0) 0 (fun v h' => v = none ∧ tr_ h' R t tb Z ∧ frX h h' R) 67 [some (.ref R), some (.int start), some (.int (nI a)), some (.int (nI m)), some (.int (nI tm)), x5, x6] [] hh 0 := by
    intro a m tm q ham hm ht1 ht2 htot eZ hh x5 x6 L0 q1 q2
    have outer : ∀ f n, tm - n = f → n ≤ tm → ∀ (hh : pmH) (x6 : Option Value), tr_ hh R t tb (xAp (rpL n (rgL a (m - a + 1))) q) → hh.length = h.length → frX h hh R → W_X10_readRange (d + 3) (h.length + 0) 0 (fun v h' => v = none ∧ tr_ h' R t tb Z ∧ frX h h' R) 70 [some (.ref R), some (.int start), some (.int (nI a)), some (.int (nI m)), some (.int (nI tm)), some (.int (nI n)), x6] [] hh 0 := by
      intro f
      induction f with
      | zero =>
        intro n hn hn2 hh x6 L1 q1 q2
        have e1 : ¬ nI n < nI tm := nI_nlt (by omega) (by omega)
        rw [w_X10_readRange_70]
        simp only [w_X10_readRange_72, w_X10_readRange_74, w_X10_readRange_107, pm_1i_c, pm_2i_c, pm_1l_c, pm_2l_c, pm_1a_c, pm_ia_c, pm_iia_c, pm_va_c, pm_cp_c, pm_k0_c, pm_k1_c, pm_k2_c, pm_k3_c, pm_s1_c, pm_s2_c, pm_s3_c, pm_s4_c, pm_ri_c, pm_ra_c, pm_rn_c, pm_rk_i, pm_rk_z, pm_rk_a, pm_vk_i, pm_vk_z, pm_vk_a, pm_cti, pm_ctr, pm_ldi_z, pm_ldi_s, pm_lda_z, pm_lda_s, pm_cat_n, pm_cat_i, pm_cat_r, pm_cat_l, pm_obj, pm_arr, pm_opt, pm_ird, pm_aln, List.getElem?_cons_zero, List.getElem?_cons_succ, List.set_cons_zero, List.set_cons_succ, List.length_cons, List.length_nil, List.length_set, true_and, and_true, Nat.add_zero, Nat.zero_add, Nat.le_refl, Nat.reduceAdd, Nat.reduceLT, Nat.reduceLeDiff, Nat.zero_le, not_false_eq_true, not_true_eq_false, false_implies, implies_true, true_implies, Nat.zero_lt_succ, Nat.lt_add_one, e1, q1]
        rw [show n = tm by omega, eZ] at L1
        exact ⟨L1, q2⟩
      | succ f ih =>
        intro n hn hn2 hh x6 L1 q1 q2
        have e1 : nI n < nI tm := nI_lt (by omega) (by omega)
        have inner : ∀ g j, (m - a + 1) - j = g → j ≤ m - a + 1 → ∀ (hh : pmH), tr_ hh R t tb (xAp (rpL n (rgL a (m - a + 1)) ++ (rgL a (m - a + 1)).take j) q) → hh.length = h.length → frX h hh R → W_X10_readRange (d + 3) (h.length + 0) 0 (fun v h' => v = none ∧ tr_ h' R t tb Z ∧ frX h h' R) 80 [some (.ref R), some (.int start), some (.int (nI a)), some (.int (nI m)), some (.int (nI tm)), some (.int (nI n)), some (.int (nI (a + j)))] [] hh 0 := by
          intro g
          induction g with
          | zero =>
            intro j hj hj2 hh L2 q1 q2
            have e2 : nI m < nI (a + j) := nI_lt (by omega) (by omega)
            rw [w_X10_readRange_80]
            simp only [w_X10_readRange_82, w_X10_readRange_83, w_X10_readRange_101, w_X10_readRange_104, pm_1i_c, pm_2i_c, pm_1l_c, pm_2l_c, pm_1a_c, pm_ia_c, pm_iia_c, pm_va_c, pm_cp_c, pm_k0_c, pm_k1_c, pm_k2_c, pm_k3_c, pm_s1_c, pm_s2_c, pm_s3_c, pm_s4_c, pm_ri_c, pm_ra_c, pm_rn_c, pm_rk_i, pm_rk_z, pm_rk_a, pm_vk_i, pm_vk_z, pm_vk_a, pm_cti, pm_ctr, pm_ldi_z, pm_ldi_s, pm_lda_z, pm_lda_s, pm_cat_n, pm_cat_i, pm_cat_r, pm_cat_l, pm_obj, pm_arr, pm_opt, pm_ird, pm_aln, List.getElem?_cons_zero, List.getElem?_cons_succ, List.set_cons_zero, List.set_cons_succ, List.length_cons, List.length_nil, List.length_set, true_and, and_true, Nat.add_zero, Nat.zero_add, Nat.le_refl, Nat.reduceAdd, Nat.reduceLT, Nat.reduceLeDiff, Nat.zero_le, not_false_eq_true, not_true_eq_false, false_implies, implies_true, true_implies, Nat.zero_lt_succ, Nat.lt_add_one, e2, q1, nI_1]
            rw [List.take_of_length_le (by rw [rgL_len]; omega), ← rpL_s] at L2
            exact ih (n + 1) (by omega) (by omega) hh _ L2 q1 q2
          | succ g ihg =>
            intro j hj hj2 hh L2 q1 q2
            have e2 : ¬ nI m < nI (a + j) := nI_nlt (by omega) (by omega)
            have ro := L2.o
            have ko := L2.ko
            have lenq : (xAp (rpL n (rgL a (m - a + 1)) ++ (rgL a (m - a + 1)).take j) q).2.length < 500 := by
              show (q.2 ++ (rpL n (rgL a (m - a + 1)) ++ (rgL a (m - a + 1)).take j)).length < 500
              rw [List.length_append, List.length_append, rpL_len, List.length_take, rgL_len]
              have : n * (m - a + 1) + (m - a + 1) ≤ tm * (m - a + 1) := by
                rw [← Nat.succ_mul]
                exact Nat.mul_le_mul_right _ (by omega)
              omega
            rw [w_X10_readRange_80]
            simp only [w_X10_readRange_82, w_X10_readRange_83, w_X10_readRange_86, w_X10_readRange_87, w_X10_readRange_90, w_X10_readRange_92, pm_1i_c, pm_2i_c, pm_1l_c, pm_2l_c, pm_1a_c, pm_ia_c, pm_iia_c, pm_va_c, pm_cp_c, pm_k0_c, pm_k1_c, pm_k2_c, pm_k3_c, pm_s1_c, pm_s2_c, pm_s3_c, pm_s4_c, pm_ri_c, pm_ra_c, pm_rn_c, pm_rk_i, pm_rk_z, pm_rk_a, pm_vk_i, pm_vk_z, pm_vk_a, pm_cti, pm_ctr, pm_ldi_z, pm_ldi_s, pm_lda_z, pm_lda_s, pm_cat_n, pm_cat_i, pm_cat_r, pm_cat_l, pm_obj, pm_arr, pm_opt, pm_ird, pm_aln, List.getElem?_cons_zero, List.getElem?_cons_succ, List.set_cons_zero, List.set_cons_succ, List.length_cons, List.length_nil, List.length_set, true_and, and_true, Nat.add_zero, Nat.zero_add, Nat.le_refl, Nat.reduceAdd, Nat.reduceLT, Nat.reduceLeDiff, Nat.zero_le, not_false_eq_true, not_true_eq_false, false_implies, implies_true, true_implies, Nat.zero_lt_succ, Nat.lt_add_one, e2, ro, ko, q1]
            refine PM_use (c_Row_append L2.2.2.1 (nI (a + j)) (d + 2)) ?_
            rintro v h3 l3 ⟨rfl, K1, K2⟩
            rw [if_pos lenq] at K1
            obtain ⟨L3, f3⟩ := L2.uk K1 K2
            show W_X10_readRange _ _ _ _ _ _ _ _ _
            simp only [w_X10_readRange_95, w_X10_readRange_98, pm_1i_c, pm_2i_c, pm_1l_c, pm_2l_c, pm_1a_c, pm_ia_c, pm_iia_c, pm_va_c, pm_cp_c, pm_k0_c, pm_k1_c, pm_k2_c, pm_k3_c, pm_s1_c, pm_s2_c, pm_s3_c, pm_s4_c, pm_ri_c, pm_ra_c, pm_rn_c, pm_rk_i, pm_rk_z, pm_rk_a, pm_vk_i, pm_vk_z, pm_vk_a, pm_cti, pm_ctr, pm_ldi_z, pm_ldi_s, pm_lda_z, pm_lda_s, pm_cat_n, pm_cat_i, pm_cat_r, pm_cat_l, pm_obj, pm_arr, pm_opt, pm_ird, pm_aln, List.getElem?_cons_zero, List.getElem?_cons_succ, List.set_cons_zero, List.set_cons_succ, List.length_cons, List.length_nil, List.length_set, true_and, and_true, Nat.add_zero, Nat.zero_add, Nat.le_refl, Nat.reduceAdd, Nat.reduceLT, Nat.reduceLeDiff, Nat.zero_le, not_false_eq_true, not_true_eq_false, false_implies, implies_true, true_implies, Nat.zero_lt_succ, Nat.lt_add_one, pm_tl_n, pm_tl_s, sc_uL, nI_1]
            refine ihg (j + 1) (by omega) (by omega) h3 ?_ (by rw [l3, q1]; rfl) (q2.tr f3)
            rw [rgL_take _ _ _ (by omega)]
            have e : (xAp (rpL n (rgL a (m - a + 1)) ++ ((rgL a (m - a + 1)).take j ++ [nI (a + j)])) q) = ((xAp (rpL n (rgL a (m - a + 1)) ++ (rgL a (m - a + 1)).take j) q).1, (xAp (rpL n (rgL a (m - a + 1)) ++ (rgL a (m - a + 1)).take j) q).2 ++ [nI (a + j)]) := by
              unfold xAp
              simp only [List.append_assoc]
            rw [e]
            exact L3
        rw [w_X10_readRange_70]
        simp only [w_X10_readRange_72, w_X10_readRange_74, w_X10_readRange_77, w_X10_readRange_78, pm_1i_c, pm_2i_c, pm_1l_c, pm_2l_c, pm_1a_c, pm_ia_c, pm_iia_c, pm_va_c, pm_cp_c, pm_k0_c, pm_k1_c, pm_k2_c, pm_k3_c, pm_s1_c, pm_s2_c, pm_s3_c, pm_s4_c, pm_ri_c, pm_ra_c, pm_rn_c, pm_rk_i, pm_rk_z, pm_rk_a, pm_vk_i, pm_vk_z, pm_vk_a, pm_cti, pm_ctr, pm_ldi_z, pm_ldi_s, pm_lda_z, pm_lda_s, pm_cat_n, pm_cat_i, pm_cat_r, pm_cat_l, pm_obj, pm_arr, pm_opt, pm_ird, pm_aln, List.getElem?_cons_zero, List.getElem?_cons_succ, List.set_cons_zero, List.set_cons_succ, List.length_cons, List.length_nil, List.length_set, true_and, and_true, Nat.add_zero, Nat.zero_add, Nat.le_refl, Nat.reduceAdd, Nat.reduceLT, Nat.reduceLeDiff, Nat.zero_le, not_false_eq_true, not_true_eq_false, false_implies, implies_true, true_implies, Nat.zero_lt_succ, Nat.lt_add_one, e1]
        exact inner _ 0 rfl (by omega) hh (by rw [List.take_zero, List.append_nil]; exact L1) q1 q2
    simp only [w_X10_readRange_67, w_X10_readRange_68, pm_1i_c, pm_2i_c, pm_1l_c, pm_2l_c, pm_1a_c, pm_ia_c, pm_iia_c, pm_va_c, pm_cp_c, pm_k0_c, pm_k1_c, pm_k2_c, pm_k3_c, pm_s1_c, pm_s2_c, pm_s3_c, pm_s4_c, pm_ri_c, pm_ra_c, pm_rn_c, pm_rk_i, pm_rk_z, pm_rk_a, pm_vk_i, pm_vk_z, pm_vk_a, pm_cti, pm_ctr, pm_ldi_z, pm_ldi_s, pm_lda_z, pm_lda_s, pm_cat_n, pm_cat_i, pm_cat_r, pm_cat_l, pm_obj, pm_arr, pm_opt, pm_ird, pm_aln, List.getElem?_cons_zero, List.getElem?_cons_succ, List.set_cons_zero, List.set_cons_succ, List.length_cons, List.length_nil, List.length_set, true_and, and_true, Nat.add_zero, Nat.zero_add, Nat.le_refl, Nat.reduceAdd, Nat.reduceLT, Nat.reduceLeDiff, Nat.zero_le, not_false_eq_true, not_true_eq_false, false_implies, implies_true, true_implies, Nat.zero_lt_succ, Nat.lt_add_one]
    exact outer tm 0 rfl (by omega) hh _ (by
      have e : xAp (rpL 0 (rgL a (m - a + 1))) q = q := by
        unfold xAp rpL
        simp
      rw [e]
      exact L0) q1 q2
  -- from the times on
  have body : ∀ (last : Int32) (q : XZ) (hh : pmH), rlF t.1 t.2.2 (nnV t.1 t.2.2 s.1) (xNd t.1 267 s) = (last, q) → tr_ hh R t tb q → hh.length = h.length → frX h hh R → W_X10_readRange (d + 3) (h.length + 0) 0 (fun v h' => v = none ∧ tr_ h' R t tb Z ∧ frX h h' R) 44 [some (.ref R), some (.int start), some (.int (nnV t.1 t.2.2 s.1)), some (.int last), none, none, none] [] hh 0 := by
    intro last q hh eq L1 q1 q2
    have ro1 := L1.o
    simp only [w_X10_readRange_44, w_X10_readRange_45, pm_1i_c, pm_2i_c, pm_1l_c, pm_2l_c, pm_1a_c, pm_ia_c, pm_iia_c, pm_va_c, pm_cp_c, pm_k0_c, pm_k1_c, pm_k2_c, pm_k3_c, pm_s1_c, pm_s2_c, pm_s3_c, pm_s4_c, pm_ri_c, pm_ra_c, pm_rn_c, pm_rk_i, pm_rk_z, pm_rk_a, pm_vk_i, pm_vk_z, pm_vk_a, pm_cti, pm_ctr, pm_ldi_z, pm_ldi_s, pm_lda_z, pm_lda_s, pm_cat_n, pm_cat_i, pm_cat_r, pm_cat_l, pm_obj, pm_arr, pm_opt, pm_ird, pm_aln, List.getElem?_cons_zero, List.getElem?_cons_succ, List.set_cons_zero, List.set_cons_succ, List.length_cons, List.length_nil, List.length_set, true_and, and_true, Nat.add_zero, Nat.zero_add, Nat.le_refl, Nat.reduceAdd, Nat.reduceLT, Nat.reduceLeDiff, Nat.zero_le, not_false_eq_true, not_true_eq_false, false_implies, implies_true, true_implies, Nat.zero_lt_succ, Nat.lt_add_one, ro1, q1]
    refine PM_use (c_X_readTimes L1 d) ?_
    rintro v h2 l2 ⟨rfl, L2, f2⟩
    have ro2 := L2.o
    show W_X10_readRange _ _ _ _ _ _ _ _ _
    simp only [w_X10_readRange_48, w_X10_readRange_50, w_X10_readRange_51, w_X10_readRange_52, w_X10_readRange_53, w_X10_readRange_54, w_X10_readRange_55, w_X10_readRange_56, w_X10_readRange_58, w_X10_readRange_59, w_X10_readRange_60, pm_1i_c, pm_2i_c, pm_1l_c, pm_2l_c, pm_1a_c, pm_ia_c, pm_iia_c, pm_va_c, pm_cp_c, pm_k0_c, pm_k1_c, pm_k2_c, pm_k3_c, pm_s1_c, pm_s2_c, pm_s3_c, pm_s4_c, pm_ri_c, pm_ra_c, pm_rn_c, pm_rk_i, pm_rk_z, pm_rk_a, pm_vk_i, pm_vk_z, pm_vk_a, pm_cti, pm_ctr, pm_ldi_z, pm_ldi_s, pm_lda_z, pm_lda_s, pm_cat_n, pm_cat_i, pm_cat_r, pm_cat_l, pm_obj, pm_arr, pm_opt, pm_ird, pm_aln, List.getElem?_cons_zero, List.getElem?_cons_succ, List.set_cons_zero, List.set_cons_succ, List.length_cons, List.length_nil, List.length_set, true_and, and_true, Nat.add_zero, Nat.zero_add, Nat.le_refl, Nat.reduceAdd, Nat.reduceLT, Nat.reduceLeDiff, Nat.zero_le, not_false_eq_true, not_true_eq_false, false_implies, implies_true, true_implies, Nat.zero_lt_succ, Nat.lt_add_one, pm_tl_n, pm_tl_s, sc_uL, ro2, l2, q1]
    refine PM_use (c_X_fits L2 ((last - nnV t.1 t.2.2 s.1 + 1) * (rtF t.1 t.2.2 q).1) start (d + 1)) ?_
    rintro v h3 l3 ⟨rfl, L3, f3⟩
    have eZ : Z = rrC (nnV t.1 t.2.2 s.1) last (rtF t.1 t.2.2 q).1 (ftF ((last - nnV t.1 t.2.2 s.1 + 1) * (rtF t.1 t.2.2 q).1) start (rtF t.1 t.2.2 q).2) := by
      rw [hZ]
      unfold rrF rrB
      rw [eq]
    have i4 := L1.i4
    have tl := L1.2.1.2.1.le
    have ix4 := L1.2.2.2
    by_cases c : (ftF ((last - nnV t.1 t.2.2 s.1 + 1) * (rtF t.1 t.2.2 q).1) start (rtF t.1 t.2.2 q).2).1.2 = -1
    · obtain ⟨b1, b2⟩ := ftF_ok hst c
      have c2 := c
      rw [b2] at c2
      obtain ⟨c3, tm, t1, t2, t3⟩ := rtF_ok V (by omega) c2
      have hq : (xNd t.1 267 s).1.1 ≤ 900 := by
        have := neF_ix (K := t.1) (k := 267) (p := s.1) (by decide) L.2.2.2
        show (neF t.1 267 s.1).1 ≤ 900
        omega
      have c4 : (rlF t.1 t.2.2 (nnV t.1 t.2.2 s.1) (xNd t.1 267 s)).2.1.2 = -1 := by
        rw [eq]
        exact c3
      have fst : ∃ a, a < 100000 ∧ nnV t.1 t.2.2 s.1 = nI a ∧ True := by
        by_cases t0 : taB t.1 267 s.1 = true
        · obtain ⟨a, ha, e⟩ := nnV_ok V t0
          exact ⟨a, ha, e, trivial⟩
        · refine ⟨0, by omega, ?_, trivial⟩
          unfold nnV
          rw [if_neg t0]
          rfl
      obtain ⟨a, ha, ea, -⟩ := fst
      rw [ea] at c4 eq
      obtain ⟨c5, m, m1, m2, m3⟩ := rlF_ok V hq ha c4
      rw [eq] at m3
      have m3' : last = nI m := m3
      subst m3'
      rw [ea, t3] at b1 b2 eZ c
      have z1 : nI m - nI a + 1 = nI (m - a + 1) := by rw [pk_sub m1, nI_1]
      have z2 : nI (m - a + 1) * nI tm = nI ((m - a + 1) * tm) := pk_mul _ _
      have lq : (rtF t.1 t.2.2 q).2.2.length ≤ 500 := L2.l5
      have bnd : (m - a + 1) * tm ≤ 100000 * 100 := Nat.mul_le_mul (by omega) t2
      rw [z1, z2, nI_add] at b1
      have b3 : ¬ 500 < (rtF t.1 t.2.2 q).2.2.length + (m - a + 1) * tm := fun z => b1 (nI_lt (a := 500) z (by omega))
      rw [b2] at eZ
      unfold rrC at eZ
      rw [if_pos c2, nI_clamp (by omega), nI_clamp (by omega), z1, nI_clamp (by omega)] at eZ
      rw [ea, t3] at L3 ⊢
      rw [b2] at L3
      simp only [c, if_true]
      show W_X10_readRange _ _ _ _ _ _ _ _ _
      simp only [w_X10_readRange_63, pm_1i_c, pm_2i_c, pm_1l_c, pm_2l_c, pm_1a_c, pm_ia_c, pm_iia_c, pm_va_c, pm_cp_c, pm_k0_c, pm_k1_c, pm_k2_c, pm_k3_c, pm_s1_c, pm_s2_c, pm_s3_c, pm_s4_c, pm_ri_c, pm_ra_c, pm_rn_c, pm_rk_i, pm_rk_z, pm_rk_a, pm_vk_i, pm_vk_z, pm_vk_a, pm_cti, pm_ctr, pm_ldi_z, pm_ldi_s, pm_lda_z, pm_lda_s, pm_cat_n, pm_cat_i, pm_cat_r, pm_cat_l, pm_obj, pm_arr, pm_opt, pm_ird, pm_aln, List.getElem?_cons_zero, List.getElem?_cons_succ, List.set_cons_zero, List.set_cons_succ, List.length_cons, List.length_nil, List.length_set, true_and, and_true, Nat.add_zero, Nat.zero_add, Nat.le_refl, Nat.reduceAdd, Nat.reduceLT, Nat.reduceLeDiff, Nat.zero_le, not_false_eq_true, not_true_eq_false, false_implies, implies_true, true_implies, Nat.zero_lt_succ, Nat.lt_add_one, pm_tl_n, pm_tl_s, sc_uL, show ¬ (1 : Int32) = 0 by decide]
      exact fill a m tm (rtF t.1 t.2.2 q).2 m1 m2 t1 t2 (by rw [Nat.mul_comm]; omega) eZ.symm h3 _ _ L3 (by rw [l3, l2, q1]; rfl) ((q2.tr f2).tr f3)
    · simp only [c, if_false]
      show W_X10_readRange _ _ _ _ _ _ _ _ _
      simp only [w_X10_readRange_63, w_X10_readRange_66, pm_1i_c, pm_2i_c, pm_1l_c, pm_2l_c, pm_1a_c, pm_ia_c, pm_iia_c, pm_va_c, pm_cp_c, pm_k0_c, pm_k1_c, pm_k2_c, pm_k3_c, pm_s1_c, pm_s2_c, pm_s3_c, pm_s4_c, pm_ri_c, pm_ra_c, pm_rn_c, pm_rk_i, pm_rk_z, pm_rk_a, pm_vk_i, pm_vk_z, pm_vk_a, pm_cti, pm_ctr, pm_ldi_z, pm_ldi_s, pm_lda_z, pm_lda_s, pm_cat_n, pm_cat_i, pm_cat_r, pm_cat_l, pm_obj, pm_arr, pm_opt, pm_ird, pm_aln, List.getElem?_cons_zero, List.getElem?_cons_succ, List.set_cons_zero, List.set_cons_succ, List.length_cons, List.length_nil, List.length_set, true_and, and_true, Nat.add_zero, Nat.zero_add, Nat.le_refl, Nat.reduceAdd, Nat.reduceLT, Nat.reduceLeDiff, Nat.zero_le, not_false_eq_true, not_true_eq_false, false_implies, implies_true, true_implies, Nat.zero_lt_succ, Nat.lt_add_one, pm_tl_n, pm_tl_s, sc_uL, l3, l2, q1]
      unfold rrC at eZ
      rw [if_neg c] at eZ
      rw [eZ]
      exact ⟨L3, (q2.tr f2).tr f3⟩
  simp only [w_X10_readRange_0, w_X10_readRange_1, w_X10_readRange_4, pm_1i_c, pm_2i_c, pm_1l_c, pm_2l_c, pm_1a_c, pm_ia_c, pm_iia_c, pm_va_c, pm_cp_c, pm_k0_c, pm_k1_c, pm_k2_c, pm_k3_c, pm_s1_c, pm_s2_c, pm_s3_c, pm_s4_c, pm_ri_c, pm_ra_c, pm_rn_c, pm_rk_i, pm_rk_z, pm_rk_a, pm_vk_i, pm_vk_z, pm_vk_a, pm_cti, pm_ctr, pm_ldi_z, pm_ldi_s, pm_lda_z, pm_lda_s, pm_cat_n, pm_cat_i, pm_cat_r, pm_cat_l, pm_obj, pm_arr, pm_opt, pm_ird, pm_aln, List.getElem?_cons_zero, List.getElem?_cons_succ, List.set_cons_zero, List.set_cons_succ, List.length_cons, List.length_nil, List.length_set, true_and, and_true, Nat.add_zero, Nat.zero_add, Nat.le_refl, Nat.reduceAdd, Nat.reduceLT, Nat.reduceLeDiff, Nat.zero_le, not_false_eq_true, not_true_eq_false, false_implies, implies_true, true_implies, Nat.zero_lt_succ, Nat.lt_add_one, ro, to]
  refine PM_use (c_X_needNumber L (d + 1)) ?_
  rintro v h1 l1 ⟨rfl, L1, f1⟩
  have ro1 := L1.o
  have to1 := L1.to
  show W_X10_readRange _ _ _ _ _ _ _ _ _
  simp only [w_X10_readRange_7, w_X10_readRange_8, w_X10_readRange_9, w_X10_readRange_10, w_X10_readRange_11, w_X10_readRange_14, w_X10_readRange_16, pm_1i_c, pm_2i_c, pm_1l_c, pm_2l_c, pm_1a_c, pm_ia_c, pm_iia_c, pm_va_c, pm_cp_c, pm_k0_c, pm_k1_c, pm_k2_c, pm_k3_c, pm_s1_c, pm_s2_c, pm_s3_c, pm_s4_c, pm_ri_c, pm_ra_c, pm_rn_c, pm_rk_i, pm_rk_z, pm_rk_a, pm_vk_i, pm_vk_z, pm_vk_a, pm_cti, pm_ctr, pm_ldi_z, pm_ldi_s, pm_lda_z, pm_lda_s, pm_cat_n, pm_cat_i, pm_cat_r, pm_cat_l, pm_obj, pm_arr, pm_opt, pm_ird, pm_aln, List.getElem?_cons_zero, List.getElem?_cons_succ, List.set_cons_zero, List.set_cons_succ, List.length_cons, List.length_nil, List.length_set, true_and, and_true, Nat.add_zero, Nat.zero_add, Nat.le_refl, Nat.reduceAdd, Nat.reduceLT, Nat.reduceLeDiff, Nat.zero_le, not_false_eq_true, not_true_eq_false, false_implies, implies_true, true_implies, Nat.zero_lt_succ, Nat.lt_add_one, pm_tl_n, pm_tl_s, sc_uL, ro1, to1, l1]
  refine PM_use (c_X_takes L1 45 (by decide) (d + 1)) ?_
  rintro v h2 l2 ⟨rfl, L2, f2⟩
  rcases Bool.eq_false_or_eq_true (taB t.1 45 (xNd t.1 267 s).1) with c | c
  · simp only [c, if_true]
    have ro2 := L2.o
    have to2 := L2.to
    show W_X10_readRange _ _ _ _ _ _ _ _ _
    simp only [w_X10_readRange_19, w_X10_readRange_22, w_X10_readRange_23, w_X10_readRange_26, pm_1i_c, pm_2i_c, pm_1l_c, pm_2l_c, pm_1a_c, pm_ia_c, pm_iia_c, pm_va_c, pm_cp_c, pm_k0_c, pm_k1_c, pm_k2_c, pm_k3_c, pm_s1_c, pm_s2_c, pm_s3_c, pm_s4_c, pm_ri_c, pm_ra_c, pm_rn_c, pm_rk_i, pm_rk_z, pm_rk_a, pm_vk_i, pm_vk_z, pm_vk_a, pm_cti, pm_ctr, pm_ldi_z, pm_ldi_s, pm_lda_z, pm_lda_s, pm_cat_n, pm_cat_i, pm_cat_r, pm_cat_l, pm_obj, pm_arr, pm_opt, pm_ird, pm_aln, List.getElem?_cons_zero, List.getElem?_cons_succ, List.set_cons_zero, List.set_cons_succ, List.length_cons, List.length_nil, List.length_set, true_and, and_true, Nat.add_zero, Nat.zero_add, Nat.le_refl, Nat.reduceAdd, Nat.reduceLT, Nat.reduceLeDiff, Nat.zero_le, not_false_eq_true, not_true_eq_false, false_implies, implies_true, true_implies, Nat.zero_lt_succ, Nat.lt_add_one, pm_tl_n, pm_tl_s, sc_uL, ro2, to2, l2, l1, show ¬ (1 : Int32) = 0 by decide]
    refine PM_use (c_X_needNumber L2 (d + 1)) ?_
    rintro v h3 l3 ⟨rfl, L3, f3⟩
    have ro3 := L3.o
    have eq : rlF t.1 t.2.2 (nnV t.1 t.2.2 s.1) (xNd t.1 267 s) = (nnV t.1 t.2.2 (xTk t.1 45 (xNd t.1 267 s)).1, fuF (decide (¬ nnV t.1 t.2.2 (xTk t.1 45 (xNd t.1 267 s)).1 < nnV t.1 t.2.2 s.1)) (xNd t.1 267 (xTk t.1 45 (xNd t.1 267 s)))) := if_pos c
    have go : ∀ b, b = decide (¬ nnV t.1 t.2.2 (xTk t.1 45 (xNd t.1 267 s)).1 < nnV t.1 t.2.2 s.1) → PM (d + 3) 118 [.ref R, .int (if b = true then 1 else 0)] h3 (fun v h2 => V_X10_readRange (d + 3) (h.length + 0) 0 (fun v h' => v = none ∧ tr_ h' R t tb Z ∧ frX h h' R) 44 [some (.ref R), some (.int start), some (.int (nnV t.1 t.2.2 s.1)), some (.int (nnV t.1 t.2.2 (xTk t.1 45 (xNd t.1 267 s)).1)), none, none, none] (v.toList ++ []) h2 (0 + 0)) := by
      intro b hb
      refine PM_use (c_X_failUnless L3 b (d + 1)) ?_
      rintro v h4 l4 ⟨rfl, L4, f4⟩
      show W_X10_readRange _ _ _ _ _ _ _ _ _
      exact body _ _ h4 (by rw [eq, ← hb]) L4 (by rw [l4, l3, l2, l1]; rfl) (((f1.tr f2).tr f3).tr f4)
    show W_X10_readRange _ _ _ _ _ _ _ _ _
    simp only [w_X10_readRange_29, w_X10_readRange_30, w_X10_readRange_31, w_X10_readRange_32, w_X10_readRange_33, w_X10_readRange_36, w_X10_readRange_37, w_X10_readRange_40, w_X10_readRange_41, pm_1i_c, pm_2i_c, pm_1l_c, pm_2l_c, pm_1a_c, pm_ia_c, pm_iia_c, pm_va_c, pm_cp_c, pm_k0_c, pm_k1_c, pm_k2_c, pm_k3_c, pm_s1_c, pm_s2_c, pm_s3_c, pm_s4_c, pm_ri_c, pm_ra_c, pm_rn_c, pm_rk_i, pm_rk_z, pm_rk_a, pm_vk_i, pm_vk_z, pm_vk_a, pm_cti, pm_ctr, pm_ldi_z, pm_ldi_s, pm_lda_z, pm_lda_s, pm_cat_n, pm_cat_i, pm_cat_r, pm_cat_l, pm_obj, pm_arr, pm_opt, pm_ird, pm_aln, List.getElem?_cons_zero, List.getElem?_cons_succ, List.set_cons_zero, List.set_cons_succ, List.length_cons, List.length_nil, List.length_set, true_and, and_true, Nat.add_zero, Nat.zero_add, Nat.le_refl, Nat.reduceAdd, Nat.reduceLT, Nat.reduceLeDiff, Nat.zero_le, not_false_eq_true, not_true_eq_false, false_implies, implies_true, true_implies, Nat.zero_lt_succ, Nat.lt_add_one, pm_tl_n, pm_tl_s, sc_uL, ro3, l3, l2, l1]
    refine ⟨fun c1 => ?_, fun c1 => ?_⟩
    · exact go false (by rw [eq_comm, decide_eq_false_iff_not]; exact fun z => z c1)
    · exact go true (decide_eq_true c1).symm
  · rw [xTk_no c] at L2
    simp only [c, Bool.false_eq_true, if_false]
    show W_X10_readRange _ _ _ _ _ _ _ _ _
    simp only [w_X10_readRange_19, pm_1i_c, pm_2i_c, pm_1l_c, pm_2l_c, pm_1a_c, pm_ia_c, pm_iia_c, pm_va_c, pm_cp_c, pm_k0_c, pm_k1_c, pm_k2_c, pm_k3_c, pm_s1_c, pm_s2_c, pm_s3_c, pm_s4_c, pm_ri_c, pm_ra_c, pm_rn_c, pm_rk_i, pm_rk_z, pm_rk_a, pm_vk_i, pm_vk_z, pm_vk_a, pm_cti, pm_ctr, pm_ldi_z, pm_ldi_s, pm_lda_z, pm_lda_s, pm_cat_n, pm_cat_i, pm_cat_r, pm_cat_l, pm_obj, pm_arr, pm_opt, pm_ird, pm_aln, List.getElem?_cons_zero, List.getElem?_cons_succ, List.set_cons_zero, List.set_cons_succ, List.length_cons, List.length_nil, List.length_set, true_and, and_true, Nat.add_zero, Nat.zero_add, Nat.le_refl, Nat.reduceAdd, Nat.reduceLT, Nat.reduceLeDiff, Nat.zero_le, not_false_eq_true, not_true_eq_false, false_implies, implies_true, true_implies, Nat.zero_lt_succ, Nat.lt_add_one, pm_tl_n, pm_tl_s, sc_uL]
    exact body _ _ h2 (if_neg (by rw [c]; decide)) L2 (by rw [l2, l1]; rfl) (f1.tr f2)
set_option maxHeartbeats 2000000 in
theorem c_X_repeatFrom (L : tr_ h R t tb s) (V : NV t.1 t.2.2) {b : Nat} (hb : b ≤ s.2.length) (start : Int32) (hst : start ≠ -1) (d : Nat) : PM (d + 4) 119 [.ref R, .int (nI b), .int start] h (fun v h' => v = none ∧ tr_ h' R t tb (rpF t.1 t.2.2 b start s) ∧ frX h h' R) := by
  have ro := L.o
  have ko := L.ko
  refine en_X10_repeatFrom rfl rfl rfl ?_
  obtain ⟨Z, hZ⟩ : ∃ Z, Z = rpF t.1 t.2.2 b start s := ⟨_, rfl⟩
  rw [← hZ]
  have fill : ∀ (tm : Nat) (q : XZ), q.2 = s.2 → 1 ≤ tm → tm ≤ 100 → s.2.length + (s.2.length - b) * (tm - 1) ≤ 500 → xAp (rpL (tm - 1) (s.2.drop b)) q = Z → ∀ (hh : pmH) (x5 x6 : Option Value), tr_ hh R t tb q → hh.length = h.length → frX h hh R → W_X10_repeatFrom (d + 3) (h.length + 0) 0 (fun v h' => v = none ∧ tr_ h' R t tb Z ∧ frX h h' R) 31 [some (.ref R), some (.int (nI b)), some (.int start), some (.int (nI s.2.length)), some (.int (nI tm)), x5, x6] [] hh 0 := by
    intro tm q eqk ht1 ht2 htot eZ hh x5 x6 L0 q1 q2
    have dl : (s.2.drop b).length = s.2.length - b := List.length_drop
    have outer : ∀ f n, (tm - 1) - n = f → n ≤ tm - 1 → ∀ (hh : pmH) (x6 : Option Value), tr_ hh R t tb (xAp (rpL n (s.2.drop b)) q) → hh.length = h.length → frX h hh R → W_X10_repeatFrom (d + 3) (h.length + 0) 0 (fun v h' => v = none ∧ tr_ h' R t tb Z ∧ frX h h' R) 34 [some (.ref R), some (.int (nI b)), some (.int start), some (.int (nI s.2.length)), some (.int (nI tm)), some (.int (nI (n + 1))), x6] [] hh 0 := by
      intro f
      induction f with
      | zero =>
        intro n hn hn2 hh x6 L1 q1 q2
        have e1 : ¬ nI (n + 1) < nI tm := nI_nlt (by omega) (by omega)
        rw [w_X10_repeatFrom_34]
        simp only [w_X10_repeatFrom_36, w_X10_repeatFrom_38, w_X10_repeatFrom_78, pm_1i_c, pm_2i_c, pm_1l_c, pm_2l_c, pm_1a_c, pm_ia_c, pm_iia_c, pm_va_c, pm_cp_c, pm_k0_c, pm_k1_c, pm_k2_c, pm_k3_c, pm_s1_c, pm_s2_c, pm_s3_c, pm_s4_c, pm_ri_c, pm_ra_c, pm_rn_c, pm_rk_i, pm_rk_z, pm_rk_a, pm_vk_i, pm_vk_z, pm_vk_a, pm_cti, pm_ctr, pm_ldi_z, pm_ldi_s, pm_lda_z, pm_lda_s, pm_cat_n, pm_cat_i, pm_cat_r, pm_cat_l, pm_obj, pm_arr, pm_opt, pm_ird, pm_aln, List.getElem?_cons_zero, List.getElem?_cons_succ, List.set_cons_zero, List.set_cons_succ, List.length_cons, List.length_nil, List.length_set, true_and, and_true, Nat.add_zero, Nat.zero_add, Nat.le_refl, Nat.reduceAdd, Nat.reduceLT, Nat.reduceLeDiff, Nat.zero_le, not_false_eq_true, not_true_eq_false, false_implies, implies_true, true_implies, Nat.zero_lt_succ, Nat.lt_add_one, e1, q1]
        rw [show n = tm - 1 by omega, eZ] at L1
        exact ⟨L1, q2⟩
      | succ f ih =>
        intro n hn hn2 hh x6 L1 q1 q2
        have l5 := L.l5
        have e1 : nI (n + 1) < nI tm := nI_lt (by omega) (by omega)
        have inner : ∀ g j, (s.2.length - b) - j = g → j ≤ s.2.length - b → ∀ (hh : pmH), tr_ hh R t tb (xAp (rpL n (s.2.drop b) ++ (s.2.drop b).take j) q) → hh.length = h.length → frX h hh R → W_X10_repeatFrom (d + 3) (h.length + 0) 0 (fun v h' => v = none ∧ tr_ h' R t tb Z ∧ frX h h' R) 44 [some (.ref R), some (.int (nI b)), some (.int start), some (.int (nI s.2.length)), some (.int (nI tm)), some (.int (nI (n + 1))), some (.int (nI (b + j)))] [] hh 0 := by
          intro g
          induction g with
          | zero =>
            intro j hj hj2 hh L2 q1 q2
            have e2 : ¬ nI (b + j) < nI s.2.length := nI_nlt (by omega) (by omega)
            rw [w_X10_repeatFrom_44]
            simp only [w_X10_repeatFrom_46, w_X10_repeatFrom_47, w_X10_repeatFrom_72, w_X10_repeatFrom_75, pm_1i_c, pm_2i_c, pm_1l_c, pm_2l_c, pm_1a_c, pm_ia_c, pm_iia_c, pm_va_c, pm_cp_c, pm_k0_c, pm_k1_c, pm_k2_c, pm_k3_c, pm_s1_c, pm_s2_c, pm_s3_c, pm_s4_c, pm_ri_c, pm_ra_c, pm_rn_c, pm_rk_i, pm_rk_z, pm_rk_a, pm_vk_i, pm_vk_z, pm_vk_a, pm_cti, pm_ctr, pm_ldi_z, pm_ldi_s, pm_lda_z, pm_lda_s, pm_cat_n, pm_cat_i, pm_cat_r, pm_cat_l, pm_obj, pm_arr, pm_opt, pm_ird, pm_aln, List.getElem?_cons_zero, List.getElem?_cons_succ, List.set_cons_zero, List.set_cons_succ, List.length_cons, List.length_nil, List.length_set, true_and, and_true, Nat.add_zero, Nat.zero_add, Nat.le_refl, Nat.reduceAdd, Nat.reduceLT, Nat.reduceLeDiff, Nat.zero_le, not_false_eq_true, not_true_eq_false, false_implies, implies_true, true_implies, Nat.zero_lt_succ, Nat.lt_add_one, e2, q1, nI_1]
            rw [List.take_of_length_le (by omega), ← rpL_s] at L2
            exact ih (n + 1) (by omega) (by omega) hh _ L2 q1 q2
          | succ g ihg =>
            intro j hj hj2 hh L2 q1 q2
            have e2 : nI (b + j) < nI s.2.length := nI_lt (by omega) (by omega)
            have ro := L2.o
            have ko := L2.ko
            have q2e : (xAp (rpL n (s.2.drop b) ++ (s.2.drop b).take j) q).2 = s.2 ++ (rpL n (s.2.drop b) ++ (s.2.drop b).take j) := by
              show q.2 ++ _ = _
              rw [eqk]
            have lenq : (xAp (rpL n (s.2.drop b) ++ (s.2.drop b).take j) q).2.length < 500 := by
              rw [q2e, List.length_append, List.length_append, rpL_len, List.length_take, dl]
              have : n * (s.2.length - b) + (s.2.length - b) ≤ (s.2.length - b) * (tm - 1) := by
                rw [← Nat.succ_mul, Nat.mul_comm]
                exact Nat.mul_le_mul_left _ (by omega)
              omega
            have get : rw_get (xAp (rpL n (s.2.drop b) ++ (s.2.drop b).take j) q).2 (nI (b + j)) = (s.2.drop b).getD j (-1) := by
              rw [rw_getN (by omega), q2e, List.getD_eq_getElem?_getD, List.getElem?_append_left (by omega), List.getD_eq_getElem?_getD, List.getElem?_drop]
            rw [w_X10_repeatFrom_44]
            simp only [w_X10_repeatFrom_46, w_X10_repeatFrom_47, w_X10_repeatFrom_50, w_X10_repeatFrom_51, w_X10_repeatFrom_54, w_X10_repeatFrom_55, w_X10_repeatFrom_58, w_X10_repeatFrom_60, pm_1i_c, pm_2i_c, pm_1l_c, pm_2l_c, pm_1a_c, pm_ia_c, pm_iia_c, pm_va_c, pm_cp_c, pm_k0_c, pm_k1_c, pm_k2_c, pm_k3_c, pm_s1_c, pm_s2_c, pm_s3_c, pm_s4_c, pm_ri_c, pm_ra_c, pm_rn_c, pm_rk_i, pm_rk_z, pm_rk_a, pm_vk_i, pm_vk_z, pm_vk_a, pm_cti, pm_ctr, pm_ldi_z, pm_ldi_s, pm_lda_z, pm_lda_s, pm_cat_n, pm_cat_i, pm_cat_r, pm_cat_l, pm_obj, pm_arr, pm_opt, pm_ird, pm_aln, List.getElem?_cons_zero, List.getElem?_cons_succ, List.set_cons_zero, List.set_cons_succ, List.length_cons, List.length_nil, List.length_set, true_and, and_true, Nat.add_zero, Nat.zero_add, Nat.le_refl, Nat.reduceAdd, Nat.reduceLT, Nat.reduceLeDiff, Nat.zero_le, not_false_eq_true, not_true_eq_false, false_implies, implies_true, true_implies, Nat.zero_lt_succ, Nat.lt_add_one, e2, ro, ko, q1]
            refine PM_use (c_Row_get L2.2.2.1 (nI (b + j)) (d + 2)) ?_
            rintro v h4 l4 ⟨rfl, rfl⟩
            rw [get]
            show W_X10_repeatFrom _ _ _ _ _ _ _ _ _
            simp only [w_X10_repeatFrom_63, pm_1i_c, pm_2i_c, pm_1l_c, pm_2l_c, pm_1a_c, pm_ia_c, pm_iia_c, pm_va_c, pm_cp_c, pm_k0_c, pm_k1_c, pm_k2_c, pm_k3_c, pm_s1_c, pm_s2_c, pm_s3_c, pm_s4_c, pm_ri_c, pm_ra_c, pm_rn_c, pm_rk_i, pm_rk_z, pm_rk_a, pm_vk_i, pm_vk_z, pm_vk_a, pm_cti, pm_ctr, pm_ldi_z, pm_ldi_s, pm_lda_z, pm_lda_s, pm_cat_n, pm_cat_i, pm_cat_r, pm_cat_l, pm_obj, pm_arr, pm_opt, pm_ird, pm_aln, List.getElem?_cons_zero, List.getElem?_cons_succ, List.set_cons_zero, List.set_cons_succ, List.length_cons, List.length_nil, List.length_set, true_and, and_true, Nat.add_zero, Nat.zero_add, Nat.le_refl, Nat.reduceAdd, Nat.reduceLT, Nat.reduceLeDiff, Nat.zero_le, not_false_eq_true, not_true_eq_false, false_implies, implies_true, true_implies, Nat.zero_lt_succ, Nat.lt_add_one, pm_tl_n, pm_tl_s, sc_uL, ro, ko, q1]
            refine PM_use (c_Row_append L2.2.2.1 ((s.2.drop b).getD j (-1)) (d + 2)) ?_
            rintro v h3 l3 ⟨rfl, K1, K2⟩
            rw [if_pos lenq] at K1
            obtain ⟨L3, f3⟩ := L2.uk K1 K2
            show W_X10_repeatFrom _ _ _ _ _ _ _ _ _
            simp only [w_X10_repeatFrom_66, w_X10_repeatFrom_69, pm_1i_c, pm_2i_c, pm_1l_c, pm_2l_c, pm_1a_c, pm_ia_c, pm_iia_c, pm_va_c, pm_cp_c, pm_k0_c, pm_k1_c, pm_k2_c, pm_k3_c, pm_s1_c, pm_s2_c, pm_s3_c, pm_s4_c, pm_ri_c, pm_ra_c, pm_rn_c, pm_rk_i, pm_rk_z, pm_rk_a, pm_vk_i, pm_vk_z, pm_vk_a, pm_cti, pm_ctr, pm_ldi_z, pm_ldi_s, pm_lda_z, pm_lda_s, pm_cat_n, pm_cat_i, pm_cat_r, pm_cat_l, pm_obj, pm_arr, pm_opt, pm_ird, pm_aln, List.getElem?_cons_zero, List.getElem?_cons_succ, List.set_cons_zero, List.set_cons_succ, List.length_cons, List.length_nil, List.length_set, true_and, and_true, Nat.add_zero, Nat.zero_add, Nat.le_refl, Nat.reduceAdd, Nat.reduceLT, Nat.reduceLeDiff, Nat.zero_le, not_false_eq_true, not_true_eq_false, false_implies, implies_true, true_implies, Nat.zero_lt_succ, Nat.lt_add_one, pm_tl_n, pm_tl_s, sc_uL, nI_1]
            refine ihg (j + 1) (by omega) (by omega) h3 ?_ (by rw [l3, q1]; rfl) (q2.tr f3)
            have tk : (s.2.drop b).take (j + 1) = (s.2.drop b).take j ++ [(s.2.drop b).getD j (-1)] := by
              rw [List.take_add_one, List.getElem?_eq_getElem (by omega), List.getD_eq_getElem?_getD, List.getElem?_eq_getElem (by omega)]
              rfl
            have e : (xAp (rpL n (s.2.drop b) ++ (s.2.drop b).take (j + 1)) q) = ((xAp (rpL n (s.2.drop b) ++ (s.2.drop b).take j) q).1, (xAp (rpL n (s.2.drop b) ++ (s.2.drop b).take j) q).2 ++ [(s.2.drop b).getD j (-1)]) := by
              rw [tk]
              unfold xAp
              simp only [List.append_assoc]
            rw [e]
            exact L3
        rw [w_X10_repeatFrom_34]
        simp only [w_X10_repeatFrom_36, w_X10_repeatFrom_38, w_X10_repeatFrom_41, w_X10_repeatFrom_42, pm_1i_c, pm_2i_c, pm_1l_c, pm_2l_c, pm_1a_c, pm_ia_c, pm_iia_c, pm_va_c, pm_cp_c, pm_k0_c, pm_k1_c, pm_k2_c, pm_k3_c, pm_s1_c, pm_s2_c, pm_s3_c, pm_s4_c, pm_ri_c, pm_ra_c, pm_rn_c, pm_rk_i, pm_rk_z, pm_rk_a, pm_vk_i, pm_vk_z, pm_vk_a, pm_cti, pm_ctr, pm_ldi_z, pm_ldi_s, pm_lda_z, pm_lda_s, pm_cat_n, pm_cat_i, pm_cat_r, pm_cat_l, pm_obj, pm_arr, pm_opt, pm_ird, pm_aln, List.getElem?_cons_zero, List.getElem?_cons_succ, List.set_cons_zero, List.set_cons_succ, List.length_cons, List.length_nil, List.length_set, true_and, and_true, Nat.add_zero, Nat.zero_add, Nat.le_refl, Nat.reduceAdd, Nat.reduceLT, Nat.reduceLeDiff, Nat.zero_le, not_false_eq_true, not_true_eq_false, false_implies, implies_true, true_implies, Nat.zero_lt_succ, Nat.lt_add_one, e1]
        exact inner _ 0 rfl (by omega) hh (by rw [List.take_zero, List.append_nil]; exact L1) q1 q2
    simp only [w_X10_repeatFrom_31, w_X10_repeatFrom_32, pm_1i_c, pm_2i_c, pm_1l_c, pm_2l_c, pm_1a_c, pm_ia_c, pm_iia_c, pm_va_c, pm_cp_c, pm_k0_c, pm_k1_c, pm_k2_c, pm_k3_c, pm_s1_c, pm_s2_c, pm_s3_c, pm_s4_c, pm_ri_c, pm_ra_c, pm_rn_c, pm_rk_i, pm_rk_z, pm_rk_a, pm_vk_i, pm_vk_z, pm_vk_a, pm_cti, pm_ctr, pm_ldi_z, pm_ldi_s, pm_lda_z, pm_lda_s, pm_cat_n, pm_cat_i, pm_cat_r, pm_cat_l, pm_obj, pm_arr, pm_opt, pm_ird, pm_aln, List.getElem?_cons_zero, List.getElem?_cons_succ, List.set_cons_zero, List.set_cons_succ, List.length_cons, List.length_nil, List.length_set, true_and, and_true, Nat.add_zero, Nat.zero_add, Nat.le_refl, Nat.reduceAdd, Nat.reduceLT, Nat.reduceLeDiff, Nat.zero_le, not_false_eq_true, not_true_eq_false, false_implies, implies_true, true_implies, Nat.zero_lt_succ, Nat.lt_add_one]
    exact outer (tm - 1) 0 rfl (by omega) hh _ (by
      have e : xAp (rpL 0 (s.2.drop b)) q = q := by
        unfold xAp rpL
        simp
      rw [e]
      exact L0) q1 q2
  simp only [w_X10_repeatFrom_0, w_X10_repeatFrom_1, w_X10_repeatFrom_4, pm_1i_c, pm_2i_c, pm_1l_c, pm_2l_c, pm_1a_c, pm_ia_c, pm_iia_c, pm_va_c, pm_cp_c, pm_k0_c, pm_k1_c, pm_k2_c, pm_k3_c, pm_s1_c, pm_s2_c, pm_s3_c, pm_s4_c, pm_ri_c, pm_ra_c, pm_rn_c, pm_rk_i, pm_rk_z, pm_rk_a, pm_vk_i, pm_vk_z, pm_vk_a, pm_cti, pm_ctr, pm_ldi_z, pm_ldi_s, pm_lda_z, pm_lda_s, pm_cat_n, pm_cat_i, pm_cat_r, pm_cat_l, pm_obj, pm_arr, pm_opt, pm_ird, pm_aln, List.getElem?_cons_zero, List.getElem?_cons_succ, List.set_cons_zero, List.set_cons_succ, List.length_cons, List.length_nil, List.length_set, true_and, and_true, Nat.add_zero, Nat.zero_add, Nat.le_refl, Nat.reduceAdd, Nat.reduceLT, Nat.reduceLeDiff, Nat.zero_le, not_false_eq_true, not_true_eq_false, false_implies, implies_true, true_implies, Nat.zero_lt_succ, Nat.lt_add_one, ro, ko]
  refine PM_use (c_Row_size L.2.2.1 (d + 2)) ?_
  rintro v h1 l1 ⟨rfl, rfl⟩
  show W_X10_repeatFrom _ _ _ _ _ _ _ _ _
  simp only [w_X10_repeatFrom_7, w_X10_repeatFrom_8, w_X10_repeatFrom_9, pm_1i_c, pm_2i_c, pm_1l_c, pm_2l_c, pm_1a_c, pm_ia_c, pm_iia_c, pm_va_c, pm_cp_c, pm_k0_c, pm_k1_c, pm_k2_c, pm_k3_c, pm_s1_c, pm_s2_c, pm_s3_c, pm_s4_c, pm_ri_c, pm_ra_c, pm_rn_c, pm_rk_i, pm_rk_z, pm_rk_a, pm_vk_i, pm_vk_z, pm_vk_a, pm_cti, pm_ctr, pm_ldi_z, pm_ldi_s, pm_lda_z, pm_lda_s, pm_cat_n, pm_cat_i, pm_cat_r, pm_cat_l, pm_obj, pm_arr, pm_opt, pm_ird, pm_aln, List.getElem?_cons_zero, List.getElem?_cons_succ, List.set_cons_zero, List.set_cons_succ, List.length_cons, List.length_nil, List.length_set, true_and, and_true, Nat.add_zero, Nat.zero_add, Nat.le_refl, Nat.reduceAdd, Nat.reduceLT, Nat.reduceLeDiff, Nat.zero_le, not_false_eq_true, not_true_eq_false, false_implies, implies_true, true_implies, Nat.zero_lt_succ, Nat.lt_add_one, pm_tl_n, pm_tl_s, sc_uL, ro]
  refine PM_use (c_X_readTimes L d) ?_
  rintro v h2 l2 ⟨rfl, L2, f2⟩
  have ro2 := L2.o
  show W_X10_repeatFrom _ _ _ _ _ _ _ _ _
  simp only [w_X10_repeatFrom_12, w_X10_repeatFrom_14, w_X10_repeatFrom_15, w_X10_repeatFrom_16, w_X10_repeatFrom_17, w_X10_repeatFrom_18, w_X10_repeatFrom_20, w_X10_repeatFrom_21, w_X10_repeatFrom_22, w_X10_repeatFrom_23, w_X10_repeatFrom_24, pm_1i_c, pm_2i_c, pm_1l_c, pm_2l_c, pm_1a_c, pm_ia_c, pm_iia_c, pm_va_c, pm_cp_c, pm_k0_c, pm_k1_c, pm_k2_c, pm_k3_c, pm_s1_c, pm_s2_c, pm_s3_c, pm_s4_c, pm_ri_c, pm_ra_c, pm_rn_c, pm_rk_i, pm_rk_z, pm_rk_a, pm_vk_i, pm_vk_z, pm_vk_a, pm_cti, pm_ctr, pm_ldi_z, pm_ldi_s, pm_lda_z, pm_lda_s, pm_cat_n, pm_cat_i, pm_cat_r, pm_cat_l, pm_obj, pm_arr, pm_opt, pm_ird, pm_aln, List.getElem?_cons_zero, List.getElem?_cons_succ, List.set_cons_zero, List.set_cons_succ, List.length_cons, List.length_nil, List.length_set, true_and, and_true, Nat.add_zero, Nat.zero_add, Nat.le_refl, Nat.reduceAdd, Nat.reduceLT, Nat.reduceLeDiff, Nat.zero_le, not_false_eq_true, not_true_eq_false, false_implies, implies_true, true_implies, Nat.zero_lt_succ, Nat.lt_add_one, pm_tl_n, pm_tl_s, sc_uL, ro2, l2]
  refine PM_use (c_X_fits L2 ((nI s.2.length - nI b) * ((rtF t.1 t.2.2 s).1 - 1)) start (d + 1)) ?_
  rintro v h3 l3 ⟨rfl, L3, f3⟩
  have eZ : Z = rpC b (rtF t.1 t.2.2 s).1 (ftF ((nI s.2.length - nI b) * ((rtF t.1 t.2.2 s).1 - 1)) start (rtF t.1 t.2.2 s).2) := hZ
  have i4 := L.i4
  have tl := L.2.1.2.1.le
  have ix4 := L.2.2.2
  have l5 := L.l5
  by_cases c : (ftF ((nI s.2.length - nI b) * ((rtF t.1 t.2.2 s).1 - 1)) start (rtF t.1 t.2.2 s).2).1.2 = -1
  · obtain ⟨b1, b2⟩ := ftF_ok hst c
    have c2 := c
    rw [b2] at c2
    obtain ⟨c3, tm, t1, t2, t3⟩ := rtF_ok V (by omega) c2
    rw [t3] at b1 b2 eZ c L3
    obtain ⟨u, hu⟩ : ∃ u, tm = u + 1 := ⟨tm - 1, by omega⟩
    have z1 : nI s.2.length - nI b = nI (s.2.length - b) := pk_sub hb
    have z2 : nI tm - 1 = nI (tm - 1) := by rw [hu, nI_pred]; rfl
    have z3 : nI (s.2.length - b) * nI (tm - 1) = nI ((s.2.length - b) * (tm - 1)) := pk_mul _ _
    have bnd : (s.2.length - b) * (tm - 1) ≤ 500 * 100 := Nat.mul_le_mul (by omega) (by omega)
    rw [z1, z2, z3, nI_add, rtF_k] at b1
    have b3 : ¬ 500 < s.2.length + (s.2.length - b) * (tm - 1) := fun z => b1 (nI_lt (a := 500) z (by omega))
    rw [b2] at eZ L3
    unfold rpC at eZ
    rw [if_pos c2, nI_clamp (by omega), rtF_k] at eZ
    rw [t3]
    simp only [c, if_true]
    show W_X10_repeatFrom _ _ _ _ _ _ _ _ _
    simp only [w_X10_repeatFrom_27, pm_1i_c, pm_2i_c, pm_1l_c, pm_2l_c, pm_1a_c, pm_ia_c, pm_iia_c, pm_va_c, pm_cp_c, pm_k0_c, pm_k1_c, pm_k2_c, pm_k3_c, pm_s1_c, pm_s2_c, pm_s3_c, pm_s4_c, pm_ri_c, pm_ra_c, pm_rn_c, pm_rk_i, pm_rk_z, pm_rk_a, pm_vk_i, pm_vk_z, pm_vk_a, pm_cti, pm_ctr, pm_ldi_z, pm_ldi_s, pm_lda_z, pm_lda_s, pm_cat_n, pm_cat_i, pm_cat_r, pm_cat_l, pm_obj, pm_arr, pm_opt, pm_ird, pm_aln, List.getElem?_cons_zero, List.getElem?_cons_succ, List.set_cons_zero, List.set_cons_succ, List.length_cons, List.length_nil, List.length_set, true_and, and_true, Nat.add_zero, Nat.zero_add, Nat.le_refl, Nat.reduceAdd, Nat.reduceLT, Nat.reduceLeDiff, Nat.zero_le, not_false_eq_true, not_true_eq_false, false_implies, implies_true, true_implies, Nat.zero_lt_succ, Nat.lt_add_one, pm_tl_n, pm_tl_s, sc_uL, show ¬ (1 : Int32) = 0 by decide]
    exact fill tm (rtF t.1 t.2.2 s).2 rtF_k t1 t2 (by omega) eZ.symm h3 _ _ L3 (by rw [l3, l2]; rfl) (f2.tr f3)
  · simp only [c, if_false]
    show W_X10_repeatFrom _ _ _ _ _ _ _ _ _
    simp only [w_X10_repeatFrom_27, w_X10_repeatFrom_30, pm_1i_c, pm_2i_c, pm_1l_c, pm_2l_c, pm_1a_c, pm_ia_c, pm_iia_c, pm_va_c, pm_cp_c, pm_k0_c, pm_k1_c, pm_k2_c, pm_k3_c, pm_s1_c, pm_s2_c, pm_s3_c, pm_s4_c, pm_ri_c, pm_ra_c, pm_rn_c, pm_rk_i, pm_rk_z, pm_rk_a, pm_vk_i, pm_vk_z, pm_vk_a, pm_cti, pm_ctr, pm_ldi_z, pm_ldi_s, pm_lda_z, pm_lda_s, pm_cat_n, pm_cat_i, pm_cat_r, pm_cat_l, pm_obj, pm_arr, pm_opt, pm_ird, pm_aln, List.getElem?_cons_zero, List.getElem?_cons_succ, List.set_cons_zero, List.set_cons_succ, List.length_cons, List.length_nil, List.length_set, true_and, and_true, Nat.add_zero, Nat.zero_add, Nat.le_refl, Nat.reduceAdd, Nat.reduceLT, Nat.reduceLeDiff, Nat.zero_le, not_false_eq_true, not_true_eq_false, false_implies, implies_true, true_implies, Nat.zero_lt_succ, Nat.lt_add_one, pm_tl_n, pm_tl_s, sc_uL, l3, l2]
    unfold rpC at eZ
    rw [if_neg c] at eZ
    rw [eZ]
    exact ⟨L3, f2.tr f3⟩
end XS
