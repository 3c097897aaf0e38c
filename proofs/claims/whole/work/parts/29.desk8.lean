/-! Desk: settings, hot keys, counts. -/
def setG (A : AD) (w : Int32) : Int32 := if w = 0 then sc A 8 else if w = 1 then sc A 9 else if w = 2 then sc A 10 else if w = 3 then sc A 11 else if w = 4 then sc A 12 else sc A 13
def begF (A : AD) (n : Int32) : AD := uS (uS (uS (uS (uS A 12 n) 15 1) 16 0) 17 0) 18 0
def widF (A : AD) (n : Int32) : AD := uN (uC (uS (uS A 13 n) 0 0) (fun _ => 0)) (fun _ => 0)
def setF (A : AD) (w n : Int32) : AD := if w = 0 then fitF (uS A 8 n) else if w = 1 then fitF (uS A 9 n) else if w = 2 then fitF (uS A 10 n) else if w = 3 then halN 32 (uS A 11 n) else if w = 4 then begF A n else widF A n
def srtP (A : AD) (key y : Int32) : Bool := decide (¬ estF A y < estF A key)
def srtI (A : AD) (us : List Int32) (key : Int32) : List Int32 := us.takeWhile (srtP A key) ++ key :: us.dropWhile (srtP A key)
def hotL (A : AD) : List Int32 := (li A 1).foldl (srtI A) ((li A 2).foldl (srtI A) ((li A 3).foldl (srtI A) []))
def kwP (A : AD) (least y : Int32) : Bool := decide (¬ estF A y < least)
def kwN (A : AD) (least : Int32) : Nat := (li A 1).countP (kwP A least) + (li A 2).countP (kwP A least) + (li A 3).countP (kwP A least)
theorem srtI_len (A : AD) (us : List Int32) (key : Int32) : (srtI A us key).length = us.length + 1 := by
  unfold srtI
  rw [List.length_append, List.length_cons, ← Nat.add_assoc, ← List.length_append, List.takeWhile_append_dropWhile]
theorem fold_len (A : AD) : ∀ (xs us : List Int32), (xs.foldl (srtI A) us).length = us.length + xs.length
  | [], us => rfl
  | x :: xs, us => by
    rw [List.foldl_cons, fold_len A xs, srtI_len, List.length_cons]
    omega
theorem tw_at {p : Int32 → Bool} : ∀ {us : List Int32} {k : Nat}, k ≤ us.length → (∀ j, j < k → p (us.getD j (-1)) = true) → (k < us.length → p (us.getD k (-1)) = false) → us.take k = us.takeWhile p ∧ us.drop k = us.dropWhile p
  | [], k, h1, _, _ => by
    have : k = 0 := by simpa using h1
    subst this
    exact ⟨rfl, rfl⟩
  | u :: us, 0, _, _, h3 => by
    have : p u = false := h3 (by simp)
    simp [List.takeWhile_cons, List.dropWhile_cons, this]
  | u :: us, k + 1, h1, h2, h3 => by
    have e : p u = true := h2 0 (by omega)
    obtain ⟨q1, q2⟩ := tw_at (p := p) (us := us) (k := k) (by simpa using h1) (fun j hj => h2 (j + 1) (by omega)) (fun hk => h3 (by simpa using hk))
    simp [List.takeWhile_cons, List.dropWhile_cons, e, q1, q2]
section DT
variable {h : pmH} {B : Nat} {A : AD}
theorem c_Desk_setting (D0 : dk_ h B A) (w : Int32) (d : Nat) : PM (d + 1) 20 [.ref B, .int w] h (fun v h' => v = some (.int (setG A w)) ∧ h' = h) := by
  refine en_X2_setting rfl rfl ?_
  have xo0 := D0.o
  have xa0 := D0.sh
  have xb0 := D0.ko
  have xc0 := D0.lo
  have xf0 := D0.co
  have x10 := D0.wo
  have x20 := D0.to
  have x30 := D0.so
  have x40 := D0.go
  have x50 := D0.po
  obtain ⟨dn, cell, hdn⟩ := D0.cl
  simp only [w_X2_setting_0, w_X2_setting_1, w_X2_setting_36, w_X2_setting_37, w_X2_setting_40, w_X2_setting_43, w_X2_setting_44, w_X2_setting_45, w_X2_setting_48, w_X2_setting_51, w_X2_setting_52, w_X2_setting_53, w_X2_setting_56, w_X2_setting_59, w_X2_setting_60, w_X2_setting_61, w_X2_setting_64, w_X2_setting_67, w_X2_setting_68, w_X2_setting_69, w_X2_setting_72, w_X2_setting_75, w_X2_setting_76, w_X2_setting_77, w_X2_setting_80, w_X2_setting_83, pm_1i_c, pm_2i_c, pm_1l_c, pm_2l_c, pm_1a_c, pm_ia_c, pm_iia_c, pm_va_c, pm_cp_c, pm_k0_c, pm_k1_c, pm_k2_c, pm_k3_c, pm_s1_c, pm_s2_c, pm_s3_c, pm_s4_c, pm_ri_c, pm_ra_c, pm_rn_c, pm_rk_i, pm_rk_z, pm_rk_a, pm_vk_i, pm_vk_z, pm_vk_a, pm_cti, pm_ctr, pm_ldi_z, pm_ldi_s, pm_lda_z, pm_lda_s, pm_cat_n, pm_cat_i, pm_cat_r, pm_cat_l, pm_obj, pm_arr, pm_opt, pm_ird, pm_aln, List.getElem?_cons_zero, List.getElem?_cons_succ, List.set_cons_zero, List.set_cons_succ, List.length_cons, List.length_nil, List.length_set, true_and, and_true, Nat.add_zero, Nat.zero_add, Nat.le_refl, Nat.reduceAdd, Nat.reduceLT, Nat.reduceLeDiff, Nat.zero_le, not_false_eq_true, not_true_eq_false, false_implies, implies_true, true_implies, Nat.zero_lt_succ, Nat.lt_add_one, xo0, xa0, xb0, xc0, xf0, x10, x20, x30, x40, x50, pm_sw_c, pm_sw_n, Int32.reduceAdd, cell]
  unfold setG
  refine ⟨fun c0 => by rw [if_pos c0], fun c0 => ?_⟩
  rw [if_neg c0]
  refine ⟨fun c0 => by rw [if_pos c0], fun c0 => ?_⟩
  rw [if_neg c0]
  refine ⟨fun c0 => by rw [if_pos c0], fun c0 => ?_⟩
  rw [if_neg c0]
  refine ⟨fun c0 => by rw [if_pos c0], fun c0 => ?_⟩
  rw [if_neg c0]
  exact ⟨fun c0 => by rw [if_pos c0], fun c0 => by rw [if_neg c0]⟩
theorem c_Desk_set (hl : h.length ≤ 1000000) (D0 : dk_ h B A) (V : skV A) (w n : Int32) (d : Nat) : PM (d + 6) 21 [.ref B, .int w, .int n] h (fun v h' => v = none ∧ dk_ h' B (setF A w n) ∧ frd h h' B) := by
  refine en_X2_set rfl rfl rfl ?_
  have xo0 := D0.o
  have xa0 := D0.sh
  have xb0 := D0.ko
  have xc0 := D0.lo
  have xf0 := D0.co
  have x10 := D0.wo
  have x20 := D0.to
  have x30 := D0.so
  have x40 := D0.go
  have x50 := D0.po
  obtain ⟨dn, cell, hdn⟩ := D0.cl
  simp only [w_X2_set_0, w_X2_set_1, w_X2_set_36, w_X2_set_37, w_X2_set_40, w_X2_set_41, w_X2_set_44, w_X2_set_51, w_X2_set_52, w_X2_set_55, w_X2_set_56, w_X2_set_59, w_X2_set_66, w_X2_set_67, w_X2_set_70, w_X2_set_71, w_X2_set_74, w_X2_set_81, w_X2_set_82, w_X2_set_85, w_X2_set_86, w_X2_set_89, w_X2_set_92, w_X2_set_93, w_X2_set_96, w_X2_set_97, w_X2_set_100, w_X2_set_103, w_X2_set_104, w_X2_set_107, w_X2_set_108, w_X2_set_111, pm_1i_c, pm_2i_c, pm_1l_c, pm_2l_c, pm_1a_c, pm_ia_c, pm_iia_c, pm_va_c, pm_cp_c, pm_k0_c, pm_k1_c, pm_k2_c, pm_k3_c, pm_s1_c, pm_s2_c, pm_s3_c, pm_s4_c, pm_ri_c, pm_ra_c, pm_rn_c, pm_rk_i, pm_rk_z, pm_rk_a, pm_vk_i, pm_vk_z, pm_vk_a, pm_cti, pm_ctr, pm_ldi_z, pm_ldi_s, pm_lda_z, pm_lda_s, pm_cat_n, pm_cat_i, pm_cat_r, pm_cat_l, pm_obj, pm_arr, pm_opt, pm_ird, pm_aln, List.getElem?_cons_zero, List.getElem?_cons_succ, List.set_cons_zero, List.set_cons_succ, List.length_cons, List.length_nil, List.length_set, true_and, and_true, Nat.add_zero, Nat.zero_add, Nat.le_refl, Nat.reduceAdd, Nat.reduceLT, Nat.reduceLeDiff, Nat.zero_le, not_false_eq_true, not_true_eq_false, false_implies, implies_true, true_implies, Nat.zero_lt_succ, Nat.lt_add_one, xo0, xa0, xb0, xc0, xf0, x10, x20, x30, x40, x50, pm_sw_c, pm_sw_n, Int32.reduceAdd, cell]
  unfold setF
  refine ⟨fun c0 => ?_, fun c0 => ?_⟩
  · rw [if_pos c0]
    obtain ⟨h2, E2, l2, f2, D2⟩ := D0.psh (uS A 8 n) n (sc A 9) (sc A 10)
    rw [E2]
    have xo2 := D2.o
    have xa2 := D2.sh
    have xb2 := D2.ko
    have xc2 := D2.lo
    have xf2 := D2.co
    have x12 := D2.wo
    have x22 := D2.to
    have x32 := D2.so
    have x42 := D2.go
    have x52 := D2.po
    simp only [w_X2_set_44, w_X2_set_45, w_X2_set_48, pm_1i_c, pm_2i_c, pm_1l_c, pm_2l_c, pm_1a_c, pm_ia_c, pm_iia_c, pm_va_c, pm_cp_c, pm_k0_c, pm_k1_c, pm_k2_c, pm_k3_c, pm_s1_c, pm_s2_c, pm_s3_c, pm_s4_c, pm_ri_c, pm_ra_c, pm_rn_c, pm_rk_i, pm_rk_z, pm_rk_a, pm_vk_i, pm_vk_z, pm_vk_a, pm_cti, pm_ctr, pm_ldi_z, pm_ldi_s, pm_lda_z, pm_lda_s, pm_cat_n, pm_cat_i, pm_cat_r, pm_cat_l, pm_obj, pm_arr, pm_opt, pm_ird, pm_aln, List.getElem?_cons_zero, List.getElem?_cons_succ, List.set_cons_zero, List.set_cons_succ, List.length_cons, List.length_nil, List.length_set, true_and, and_true, Nat.add_zero, Nat.zero_add, Nat.le_refl, Nat.reduceAdd, Nat.reduceLT, Nat.reduceLeDiff, Nat.zero_le, not_false_eq_true, not_true_eq_false, false_implies, implies_true, true_implies, Nat.zero_lt_succ, Nat.lt_add_one, xo2, xa2, xb2, xc2, xf2, x12, x22, x32, x42, x52, l2]
    refine PM_use (c_Desk_fit (by rw [l2]; exact hl) D2 (show skV (uS A 8 n) from V) d) ?_
    rintro v h3 l3 ⟨rfl, K1, K2⟩
    show W_X2_set _ _ _ _ _ _ _ _ _
    simp only [w_X2_set_48, w_X2_set_111, pm_1i_c, pm_2i_c, pm_1l_c, pm_2l_c, pm_1a_c, pm_ia_c, pm_iia_c, pm_va_c, pm_cp_c, pm_k0_c, pm_k1_c, pm_k2_c, pm_k3_c, pm_s1_c, pm_s2_c, pm_s3_c, pm_s4_c, pm_ri_c, pm_ra_c, pm_rn_c, pm_rk_i, pm_rk_z, pm_rk_a, pm_vk_i, pm_vk_z, pm_vk_a, pm_cti, pm_ctr, pm_ldi_z, pm_ldi_s, pm_lda_z, pm_lda_s, pm_cat_n, pm_cat_i, pm_cat_r, pm_cat_l, pm_obj, pm_arr, pm_opt, pm_ird, pm_aln, List.getElem?_cons_zero, List.getElem?_cons_succ, List.set_cons_zero, List.set_cons_succ, List.length_cons, List.length_nil, List.length_set, true_and, and_true, Nat.add_zero, Nat.zero_add, Nat.le_refl, Nat.reduceAdd, Nat.reduceLT, Nat.reduceLeDiff, Nat.zero_le, not_false_eq_true, not_true_eq_false, false_implies, implies_true, true_implies, Nat.zero_lt_succ, Nat.lt_add_one, pm_tl_n, pm_tl_s, sc_uL, l3, l2]
    exact ⟨K1, f2.tr K2⟩
  rw [if_neg c0]
  refine ⟨fun c0 => ?_, fun c0 => ?_⟩
  · rw [if_pos c0]
    obtain ⟨h2, E2, l2, f2, D2⟩ := D0.psh (uS A 9 n) (sc A 8) n (sc A 10)
    rw [E2]
    have xo2 := D2.o
    have xa2 := D2.sh
    have xb2 := D2.ko
    have xc2 := D2.lo
    have xf2 := D2.co
    have x12 := D2.wo
    have x22 := D2.to
    have x32 := D2.so
    have x42 := D2.go
    have x52 := D2.po
    simp only [w_X2_set_59, w_X2_set_60, w_X2_set_63, pm_1i_c, pm_2i_c, pm_1l_c, pm_2l_c, pm_1a_c, pm_ia_c, pm_iia_c, pm_va_c, pm_cp_c, pm_k0_c, pm_k1_c, pm_k2_c, pm_k3_c, pm_s1_c, pm_s2_c, pm_s3_c, pm_s4_c, pm_ri_c, pm_ra_c, pm_rn_c, pm_rk_i, pm_rk_z, pm_rk_a, pm_vk_i, pm_vk_z, pm_vk_a, pm_cti, pm_ctr, pm_ldi_z, pm_ldi_s, pm_lda_z, pm_lda_s, pm_cat_n, pm_cat_i, pm_cat_r, pm_cat_l, pm_obj, pm_arr, pm_opt, pm_ird, pm_aln, List.getElem?_cons_zero, List.getElem?_cons_succ, List.set_cons_zero, List.set_cons_succ, List.length_cons, List.length_nil, List.length_set, true_and, and_true, Nat.add_zero, Nat.zero_add, Nat.le_refl, Nat.reduceAdd, Nat.reduceLT, Nat.reduceLeDiff, Nat.zero_le, not_false_eq_true, not_true_eq_false, false_implies, implies_true, true_implies, Nat.zero_lt_succ, Nat.lt_add_one, xo2, xa2, xb2, xc2, xf2, x12, x22, x32, x42, x52, l2]
    refine PM_use (c_Desk_fit (by rw [l2]; exact hl) D2 (show skV (uS A 9 n) from V) d) ?_
    rintro v h3 l3 ⟨rfl, K1, K2⟩
    show W_X2_set _ _ _ _ _ _ _ _ _
    simp only [w_X2_set_63, w_X2_set_111, pm_1i_c, pm_2i_c, pm_1l_c, pm_2l_c, pm_1a_c, pm_ia_c, pm_iia_c, pm_va_c, pm_cp_c, pm_k0_c, pm_k1_c, pm_k2_c, pm_k3_c, pm_s1_c, pm_s2_c, pm_s3_c, pm_s4_c, pm_ri_c, pm_ra_c, pm_rn_c, pm_rk_i, pm_rk_z, pm_rk_a, pm_vk_i, pm_vk_z, pm_vk_a, pm_cti, pm_ctr, pm_ldi_z, pm_ldi_s, pm_lda_z, pm_lda_s, pm_cat_n, pm_cat_i, pm_cat_r, pm_cat_l, pm_obj, pm_arr, pm_opt, pm_ird, pm_aln, List.getElem?_cons_zero, List.getElem?_cons_succ, List.set_cons_zero, List.set_cons_succ, List.length_cons, List.length_nil, List.length_set, true_and, and_true, Nat.add_zero, Nat.zero_add, Nat.le_refl, Nat.reduceAdd, Nat.reduceLT, Nat.reduceLeDiff, Nat.zero_le, not_false_eq_true, not_true_eq_false, false_implies, implies_true, true_implies, Nat.zero_lt_succ, Nat.lt_add_one, pm_tl_n, pm_tl_s, sc_uL, l3, l2]
    exact ⟨K1, f2.tr K2⟩
  rw [if_neg c0]
  refine ⟨fun c0 => ?_, fun c0 => ?_⟩
  · rw [if_pos c0]
    obtain ⟨h2, E2, l2, f2, D2⟩ := D0.psh (uS A 10 n) (sc A 8) (sc A 9) n
    rw [E2]
    have xo2 := D2.o
    have xa2 := D2.sh
    have xb2 := D2.ko
    have xc2 := D2.lo
    have xf2 := D2.co
    have x12 := D2.wo
    have x22 := D2.to
    have x32 := D2.so
    have x42 := D2.go
    have x52 := D2.po
    simp only [w_X2_set_74, w_X2_set_75, w_X2_set_78, pm_1i_c, pm_2i_c, pm_1l_c, pm_2l_c, pm_1a_c, pm_ia_c, pm_iia_c, pm_va_c, pm_cp_c, pm_k0_c, pm_k1_c, pm_k2_c, pm_k3_c, pm_s1_c, pm_s2_c, pm_s3_c, pm_s4_c, pm_ri_c, pm_ra_c, pm_rn_c, pm_rk_i, pm_rk_z, pm_rk_a, pm_vk_i, pm_vk_z, pm_vk_a, pm_cti, pm_ctr, pm_ldi_z, pm_ldi_s, pm_lda_z, pm_lda_s, pm_cat_n, pm_cat_i, pm_cat_r, pm_cat_l, pm_obj, pm_arr, pm_opt, pm_ird, pm_aln, List.getElem?_cons_zero, List.getElem?_cons_succ, List.set_cons_zero, List.set_cons_succ, List.length_cons, List.length_nil, List.length_set, true_and, and_true, Nat.add_zero, Nat.zero_add, Nat.le_refl, Nat.reduceAdd, Nat.reduceLT, Nat.reduceLeDiff, Nat.zero_le, not_false_eq_true, not_true_eq_false, false_implies, implies_true, true_implies, Nat.zero_lt_succ, Nat.lt_add_one, xo2, xa2, xb2, xc2, xf2, x12, x22, x32, x42, x52, l2]
    refine PM_use (c_Desk_fit (by rw [l2]; exact hl) D2 (show skV (uS A 10 n) from V) d) ?_
    rintro v h3 l3 ⟨rfl, K1, K2⟩
    show W_X2_set _ _ _ _ _ _ _ _ _
    simp only [w_X2_set_78, w_X2_set_111, pm_1i_c, pm_2i_c, pm_1l_c, pm_2l_c, pm_1a_c, pm_ia_c, pm_iia_c, pm_va_c, pm_cp_c, pm_k0_c, pm_k1_c, pm_k2_c, pm_k3_c, pm_s1_c, pm_s2_c, pm_s3_c, pm_s4_c, pm_ri_c, pm_ra_c, pm_rn_c, pm_rk_i, pm_rk_z, pm_rk_a, pm_vk_i, pm_vk_z, pm_vk_a, pm_cti, pm_ctr, pm_ldi_z, pm_ldi_s, pm_lda_z, pm_lda_s, pm_cat_n, pm_cat_i, pm_cat_r, pm_cat_l, pm_obj, pm_arr, pm_opt, pm_ird, pm_aln, List.getElem?_cons_zero, List.getElem?_cons_succ, List.set_cons_zero, List.set_cons_succ, List.length_cons, List.length_nil, List.length_set, true_and, and_true, Nat.add_zero, Nat.zero_add, Nat.le_refl, Nat.reduceAdd, Nat.reduceLT, Nat.reduceLeDiff, Nat.zero_le, not_false_eq_true, not_true_eq_false, false_implies, implies_true, true_implies, Nat.zero_lt_succ, Nat.lt_add_one, pm_tl_n, pm_tl_s, sc_uL, l3, l2]
    exact ⟨K1, f2.tr K2⟩
  rw [if_neg c0]
  refine ⟨fun c0 => ?_, fun c0 => ?_⟩
  · rw [if_pos c0]
    refine PM_use (c_Sketch_setSample D0.sk n (d + 2)) ?_
    rintro v h3 l3 ⟨rfl, K1, K2⟩
    show W_X2_set _ _ _ _ _ _ _ _ _
    simp only [w_X2_set_89, w_X2_set_111, pm_1i_c, pm_2i_c, pm_1l_c, pm_2l_c, pm_1a_c, pm_ia_c, pm_iia_c, pm_va_c, pm_cp_c, pm_k0_c, pm_k1_c, pm_k2_c, pm_k3_c, pm_s1_c, pm_s2_c, pm_s3_c, pm_s4_c, pm_ri_c, pm_ra_c, pm_rn_c, pm_rk_i, pm_rk_z, pm_rk_a, pm_vk_i, pm_vk_z, pm_vk_a, pm_cti, pm_ctr, pm_ldi_z, pm_ldi_s, pm_lda_z, pm_lda_s, pm_cat_n, pm_cat_i, pm_cat_r, pm_cat_l, pm_obj, pm_arr, pm_opt, pm_ird, pm_aln, List.getElem?_cons_zero, List.getElem?_cons_succ, List.set_cons_zero, List.set_cons_succ, List.length_cons, List.length_nil, List.length_set, true_and, and_true, Nat.add_zero, Nat.zero_add, Nat.le_refl, Nat.reduceAdd, Nat.reduceLT, Nat.reduceLeDiff, Nat.zero_le, not_false_eq_true, not_true_eq_false, false_implies, implies_true, true_implies, Nat.zero_lt_succ, Nat.lt_add_one, pm_tl_n, pm_tl_s, sc_uL, l3]
    exact ⟨D0.usk K1 K2 (skEq.tr (A1 := uS A 11 n) ⟨rfl, rfl, fun i a b c _ _ => sc_ne c⟩ (skEq_halN 32 _)), frd_3 K2⟩
  rw [if_neg c0]
  refine ⟨fun c0 => ?_, fun c0 => ?_⟩
  · rw [if_pos c0]
    refine PM_use (c_Climb_begin cell n (d + 4)) ?_
    rintro v h3 l3 ⟨rfl, E3⟩
    show W_X2_set _ _ _ _ _ _ _ _ _
    simp only [w_X2_set_100, w_X2_set_111, pm_1i_c, pm_2i_c, pm_1l_c, pm_2l_c, pm_1a_c, pm_ia_c, pm_iia_c, pm_va_c, pm_cp_c, pm_k0_c, pm_k1_c, pm_k2_c, pm_k3_c, pm_s1_c, pm_s2_c, pm_s3_c, pm_s4_c, pm_ri_c, pm_ra_c, pm_rn_c, pm_rk_i, pm_rk_z, pm_rk_a, pm_vk_i, pm_vk_z, pm_vk_a, pm_cti, pm_ctr, pm_ldi_z, pm_ldi_s, pm_lda_z, pm_lda_s, pm_cat_n, pm_cat_i, pm_cat_r, pm_cat_l, pm_obj, pm_arr, pm_opt, pm_ird, pm_aln, List.getElem?_cons_zero, List.getElem?_cons_succ, List.set_cons_zero, List.set_cons_succ, List.length_cons, List.length_nil, List.length_set, true_and, and_true, Nat.add_zero, Nat.zero_add, Nat.le_refl, Nat.reduceAdd, Nat.reduceLT, Nat.reduceLeDiff, Nat.zero_le, not_false_eq_true, not_true_eq_false, false_implies, implies_true, true_implies, Nat.zero_lt_succ, Nat.lt_add_one, pm_tl_n, pm_tl_s, sc_uL, l3]
    subst E3
    exact ⟨D0.ucl ⟨0, by rw [hset_s, cell]; rfl, Or.inl ⟨rfl, rfl⟩⟩ (fun i hi => hset_n (Ne.symm hi)) (fun i h1 h2 => by unfold begF; rw [sc_ne (by omega), sc_ne (by omega), sc_ne (by omega), sc_ne (by omega), sc_ne (by omega)]) rfl, frd_s (by omega)⟩
  · rw [if_neg c0]
    refine PM_use (c_Sketch_setWide D0.sk n (d + 3)) ?_
    rintro v h3 l3 ⟨rfl, K1, K2⟩
    show W_X2_set _ _ _ _ _ _ _ _ _
    simp only [w_X2_set_111, pm_1i_c, pm_2i_c, pm_1l_c, pm_2l_c, pm_1a_c, pm_ia_c, pm_iia_c, pm_va_c, pm_cp_c, pm_k0_c, pm_k1_c, pm_k2_c, pm_k3_c, pm_s1_c, pm_s2_c, pm_s3_c, pm_s4_c, pm_ri_c, pm_ra_c, pm_rn_c, pm_rk_i, pm_rk_z, pm_rk_a, pm_vk_i, pm_vk_z, pm_vk_a, pm_cti, pm_ctr, pm_ldi_z, pm_ldi_s, pm_lda_z, pm_lda_s, pm_cat_n, pm_cat_i, pm_cat_r, pm_cat_l, pm_obj, pm_arr, pm_opt, pm_ird, pm_aln, List.getElem?_cons_zero, List.getElem?_cons_succ, List.set_cons_zero, List.set_cons_succ, List.length_cons, List.length_nil, List.length_set, true_and, and_true, Nat.add_zero, Nat.zero_add, Nat.le_refl, Nat.reduceAdd, Nat.reduceLT, Nat.reduceLeDiff, Nat.zero_le, not_false_eq_true, not_true_eq_false, false_implies, implies_true, true_implies, Nat.zero_lt_succ, Nat.lt_add_one, pm_tl_n, pm_tl_s, sc_uL, l3]
    exact ⟨D0.usk K1 K2 ⟨rfl, rfl, fun i a b c e f => by show sc (uS (uS A 13 n) 0 0) i = _; rw [sc_ne a, sc_ne e]⟩, frd_3 K2⟩
theorem c_Desk_sortIn (hl : h.length ≤ 1000000) (D0 : dk_ h B A) (V : skV A) {us : List Int32} (S : rw_ h (B + 24) 65 us) (hu : us.length < 65) (key : Int32) (d : Nat) : PM (d + 4) 23 [.ref B, .int key] h (fun v h' => v = none ∧ dk_ h' B A ∧ rw_ h' (B + 24) 65 (srtI A us key) ∧ frd h h' B) := by
  refine en_X2_sortIn rfl rfl ?_
  have so := S.o
  have fin : ∀ k, k ≤ us.length → (∀ j, j < k → srtP A key (us.getD j (-1)) = true) → (k < us.length → srtP A key (us.getD k (-1)) = false) → W_X2_sortIn (d + 3) (h.length + 0) 0 (fun v h' => v = none ∧ dk_ h' B A ∧ rw_ h' (B + 24) 65 (srtI A us key) ∧ frd h h' B) 47 [some (.ref B), some (.int key), some (.int (estF A key)), some (.int (nI k))] [] h 0 := by
    intro k hk q1 q2
    obtain ⟨t1, t2⟩ := tw_at hk q1 q2
    have xo0 := D0.o
    have xa0 := D0.sh
    have xb0 := D0.ko
    have xc0 := D0.lo
    have xf0 := D0.co
    have x10 := D0.wo
    have x20 := D0.to
    have x30 := D0.so
    have x40 := D0.go
    have x50 := D0.po
    simp only [w_X2_sortIn_47, w_X2_sortIn_48, w_X2_sortIn_51, w_X2_sortIn_52, w_X2_sortIn_53, w_X2_sortIn_56, pm_1i_c, pm_2i_c, pm_1l_c, pm_2l_c, pm_1a_c, pm_ia_c, pm_iia_c, pm_va_c, pm_cp_c, pm_k0_c, pm_k1_c, pm_k2_c, pm_k3_c, pm_s1_c, pm_s2_c, pm_s3_c, pm_s4_c, pm_ri_c, pm_ra_c, pm_rn_c, pm_rk_i, pm_rk_z, pm_rk_a, pm_vk_i, pm_vk_z, pm_vk_a, pm_cti, pm_ctr, pm_ldi_z, pm_ldi_s, pm_lda_z, pm_lda_s, pm_cat_n, pm_cat_i, pm_cat_r, pm_cat_l, pm_obj, pm_arr, pm_opt, pm_ird, pm_aln, List.getElem?_cons_zero, List.getElem?_cons_succ, List.set_cons_zero, List.set_cons_succ, List.length_cons, List.length_nil, List.length_set, true_and, and_true, Nat.add_zero, Nat.zero_add, Nat.le_refl, Nat.reduceAdd, Nat.reduceLT, Nat.reduceLeDiff, Nat.zero_le, not_false_eq_true, not_true_eq_false, false_implies, implies_true, true_implies, Nat.zero_lt_succ, Nat.lt_add_one, xo0, xa0, xb0, xc0, xf0, x10, x20, x30, x40, x50, so]
    refine PM_use (c_Row_insert S hk (by omega) key (d + 2)) ?_
    rintro v h2 l2 ⟨rfl, K1, K2⟩
    show W_X2_sortIn _ _ _ _ _ _ _ _ _
    simp only [w_X2_sortIn_56, pm_1i_c, pm_2i_c, pm_1l_c, pm_2l_c, pm_1a_c, pm_ia_c, pm_iia_c, pm_va_c, pm_cp_c, pm_k0_c, pm_k1_c, pm_k2_c, pm_k3_c, pm_s1_c, pm_s2_c, pm_s3_c, pm_s4_c, pm_ri_c, pm_ra_c, pm_rn_c, pm_rk_i, pm_rk_z, pm_rk_a, pm_vk_i, pm_vk_z, pm_vk_a, pm_cti, pm_ctr, pm_ldi_z, pm_ldi_s, pm_lda_z, pm_lda_s, pm_cat_n, pm_cat_i, pm_cat_r, pm_cat_l, pm_obj, pm_arr, pm_opt, pm_ird, pm_aln, List.getElem?_cons_zero, List.getElem?_cons_succ, List.set_cons_zero, List.set_cons_succ, List.length_cons, List.length_nil, List.length_set, true_and, and_true, Nat.add_zero, Nat.zero_add, Nat.le_refl, Nat.reduceAdd, Nat.reduceLT, Nat.reduceLeDiff, Nat.zero_le, not_false_eq_true, not_true_eq_false, false_implies, implies_true, true_implies, Nat.zero_lt_succ, Nat.lt_add_one, pm_tl_n, pm_tl_s, sc_uL, l2]
    have e : rw_ins us k key 65 = srtI A us key := by
      unfold rw_ins srtI
      rw [t1, t2, List.take_of_length_le]
      have := srtI_len A us key
      unfold srtI at this
      omega
    rw [e] at K1
    exact ⟨D0.uu K1 K2, K1, frd_2 7 K2 (by omega)⟩
  have loop : ∀ n k, us.length - k = n → k ≤ us.length → (∀ j, j < k → srtP A key (us.getD j (-1)) = true) → W_X2_sortIn (d + 3) (h.length + 0) 0 (fun v h' => v = none ∧ dk_ h' B A ∧ rw_ h' (B + 24) 65 (srtI A us key) ∧ frd h h' B) 11 [some (.ref B), some (.int key), some (.int (estF A key)), some (.int (nI k))] [] h 0 := by
    intro n
    induction n with
    | zero =>
      intro k hn hk q1
      have : k = us.length := by omega
      subst this
      have e1 : ¬ nI us.length < nI us.length := nI_nlt (by omega) (by omega)
      have xo0 := D0.o
      have xa0 := D0.sh
      have xb0 := D0.ko
      have xc0 := D0.lo
      have xf0 := D0.co
      have x10 := D0.wo
      have x20 := D0.to
      have x30 := D0.so
      have x40 := D0.go
      have x50 := D0.po
      rw [w_X2_sortIn_11]
      simp only [w_X2_sortIn_12, w_X2_sortIn_13, w_X2_sortIn_16, w_X2_sortIn_19, pm_1i_c, pm_2i_c, pm_1l_c, pm_2l_c, pm_1a_c, pm_ia_c, pm_iia_c, pm_va_c, pm_cp_c, pm_k0_c, pm_k1_c, pm_k2_c, pm_k3_c, pm_s1_c, pm_s2_c, pm_s3_c, pm_s4_c, pm_ri_c, pm_ra_c, pm_rn_c, pm_rk_i, pm_rk_z, pm_rk_a, pm_vk_i, pm_vk_z, pm_vk_a, pm_cti, pm_ctr, pm_ldi_z, pm_ldi_s, pm_lda_z, pm_lda_s, pm_cat_n, pm_cat_i, pm_cat_r, pm_cat_l, pm_obj, pm_arr, pm_opt, pm_ird, pm_aln, List.getElem?_cons_zero, List.getElem?_cons_succ, List.set_cons_zero, List.set_cons_succ, List.length_cons, List.length_nil, List.length_set, true_and, and_true, Nat.add_zero, Nat.zero_add, Nat.le_refl, Nat.reduceAdd, Nat.reduceLT, Nat.reduceLeDiff, Nat.zero_le, not_false_eq_true, not_true_eq_false, false_implies, implies_true, true_implies, Nat.zero_lt_succ, Nat.lt_add_one, xo0, xa0, xb0, xc0, xf0, x10, x20, x30, x40, x50, so]
      refine PM_use (c_Row_size S (d + 2)) ?_
      rintro v h1 l1 ⟨rfl, rfl⟩
      show W_X2_sortIn _ _ _ _ _ _ _ _ _
      simp only [w_X2_sortIn_19, pm_1i_c, pm_2i_c, pm_1l_c, pm_2l_c, pm_1a_c, pm_ia_c, pm_iia_c, pm_va_c, pm_cp_c, pm_k0_c, pm_k1_c, pm_k2_c, pm_k3_c, pm_s1_c, pm_s2_c, pm_s3_c, pm_s4_c, pm_ri_c, pm_ra_c, pm_rn_c, pm_rk_i, pm_rk_z, pm_rk_a, pm_vk_i, pm_vk_z, pm_vk_a, pm_cti, pm_ctr, pm_ldi_z, pm_ldi_s, pm_lda_z, pm_lda_s, pm_cat_n, pm_cat_i, pm_cat_r, pm_cat_l, pm_obj, pm_arr, pm_opt, pm_ird, pm_aln, List.getElem?_cons_zero, List.getElem?_cons_succ, List.set_cons_zero, List.set_cons_succ, List.length_cons, List.length_nil, List.length_set, true_and, and_true, Nat.add_zero, Nat.zero_add, Nat.le_refl, Nat.reduceAdd, Nat.reduceLT, Nat.reduceLeDiff, Nat.zero_le, not_false_eq_true, not_true_eq_false, false_implies, implies_true, true_implies, Nat.zero_lt_succ, Nat.lt_add_one, pm_tl_n, pm_tl_s, sc_uL, xo0, xa0, xb0, xc0, xf0, x10, x20, x30, x40, x50, e1]
      exact fin _ hk q1 (fun z => absurd z (by omega))
    | succ n ih =>
      intro k hn hk q1
      have hk2 : k < us.length := by omega
      have e1 : nI k < nI us.length := nI_lt (by omega) (by omega)
      have xo0 := D0.o
      have xa0 := D0.sh
      have xb0 := D0.ko
      have xc0 := D0.lo
      have xf0 := D0.co
      have x10 := D0.wo
      have x20 := D0.to
      have x30 := D0.so
      have x40 := D0.go
      have x50 := D0.po
      rw [w_X2_sortIn_11]
      simp only [w_X2_sortIn_12, w_X2_sortIn_13, w_X2_sortIn_16, w_X2_sortIn_19, pm_1i_c, pm_2i_c, pm_1l_c, pm_2l_c, pm_1a_c, pm_ia_c, pm_iia_c, pm_va_c, pm_cp_c, pm_k0_c, pm_k1_c, pm_k2_c, pm_k3_c, pm_s1_c, pm_s2_c, pm_s3_c, pm_s4_c, pm_ri_c, pm_ra_c, pm_rn_c, pm_rk_i, pm_rk_z, pm_rk_a, pm_vk_i, pm_vk_z, pm_vk_a, pm_cti, pm_ctr, pm_ldi_z, pm_ldi_s, pm_lda_z, pm_lda_s, pm_cat_n, pm_cat_i, pm_cat_r, pm_cat_l, pm_obj, pm_arr, pm_opt, pm_ird, pm_aln, List.getElem?_cons_zero, List.getElem?_cons_succ, List.set_cons_zero, List.set_cons_succ, List.length_cons, List.length_nil, List.length_set, true_and, and_true, Nat.add_zero, Nat.zero_add, Nat.le_refl, Nat.reduceAdd, Nat.reduceLT, Nat.reduceLeDiff, Nat.zero_le, not_false_eq_true, not_true_eq_false, false_implies, implies_true, true_implies, Nat.zero_lt_succ, Nat.lt_add_one, xo0, xa0, xb0, xc0, xf0, x10, x20, x30, x40, x50, so]
      refine PM_use (c_Row_size S (d + 2)) ?_
      rintro v h1 l1 ⟨rfl, rfl⟩
      show W_X2_sortIn _ _ _ _ _ _ _ _ _
      simp only [w_X2_sortIn_19, w_X2_sortIn_22, w_X2_sortIn_23, w_X2_sortIn_26, w_X2_sortIn_27, w_X2_sortIn_30, w_X2_sortIn_31, pm_1i_c, pm_2i_c, pm_1l_c, pm_2l_c, pm_1a_c, pm_ia_c, pm_iia_c, pm_va_c, pm_cp_c, pm_k0_c, pm_k1_c, pm_k2_c, pm_k3_c, pm_s1_c, pm_s2_c, pm_s3_c, pm_s4_c, pm_ri_c, pm_ra_c, pm_rn_c, pm_rk_i, pm_rk_z, pm_rk_a, pm_vk_i, pm_vk_z, pm_vk_a, pm_cti, pm_ctr, pm_ldi_z, pm_ldi_s, pm_lda_z, pm_lda_s, pm_cat_n, pm_cat_i, pm_cat_r, pm_cat_l, pm_obj, pm_arr, pm_opt, pm_ird, pm_aln, List.getElem?_cons_zero, List.getElem?_cons_succ, List.set_cons_zero, List.set_cons_succ, List.length_cons, List.length_nil, List.length_set, true_and, and_true, Nat.add_zero, Nat.zero_add, Nat.le_refl, Nat.reduceAdd, Nat.reduceLT, Nat.reduceLeDiff, Nat.zero_le, not_false_eq_true, not_true_eq_false, false_implies, implies_true, true_implies, Nat.zero_lt_succ, Nat.lt_add_one, pm_tl_n, pm_tl_s, sc_uL, xo0, xa0, xb0, xc0, xf0, x10, x20, x30, x40, x50, e1, so]
      refine PM_use (c_Row_get S (nI k) (d + 2)) ?_
      rintro v h1 l1 ⟨rfl, rfl⟩
      rw [rw_getN (by omega)]
      show W_X2_sortIn _ _ _ _ _ _ _ _ _
      simp only [w_X2_sortIn_34, pm_1i_c, pm_2i_c, pm_1l_c, pm_2l_c, pm_1a_c, pm_ia_c, pm_iia_c, pm_va_c, pm_cp_c, pm_k0_c, pm_k1_c, pm_k2_c, pm_k3_c, pm_s1_c, pm_s2_c, pm_s3_c, pm_s4_c, pm_ri_c, pm_ra_c, pm_rn_c, pm_rk_i, pm_rk_z, pm_rk_a, pm_vk_i, pm_vk_z, pm_vk_a, pm_cti, pm_ctr, pm_ldi_z, pm_ldi_s, pm_lda_z, pm_lda_s, pm_cat_n, pm_cat_i, pm_cat_r, pm_cat_l, pm_obj, pm_arr, pm_opt, pm_ird, pm_aln, List.getElem?_cons_zero, List.getElem?_cons_succ, List.set_cons_zero, List.set_cons_succ, List.length_cons, List.length_nil, List.length_set, true_and, and_true, Nat.add_zero, Nat.zero_add, Nat.le_refl, Nat.reduceAdd, Nat.reduceLT, Nat.reduceLeDiff, Nat.zero_le, not_false_eq_true, not_true_eq_false, false_implies, implies_true, true_implies, Nat.zero_lt_succ, Nat.lt_add_one, pm_tl_n, pm_tl_s, sc_uL, xo0, xa0, xb0, xc0, xf0, x10, x20, x30, x40, x50]
      refine PM_use (c_Sketch_estimateOf hl D0.sk V (us.getD k (-1)) d) ?_
      rintro v h1 l1 ⟨rfl, rfl⟩
      show W_X2_sortIn _ _ _ _ _ _ _ _ _
      simp only [w_X2_sortIn_37, w_X2_sortIn_38, w_X2_sortIn_41, w_X2_sortIn_44, pm_1i_c, pm_2i_c, pm_1l_c, pm_2l_c, pm_1a_c, pm_ia_c, pm_iia_c, pm_va_c, pm_cp_c, pm_k0_c, pm_k1_c, pm_k2_c, pm_k3_c, pm_s1_c, pm_s2_c, pm_s3_c, pm_s4_c, pm_ri_c, pm_ra_c, pm_rn_c, pm_rk_i, pm_rk_z, pm_rk_a, pm_vk_i, pm_vk_z, pm_vk_a, pm_cti, pm_ctr, pm_ldi_z, pm_ldi_s, pm_lda_z, pm_lda_s, pm_cat_n, pm_cat_i, pm_cat_r, pm_cat_l, pm_obj, pm_arr, pm_opt, pm_ird, pm_aln, List.getElem?_cons_zero, List.getElem?_cons_succ, List.set_cons_zero, List.set_cons_succ, List.length_cons, List.length_nil, List.length_set, true_and, and_true, Nat.add_zero, Nat.zero_add, Nat.le_refl, Nat.reduceAdd, Nat.reduceLT, Nat.reduceLeDiff, Nat.zero_le, not_false_eq_true, not_true_eq_false, false_implies, implies_true, true_implies, Nat.zero_lt_succ, Nat.lt_add_one, pm_tl_n, pm_tl_s, sc_uL, nI_1]
      refine ⟨fun c => ?_, fun c => ?_⟩
      · exact fin k hk q1 (fun _ => by unfold srtP; rw [decide_eq_false_iff_not]; exact fun z => z c)
      · refine ih (k + 1) (by omega) (by omega) (fun j hj => ?_)
        by_cases e : j = k
        · rw [e]
          exact decide_eq_true c
        · exact q1 j (by omega)
  have xo0 := D0.o
  have xa0 := D0.sh
  have xb0 := D0.ko
  have xc0 := D0.lo
  have xf0 := D0.co
  have x10 := D0.wo
  have x20 := D0.to
  have x30 := D0.so
  have x40 := D0.go
  have x50 := D0.po
  simp only [w_X2_sortIn_0, w_X2_sortIn_1, w_X2_sortIn_4, w_X2_sortIn_5, w_X2_sortIn_8, w_X2_sortIn_9, w_X2_sortIn_10, pm_1i_c, pm_2i_c, pm_1l_c, pm_2l_c, pm_1a_c, pm_ia_c, pm_iia_c, pm_va_c, pm_cp_c, pm_k0_c, pm_k1_c, pm_k2_c, pm_k3_c, pm_s1_c, pm_s2_c, pm_s3_c, pm_s4_c, pm_ri_c, pm_ra_c, pm_rn_c, pm_rk_i, pm_rk_z, pm_rk_a, pm_vk_i, pm_vk_z, pm_vk_a, pm_cti, pm_ctr, pm_ldi_z, pm_ldi_s, pm_lda_z, pm_lda_s, pm_cat_n, pm_cat_i, pm_cat_r, pm_cat_l, pm_obj, pm_arr, pm_opt, pm_ird, pm_aln, List.getElem?_cons_zero, List.getElem?_cons_succ, List.set_cons_zero, List.set_cons_succ, List.length_cons, List.length_nil, List.length_set, true_and, and_true, Nat.add_zero, Nat.zero_add, Nat.le_refl, Nat.reduceAdd, Nat.reduceLT, Nat.reduceLeDiff, Nat.zero_le, not_false_eq_true, not_true_eq_false, false_implies, implies_true, true_implies, Nat.zero_lt_succ, Nat.lt_add_one, xo0, xa0, xb0, xc0, xf0, x10, x20, x30, x40, x50]
  refine PM_use (c_Sketch_estimateOf hl D0.sk V key d) ?_
  rintro v h1 l1 ⟨rfl, rfl⟩
  show W_X2_sortIn _ _ _ _ _ _ _ _ _
  simp only [w_X2_sortIn_8, w_X2_sortIn_9, w_X2_sortIn_10, pm_1i_c, pm_2i_c, pm_1l_c, pm_2l_c, pm_1a_c, pm_ia_c, pm_iia_c, pm_va_c, pm_cp_c, pm_k0_c, pm_k1_c, pm_k2_c, pm_k3_c, pm_s1_c, pm_s2_c, pm_s3_c, pm_s4_c, pm_ri_c, pm_ra_c, pm_rn_c, pm_rk_i, pm_rk_z, pm_rk_a, pm_vk_i, pm_vk_z, pm_vk_a, pm_cti, pm_ctr, pm_ldi_z, pm_ldi_s, pm_lda_z, pm_lda_s, pm_cat_n, pm_cat_i, pm_cat_r, pm_cat_l, pm_obj, pm_arr, pm_opt, pm_ird, pm_aln, List.getElem?_cons_zero, List.getElem?_cons_succ, List.set_cons_zero, List.set_cons_succ, List.length_cons, List.length_nil, List.length_set, true_and, and_true, Nat.add_zero, Nat.zero_add, Nat.le_refl, Nat.reduceAdd, Nat.reduceLT, Nat.reduceLeDiff, Nat.zero_le, not_false_eq_true, not_true_eq_false, false_implies, implies_true, true_implies, Nat.zero_lt_succ, Nat.lt_add_one, pm_tl_n, pm_tl_s, sc_uL]
  exact loop _ 0 rfl (by omega) (fun j hj => by omega)
theorem c_Desk_hotKeys (hl : h.length ≤ 1000000) (D0 : dk_ h B A) (V : skV A) (ht : (li A 1).length + (li A 2).length + (li A 3).length ≤ 65) (d : Nat) : PM (d + 5) 22 [.ref B] h (fun v h' => v = some (.ref (B + 24)) ∧ dk_ h' B A ∧ rw_ h' (B + 24) 65 (hotL A) ∧ frd h h' B) := by
  refine en_X2_hotKeys rfl ?_
  -- one part
  have inner : ∀ (p : Nat), 1 ≤ p → p ≤ 3 → ∀ (us : List Int32), us.length + (li A p).length ≤ 65 → (∀ (hh : pmH) (x2 x3 : Option Value), dk_ hh B A → rw_ hh (B + 24) 65 ((li A p).foldl (srtI A) us) → hh.length = h.length → frd h hh B → W_X2_hotKeys (d + 4) (h.length + 0) 0 (fun v h' => v = some (.ref (B + 24)) ∧ dk_ h' B A ∧ rw_ h' (B + 24) 65 (hotL A) ∧ frd h h' B) 10 [some (.ref B), some (.int (nI p + -1)), x2, x3] [] hh 0) → ∀ (hh : pmH) (x2 x3 : Option Value), dk_ hh B A → rw_ hh (B + 24) 65 us → hh.length = h.length → frd h hh B → W_X2_hotKeys (d + 4) (h.length + 0) 0 (fun v h' => v = some (.ref (B + 24)) ∧ dk_ h' B A ∧ rw_ h' (B + 24) 65 (hotL A) ∧ frd h h' B) 10 [some (.ref B), some (.int (nI p)), x2, x3] [] hh 0 := by
    intro p hp1 hp3 us hu cont
    have loop : ∀ n k, (li A p).length - k = n → k ≤ (li A p).length → ∀ (hh : pmH), dk_ hh B A → rw_ hh (B + 24) 65 (((li A p).take k).foldl (srtI A) us) → hh.length = h.length → frd h hh B → W_X2_hotKeys (d + 4) (h.length + 0) 0 (fun v h' => v = some (.ref (B + 24)) ∧ dk_ h' B A ∧ rw_ h' (B + 24) 65 (hotL A) ∧ frd h h' B) 23 [some (.ref B), some (.int (nI p)), some (.ref (B + (10 + 2 * p))), some (.int (nI k))] [] hh 0 := by
      intro n
      induction n with
      | zero =>
        intro k hn hk hh D1 S q2 q3
        have : k = (li A p).length := by omega
        subst this
        rw [List.take_length] at S
        have row := D1.row hp1 (by omega : p ≤ 5)
        have len := row.le
        have c65 : capR p ≤ 100 := by unfold capR; rw [if_pos hp3]; omega
        have ro := row.o
        have e1 : ¬ nI (li A p).length < nI (li A p).length := nI_nlt (by omega) (by omega)
        rw [w_X2_hotKeys_23]
        simp only [w_X2_hotKeys_24, w_X2_hotKeys_25, w_X2_hotKeys_28, pm_1i_c, pm_2i_c, pm_1l_c, pm_2l_c, pm_1a_c, pm_ia_c, pm_iia_c, pm_va_c, pm_cp_c, pm_k0_c, pm_k1_c, pm_k2_c, pm_k3_c, pm_s1_c, pm_s2_c, pm_s3_c, pm_s4_c, pm_ri_c, pm_ra_c, pm_rn_c, pm_rk_i, pm_rk_z, pm_rk_a, pm_vk_i, pm_vk_z, pm_vk_a, pm_cti, pm_ctr, pm_ldi_z, pm_ldi_s, pm_lda_z, pm_lda_s, pm_cat_n, pm_cat_i, pm_cat_r, pm_cat_l, pm_obj, pm_arr, pm_opt, pm_ird, pm_aln, List.getElem?_cons_zero, List.getElem?_cons_succ, List.set_cons_zero, List.set_cons_succ, List.length_cons, List.length_nil, List.length_set, true_and, and_true, Nat.add_zero, Nat.zero_add, Nat.le_refl, Nat.reduceAdd, Nat.reduceLT, Nat.reduceLeDiff, Nat.zero_le, not_false_eq_true, not_true_eq_false, false_implies, implies_true, true_implies, Nat.zero_lt_succ, Nat.lt_add_one, ro, q2]
        refine PM_use (c_Row_size row (d + 3)) ?_
        rintro v h1 l1 ⟨rfl, rfl⟩
        show W_X2_hotKeys _ _ _ _ _ _ _ _ _
        simp only [w_X2_hotKeys_28, w_X2_hotKeys_31, w_X2_hotKeys_32, w_X2_hotKeys_33, w_X2_hotKeys_34, w_X2_hotKeys_37, w_X2_hotKeys_40, w_X2_hotKeys_43, w_X2_hotKeys_46, w_X2_hotKeys_49, pm_1i_c, pm_2i_c, pm_1l_c, pm_2l_c, pm_1a_c, pm_ia_c, pm_iia_c, pm_va_c, pm_cp_c, pm_k0_c, pm_k1_c, pm_k2_c, pm_k3_c, pm_s1_c, pm_s2_c, pm_s3_c, pm_s4_c, pm_ri_c, pm_ra_c, pm_rn_c, pm_rk_i, pm_rk_z, pm_rk_a, pm_vk_i, pm_vk_z, pm_vk_a, pm_cti, pm_ctr, pm_ldi_z, pm_ldi_s, pm_lda_z, pm_lda_s, pm_cat_n, pm_cat_i, pm_cat_r, pm_cat_l, pm_obj, pm_arr, pm_opt, pm_ird, pm_aln, List.getElem?_cons_zero, List.getElem?_cons_succ, List.set_cons_zero, List.set_cons_succ, List.length_cons, List.length_nil, List.length_set, true_and, and_true, Nat.add_zero, Nat.zero_add, Nat.le_refl, Nat.reduceAdd, Nat.reduceLT, Nat.reduceLeDiff, Nat.zero_le, not_false_eq_true, not_true_eq_false, false_implies, implies_true, true_implies, Nat.zero_lt_succ, Nat.lt_add_one, pm_tl_n, pm_tl_s, sc_uL, e1]
        exact cont _ _ _ D1 S q2 q3
      | succ n ih =>
        intro k hn hk hh D1 S q2 q3
        have row := D1.row hp1 (by omega : p ≤ 5)
        have len := row.le
        have c65 : capR p ≤ 100 := by unfold capR; rw [if_pos hp3]; omega
        have ro := row.o
        have hk2 : k < (li A p).length := by omega
        have e1 : nI k < nI (li A p).length := nI_lt (by omega) (by omega)
        rw [w_X2_hotKeys_23]
        simp only [w_X2_hotKeys_24, w_X2_hotKeys_25, w_X2_hotKeys_28, pm_1i_c, pm_2i_c, pm_1l_c, pm_2l_c, pm_1a_c, pm_ia_c, pm_iia_c, pm_va_c, pm_cp_c, pm_k0_c, pm_k1_c, pm_k2_c, pm_k3_c, pm_s1_c, pm_s2_c, pm_s3_c, pm_s4_c, pm_ri_c, pm_ra_c, pm_rn_c, pm_rk_i, pm_rk_z, pm_rk_a, pm_vk_i, pm_vk_z, pm_vk_a, pm_cti, pm_ctr, pm_ldi_z, pm_ldi_s, pm_lda_z, pm_lda_s, pm_cat_n, pm_cat_i, pm_cat_r, pm_cat_l, pm_obj, pm_arr, pm_opt, pm_ird, pm_aln, List.getElem?_cons_zero, List.getElem?_cons_succ, List.set_cons_zero, List.set_cons_succ, List.length_cons, List.length_nil, List.length_set, true_and, and_true, Nat.add_zero, Nat.zero_add, Nat.le_refl, Nat.reduceAdd, Nat.reduceLT, Nat.reduceLeDiff, Nat.zero_le, not_false_eq_true, not_true_eq_false, false_implies, implies_true, true_implies, Nat.zero_lt_succ, Nat.lt_add_one, ro, q2]
        refine PM_use (c_Row_size row (d + 3)) ?_
        rintro v h1 l1 ⟨rfl, rfl⟩
        have xo1 := D1.o
        have xa1 := D1.sh
        have xb1 := D1.ko
        have xc1 := D1.lo
        have xf1 := D1.co
        have x11 := D1.wo
        have x21 := D1.to
        have x31 := D1.so
        have x41 := D1.go
        have x51 := D1.po
        show W_X2_hotKeys _ _ _ _ _ _ _ _ _
        simp only [w_X2_hotKeys_28, w_X2_hotKeys_31, w_X2_hotKeys_32, w_X2_hotKeys_33, w_X2_hotKeys_34, pm_1i_c, pm_2i_c, pm_1l_c, pm_2l_c, pm_1a_c, pm_ia_c, pm_iia_c, pm_va_c, pm_cp_c, pm_k0_c, pm_k1_c, pm_k2_c, pm_k3_c, pm_s1_c, pm_s2_c, pm_s3_c, pm_s4_c, pm_ri_c, pm_ra_c, pm_rn_c, pm_rk_i, pm_rk_z, pm_rk_a, pm_vk_i, pm_vk_z, pm_vk_a, pm_cti, pm_ctr, pm_ldi_z, pm_ldi_s, pm_lda_z, pm_lda_s, pm_cat_n, pm_cat_i, pm_cat_r, pm_cat_l, pm_obj, pm_arr, pm_opt, pm_ird, pm_aln, List.getElem?_cons_zero, List.getElem?_cons_succ, List.set_cons_zero, List.set_cons_succ, List.length_cons, List.length_nil, List.length_set, true_and, and_true, Nat.add_zero, Nat.zero_add, Nat.le_refl, Nat.reduceAdd, Nat.reduceLT, Nat.reduceLeDiff, Nat.zero_le, not_false_eq_true, not_true_eq_false, false_implies, implies_true, true_implies, Nat.zero_lt_succ, Nat.lt_add_one, pm_tl_n, pm_tl_s, sc_uL, xo1, xa1, xb1, xc1, xf1, x11, x21, x31, x41, x51, e1, ro, q2]
        refine PM_use (c_Row_get row (nI k) (d + 3)) ?_
        rintro v h1 l1 ⟨rfl, rfl⟩
        rw [rw_getN (by omega)]
        show W_X2_hotKeys _ _ _ _ _ _ _ _ _
        simp only [w_X2_hotKeys_37, pm_1i_c, pm_2i_c, pm_1l_c, pm_2l_c, pm_1a_c, pm_ia_c, pm_iia_c, pm_va_c, pm_cp_c, pm_k0_c, pm_k1_c, pm_k2_c, pm_k3_c, pm_s1_c, pm_s2_c, pm_s3_c, pm_s4_c, pm_ri_c, pm_ra_c, pm_rn_c, pm_rk_i, pm_rk_z, pm_rk_a, pm_vk_i, pm_vk_z, pm_vk_a, pm_cti, pm_ctr, pm_ldi_z, pm_ldi_s, pm_lda_z, pm_lda_s, pm_cat_n, pm_cat_i, pm_cat_r, pm_cat_l, pm_obj, pm_arr, pm_opt, pm_ird, pm_aln, List.getElem?_cons_zero, List.getElem?_cons_succ, List.set_cons_zero, List.set_cons_succ, List.length_cons, List.length_nil, List.length_set, true_and, and_true, Nat.add_zero, Nat.zero_add, Nat.le_refl, Nat.reduceAdd, Nat.reduceLT, Nat.reduceLeDiff, Nat.zero_le, not_false_eq_true, not_true_eq_false, false_implies, implies_true, true_implies, Nat.zero_lt_succ, Nat.lt_add_one, pm_tl_n, pm_tl_s, sc_uL, xo1, xa1, xb1, xc1, xf1, x11, x21, x31, x41, x51, q2]
        refine PM_use (c_Desk_sortIn (by rw [q2]; exact hl) D1 V S (by rw [fold_len, List.length_take]; omega) ((li A p).getD k (-1)) d) ?_
        rintro v h2 l2 ⟨rfl, K1, K2, K3⟩
        show W_X2_hotKeys _ _ _ _ _ _ _ _ _
        simp only [w_X2_hotKeys_40, w_X2_hotKeys_43, pm_1i_c, pm_2i_c, pm_1l_c, pm_2l_c, pm_1a_c, pm_ia_c, pm_iia_c, pm_va_c, pm_cp_c, pm_k0_c, pm_k1_c, pm_k2_c, pm_k3_c, pm_s1_c, pm_s2_c, pm_s3_c, pm_s4_c, pm_ri_c, pm_ra_c, pm_rn_c, pm_rk_i, pm_rk_z, pm_rk_a, pm_vk_i, pm_vk_z, pm_vk_a, pm_cti, pm_ctr, pm_ldi_z, pm_ldi_s, pm_lda_z, pm_lda_s, pm_cat_n, pm_cat_i, pm_cat_r, pm_cat_l, pm_obj, pm_arr, pm_opt, pm_ird, pm_aln, List.getElem?_cons_zero, List.getElem?_cons_succ, List.set_cons_zero, List.set_cons_succ, List.length_cons, List.length_nil, List.length_set, true_and, and_true, Nat.add_zero, Nat.zero_add, Nat.le_refl, Nat.reduceAdd, Nat.reduceLT, Nat.reduceLeDiff, Nat.zero_le, not_false_eq_true, not_true_eq_false, false_implies, implies_true, true_implies, Nat.zero_lt_succ, Nat.lt_add_one, pm_tl_n, pm_tl_s, sc_uL, nI_1]
        exact ih (k + 1) (by omega) (by omega) h2 K1 (by rw [take_fold hk2]; exact K2) (by rw [l2, q2]; rfl) (q3.tr K3)
    intro hh x2 x3 D1 S q2 q3
    have e1 : ¬ nI p < 1 := nI_nlt (a := p) (b := 1) hp1 (by omega)
    have xo1 := D1.o
    have xa1 := D1.sh
    have xb1 := D1.ko
    have xc1 := D1.lo
    have xf1 := D1.co
    have x11 := D1.wo
    have x21 := D1.to
    have x31 := D1.so
    have x41 := D1.go
    have x51 := D1.po
    rw [w_X2_hotKeys_10]
    simp only [w_X2_hotKeys_11, w_X2_hotKeys_12, w_X2_hotKeys_15, w_X2_hotKeys_16, w_X2_hotKeys_17, pm_1i_c, pm_2i_c, pm_1l_c, pm_2l_c, pm_1a_c, pm_ia_c, pm_iia_c, pm_va_c, pm_cp_c, pm_k0_c, pm_k1_c, pm_k2_c, pm_k3_c, pm_s1_c, pm_s2_c, pm_s3_c, pm_s4_c, pm_ri_c, pm_ra_c, pm_rn_c, pm_rk_i, pm_rk_z, pm_rk_a, pm_vk_i, pm_vk_z, pm_vk_a, pm_cti, pm_ctr, pm_ldi_z, pm_ldi_s, pm_lda_z, pm_lda_s, pm_cat_n, pm_cat_i, pm_cat_r, pm_cat_l, pm_obj, pm_arr, pm_opt, pm_ird, pm_aln, List.getElem?_cons_zero, List.getElem?_cons_succ, List.set_cons_zero, List.set_cons_succ, List.length_cons, List.length_nil, List.length_set, true_and, and_true, Nat.add_zero, Nat.zero_add, Nat.le_refl, Nat.reduceAdd, Nat.reduceLT, Nat.reduceLeDiff, Nat.zero_le, not_false_eq_true, not_true_eq_false, false_implies, implies_true, true_implies, Nat.zero_lt_succ, Nat.lt_add_one, e1, xo1, xa1, xb1, xc1, xf1, x11, x21, x31, x41, x51, q2]
    refine PM_use (c_Desk_rowOf D1 hp1 hp3 (d + 3)) ?_
    rintro v h1 l1 ⟨rfl, rfl⟩
    show W_X2_hotKeys _ _ _ _ _ _ _ _ _
    simp only [w_X2_hotKeys_20, w_X2_hotKeys_21, w_X2_hotKeys_22, pm_1i_c, pm_2i_c, pm_1l_c, pm_2l_c, pm_1a_c, pm_ia_c, pm_iia_c, pm_va_c, pm_cp_c, pm_k0_c, pm_k1_c, pm_k2_c, pm_k3_c, pm_s1_c, pm_s2_c, pm_s3_c, pm_s4_c, pm_ri_c, pm_ra_c, pm_rn_c, pm_rk_i, pm_rk_z, pm_rk_a, pm_vk_i, pm_vk_z, pm_vk_a, pm_cti, pm_ctr, pm_ldi_z, pm_ldi_s, pm_lda_z, pm_lda_s, pm_cat_n, pm_cat_i, pm_cat_r, pm_cat_l, pm_obj, pm_arr, pm_opt, pm_ird, pm_aln, List.getElem?_cons_zero, List.getElem?_cons_succ, List.set_cons_zero, List.set_cons_succ, List.length_cons, List.length_nil, List.length_set, true_and, and_true, Nat.add_zero, Nat.zero_add, Nat.le_refl, Nat.reduceAdd, Nat.reduceLT, Nat.reduceLeDiff, Nat.zero_le, not_false_eq_true, not_true_eq_false, false_implies, implies_true, true_implies, Nat.zero_lt_succ, Nat.lt_add_one, pm_tl_n, pm_tl_s, sc_uL]
    exact loop _ 0 rfl (by omega) _ D1 S q2 q3
  obtain ⟨us, du⟩ := D0.u
  have uo := du.o
  have s3 := inner 3 (by omega) (by omega) [] (by simp; omega)
  have s2 := inner 2 (by omega) (by omega) ((li A 3).foldl (srtI A) []) (by rw [fold_len]; simp; omega)
  have s1 := inner 1 (by omega) (by omega) ((li A 2).foldl (srtI A) ((li A 3).foldl (srtI A) [])) (by rw [fold_len, fold_len]; simp; omega)
  have e3 : nI 3 + -1 = nI 2 := rfl
  have e2 : nI 2 + -1 = nI 1 := rfl
  have e1 : nI 1 + -1 = 0 := rfl
  rw [e3] at s3
  rw [e2] at s2
  rw [e1] at s1
  have s0 : ∀ (hh : pmH) (x2 x3 : Option Value), dk_ hh B A → rw_ hh (B + 24) 65 (hotL A) → hh.length = h.length → frd h hh B → W_X2_hotKeys (d + 4) (h.length + 0) 0 (fun v h' => v = some (.ref (B + 24)) ∧ dk_ h' B A ∧ rw_ h' (B + 24) 65 (hotL A) ∧ frd h h' B) 10 [some (.ref B), some (.int 0), x2, x3] [] hh 0 := by
    intro hh x2 x3 D1 S q2 q3
    have xo1 := D1.o
    have xa1 := D1.sh
    have xb1 := D1.ko
    have xc1 := D1.lo
    have xf1 := D1.co
    have x11 := D1.wo
    have x21 := D1.to
    have x31 := D1.so
    have x41 := D1.go
    have x51 := D1.po
    simp only [w_X2_hotKeys_10, w_X2_hotKeys_11, w_X2_hotKeys_12, w_X2_hotKeys_52, w_X2_hotKeys_53, w_X2_hotKeys_56, pm_1i_c, pm_2i_c, pm_1l_c, pm_2l_c, pm_1a_c, pm_ia_c, pm_iia_c, pm_va_c, pm_cp_c, pm_k0_c, pm_k1_c, pm_k2_c, pm_k3_c, pm_s1_c, pm_s2_c, pm_s3_c, pm_s4_c, pm_ri_c, pm_ra_c, pm_rn_c, pm_rk_i, pm_rk_z, pm_rk_a, pm_vk_i, pm_vk_z, pm_vk_a, pm_cti, pm_ctr, pm_ldi_z, pm_ldi_s, pm_lda_z, pm_lda_s, pm_cat_n, pm_cat_i, pm_cat_r, pm_cat_l, pm_obj, pm_arr, pm_opt, pm_ird, pm_aln, List.getElem?_cons_zero, List.getElem?_cons_succ, List.set_cons_zero, List.set_cons_succ, List.length_cons, List.length_nil, List.length_set, true_and, and_true, Nat.add_zero, Nat.zero_add, Nat.le_refl, Nat.reduceAdd, Nat.reduceLT, Nat.reduceLeDiff, Nat.zero_le, not_false_eq_true, not_true_eq_false, false_implies, implies_true, true_implies, Nat.zero_lt_succ, Nat.lt_add_one, show (0 : Int32) < 1 by decide, xo1, xa1, xb1, xc1, xf1, x11, x21, x31, x41, x51, q2]
    exact ⟨D1, S, q3⟩
  have xo0 := D0.o
  have xa0 := D0.sh
  have xb0 := D0.ko
  have xc0 := D0.lo
  have xf0 := D0.co
  have x10 := D0.wo
  have x20 := D0.to
  have x30 := D0.so
  have x40 := D0.go
  have x50 := D0.po
  simp only [w_X2_hotKeys_0, w_X2_hotKeys_1, w_X2_hotKeys_4, w_X2_hotKeys_5, w_X2_hotKeys_8, w_X2_hotKeys_9, pm_1i_c, pm_2i_c, pm_1l_c, pm_2l_c, pm_1a_c, pm_ia_c, pm_iia_c, pm_va_c, pm_cp_c, pm_k0_c, pm_k1_c, pm_k2_c, pm_k3_c, pm_s1_c, pm_s2_c, pm_s3_c, pm_s4_c, pm_ri_c, pm_ra_c, pm_rn_c, pm_rk_i, pm_rk_z, pm_rk_a, pm_vk_i, pm_vk_z, pm_vk_a, pm_cti, pm_ctr, pm_ldi_z, pm_ldi_s, pm_lda_z, pm_lda_s, pm_cat_n, pm_cat_i, pm_cat_r, pm_cat_l, pm_obj, pm_arr, pm_opt, pm_ird, pm_aln, List.getElem?_cons_zero, List.getElem?_cons_succ, List.set_cons_zero, List.set_cons_succ, List.length_cons, List.length_nil, List.length_set, true_and, and_true, Nat.add_zero, Nat.zero_add, Nat.le_refl, Nat.reduceAdd, Nat.reduceLT, Nat.reduceLeDiff, Nat.zero_le, not_false_eq_true, not_true_eq_false, false_implies, implies_true, true_implies, Nat.zero_lt_succ, Nat.lt_add_one, xo0, xa0, xb0, xc0, xf0, x10, x20, x30, x40, x50, uo]
  refine PM_use (c_Row_cut0 du (d + 3)) ?_
  rintro v h1 l1 ⟨rfl, K1, K2⟩
  show W_X2_hotKeys _ _ _ _ _ _ _ _ _
  simp only [w_X2_hotKeys_8, w_X2_hotKeys_9, pm_1i_c, pm_2i_c, pm_1l_c, pm_2l_c, pm_1a_c, pm_ia_c, pm_iia_c, pm_va_c, pm_cp_c, pm_k0_c, pm_k1_c, pm_k2_c, pm_k3_c, pm_s1_c, pm_s2_c, pm_s3_c, pm_s4_c, pm_ri_c, pm_ra_c, pm_rn_c, pm_rk_i, pm_rk_z, pm_rk_a, pm_vk_i, pm_vk_z, pm_vk_a, pm_cti, pm_ctr, pm_ldi_z, pm_ldi_s, pm_lda_z, pm_lda_s, pm_cat_n, pm_cat_i, pm_cat_r, pm_cat_l, pm_obj, pm_arr, pm_opt, pm_ird, pm_aln, List.getElem?_cons_zero, List.getElem?_cons_succ, List.set_cons_zero, List.set_cons_succ, List.length_cons, List.length_nil, List.length_set, true_and, and_true, Nat.add_zero, Nat.zero_add, Nat.le_refl, Nat.reduceAdd, Nat.reduceLT, Nat.reduceLeDiff, Nat.zero_le, not_false_eq_true, not_true_eq_false, false_implies, implies_true, true_implies, Nat.zero_lt_succ, Nat.lt_add_one, pm_tl_n, pm_tl_s, sc_uL]
  exact s3 (s2 (s1 s0)) h1 _ _ (D0.uu K1 K2) K1 (by rw [l1]; rfl) (frd_2 7 K2 (by omega))
theorem c_Desk_keysWith (hl : h.length ≤ 1000000) (D0 : dk_ h B A) (V : skV A) (least : Int32) (d : Nat) : PM (d + 4) 24 [.ref B, .int least] h (fun v h' => v = some (.int (nI (kwN A least))) ∧ h' = h) := by
  refine en_X2_keysWith rfl rfl ?_
  have inner : ∀ (p : Nat), 1 ≤ p → p ≤ 3 → ∀ (c : Nat), (∀ (x4 x5 : Option Value), W_X2_keysWith (d + 3) (h.length + 0) 0 (fun v h' => v = some (.int (nI (kwN A least))) ∧ h' = h) 4 [some (.ref B), some (.int least), some (.int (nI (c + (li A p).countP (kwP A least)))), some (.int (nI p + 1)), x4, x5] [] h 0) → ∀ (x4 x5 : Option Value), W_X2_keysWith (d + 3) (h.length + 0) 0 (fun v h' => v = some (.int (nI (kwN A least))) ∧ h' = h) 4 [some (.ref B), some (.int least), some (.int (nI c)), some (.int (nI p)), x4, x5] [] h 0 := by
    intro p hp1 hp3 c cont
    have row := D0.row hp1 (by omega : p ≤ 5)
    have len := row.le
    have c65 : capR p ≤ 100 := by unfold capR; rw [if_pos hp3]; omega
    have ro := row.o
    have loop : ∀ n k, (li A p).length - k = n → k ≤ (li A p).length → W_X2_keysWith (d + 3) (h.length + 0) 0 (fun v h' => v = some (.int (nI (kwN A least))) ∧ h' = h) 19 [some (.ref B), some (.int least), some (.int (nI (c + ((li A p).take k).countP (kwP A least)))), some (.int (nI p)), some (.ref (B + (10 + 2 * p))), some (.int (nI k))] [] h 0 := by
      intro n
      induction n with
      | zero =>
        intro k hn hk
        have : k = (li A p).length := by omega
        subst this
        have e1 : ¬ nI (li A p).length < nI (li A p).length := nI_nlt (by omega) (by omega)
        rw [w_X2_keysWith_19]
        simp only [w_X2_keysWith_21, w_X2_keysWith_23, w_X2_keysWith_26, pm_1i_c, pm_2i_c, pm_1l_c, pm_2l_c, pm_1a_c, pm_ia_c, pm_iia_c, pm_va_c, pm_cp_c, pm_k0_c, pm_k1_c, pm_k2_c, pm_k3_c, pm_s1_c, pm_s2_c, pm_s3_c, pm_s4_c, pm_ri_c, pm_ra_c, pm_rn_c, pm_rk_i, pm_rk_z, pm_rk_a, pm_vk_i, pm_vk_z, pm_vk_a, pm_cti, pm_ctr, pm_ldi_z, pm_ldi_s, pm_lda_z, pm_lda_s, pm_cat_n, pm_cat_i, pm_cat_r, pm_cat_l, pm_obj, pm_arr, pm_opt, pm_ird, pm_aln, List.getElem?_cons_zero, List.getElem?_cons_succ, List.set_cons_zero, List.set_cons_succ, List.length_cons, List.length_nil, List.length_set, true_and, and_true, Nat.add_zero, Nat.zero_add, Nat.le_refl, Nat.reduceAdd, Nat.reduceLT, Nat.reduceLeDiff, Nat.zero_le, not_false_eq_true, not_true_eq_false, false_implies, implies_true, true_implies, Nat.zero_lt_succ, Nat.lt_add_one, ro]
        refine PM_use (c_Row_size row (d + 2)) ?_
        rintro v h1 l1 ⟨rfl, rfl⟩
        show W_X2_keysWith _ _ _ _ _ _ _ _ _
        simp only [w_X2_keysWith_26, w_X2_keysWith_61, w_X2_keysWith_64, pm_1i_c, pm_2i_c, pm_1l_c, pm_2l_c, pm_1a_c, pm_ia_c, pm_iia_c, pm_va_c, pm_cp_c, pm_k0_c, pm_k1_c, pm_k2_c, pm_k3_c, pm_s1_c, pm_s2_c, pm_s3_c, pm_s4_c, pm_ri_c, pm_ra_c, pm_rn_c, pm_rk_i, pm_rk_z, pm_rk_a, pm_vk_i, pm_vk_z, pm_vk_a, pm_cti, pm_ctr, pm_ldi_z, pm_ldi_s, pm_lda_z, pm_lda_s, pm_cat_n, pm_cat_i, pm_cat_r, pm_cat_l, pm_obj, pm_arr, pm_opt, pm_ird, pm_aln, List.getElem?_cons_zero, List.getElem?_cons_succ, List.set_cons_zero, List.set_cons_succ, List.length_cons, List.length_nil, List.length_set, true_and, and_true, Nat.add_zero, Nat.zero_add, Nat.le_refl, Nat.reduceAdd, Nat.reduceLT, Nat.reduceLeDiff, Nat.zero_le, not_false_eq_true, not_true_eq_false, false_implies, implies_true, true_implies, Nat.zero_lt_succ, Nat.lt_add_one, pm_tl_n, pm_tl_s, sc_uL, e1]
        rw [List.take_length]
        exact cont _ _
      | succ n ih =>
        intro k hn hk
        have hk2 : k < (li A p).length := by omega
        have e1 : nI k < nI (li A p).length := nI_lt (by omega) (by omega)
        have xo0 := D0.o
        have xa0 := D0.sh
        have xb0 := D0.ko
        have xc0 := D0.lo
        have xf0 := D0.co
        have x10 := D0.wo
        have x20 := D0.to
        have x30 := D0.so
        have x40 := D0.go
        have x50 := D0.po
        rw [w_X2_keysWith_19]
        simp only [w_X2_keysWith_21, w_X2_keysWith_23, w_X2_keysWith_26, pm_1i_c, pm_2i_c, pm_1l_c, pm_2l_c, pm_1a_c, pm_ia_c, pm_iia_c, pm_va_c, pm_cp_c, pm_k0_c, pm_k1_c, pm_k2_c, pm_k3_c, pm_s1_c, pm_s2_c, pm_s3_c, pm_s4_c, pm_ri_c, pm_ra_c, pm_rn_c, pm_rk_i, pm_rk_z, pm_rk_a, pm_vk_i, pm_vk_z, pm_vk_a, pm_cti, pm_ctr, pm_ldi_z, pm_ldi_s, pm_lda_z, pm_lda_s, pm_cat_n, pm_cat_i, pm_cat_r, pm_cat_l, pm_obj, pm_arr, pm_opt, pm_ird, pm_aln, List.getElem?_cons_zero, List.getElem?_cons_succ, List.set_cons_zero, List.set_cons_succ, List.length_cons, List.length_nil, List.length_set, true_and, and_true, Nat.add_zero, Nat.zero_add, Nat.le_refl, Nat.reduceAdd, Nat.reduceLT, Nat.reduceLeDiff, Nat.zero_le, not_false_eq_true, not_true_eq_false, false_implies, implies_true, true_implies, Nat.zero_lt_succ, Nat.lt_add_one, ro]
        refine PM_use (c_Row_size row (d + 2)) ?_
        rintro v h1 l1 ⟨rfl, rfl⟩
        show W_X2_keysWith _ _ _ _ _ _ _ _ _
        simp only [w_X2_keysWith_26, w_X2_keysWith_29, w_X2_keysWith_30, w_X2_keysWith_31, w_X2_keysWith_34, w_X2_keysWith_36, w_X2_keysWith_38, pm_1i_c, pm_2i_c, pm_1l_c, pm_2l_c, pm_1a_c, pm_ia_c, pm_iia_c, pm_va_c, pm_cp_c, pm_k0_c, pm_k1_c, pm_k2_c, pm_k3_c, pm_s1_c, pm_s2_c, pm_s3_c, pm_s4_c, pm_ri_c, pm_ra_c, pm_rn_c, pm_rk_i, pm_rk_z, pm_rk_a, pm_vk_i, pm_vk_z, pm_vk_a, pm_cti, pm_ctr, pm_ldi_z, pm_ldi_s, pm_lda_z, pm_lda_s, pm_cat_n, pm_cat_i, pm_cat_r, pm_cat_l, pm_obj, pm_arr, pm_opt, pm_ird, pm_aln, List.getElem?_cons_zero, List.getElem?_cons_succ, List.set_cons_zero, List.set_cons_succ, List.length_cons, List.length_nil, List.length_set, true_and, and_true, Nat.add_zero, Nat.zero_add, Nat.le_refl, Nat.reduceAdd, Nat.reduceLT, Nat.reduceLeDiff, Nat.zero_le, not_false_eq_true, not_true_eq_false, false_implies, implies_true, true_implies, Nat.zero_lt_succ, Nat.lt_add_one, pm_tl_n, pm_tl_s, sc_uL, e1, xo0, xa0, xb0, xc0, xf0, x10, x20, x30, x40, x50, ro]
        refine PM_use (c_Row_get row (nI k) (d + 2)) ?_
        rintro v h1 l1 ⟨rfl, rfl⟩
        rw [rw_getN (by omega)]
        show W_X2_keysWith _ _ _ _ _ _ _ _ _
        simp only [w_X2_keysWith_41, pm_1i_c, pm_2i_c, pm_1l_c, pm_2l_c, pm_1a_c, pm_ia_c, pm_iia_c, pm_va_c, pm_cp_c, pm_k0_c, pm_k1_c, pm_k2_c, pm_k3_c, pm_s1_c, pm_s2_c, pm_s3_c, pm_s4_c, pm_ri_c, pm_ra_c, pm_rn_c, pm_rk_i, pm_rk_z, pm_rk_a, pm_vk_i, pm_vk_z, pm_vk_a, pm_cti, pm_ctr, pm_ldi_z, pm_ldi_s, pm_lda_z, pm_lda_s, pm_cat_n, pm_cat_i, pm_cat_r, pm_cat_l, pm_obj, pm_arr, pm_opt, pm_ird, pm_aln, List.getElem?_cons_zero, List.getElem?_cons_succ, List.set_cons_zero, List.set_cons_succ, List.length_cons, List.length_nil, List.length_set, true_and, and_true, Nat.add_zero, Nat.zero_add, Nat.le_refl, Nat.reduceAdd, Nat.reduceLT, Nat.reduceLeDiff, Nat.zero_le, not_false_eq_true, not_true_eq_false, false_implies, implies_true, true_implies, Nat.zero_lt_succ, Nat.lt_add_one, pm_tl_n, pm_tl_s, sc_uL, xo0, xa0, xb0, xc0, xf0, x10, x20, x30, x40, x50]
        refine PM_use (c_Sketch_estimateOf hl D0.sk V ((li A p).getD k (-1)) d) ?_
        rintro v h1 l1 ⟨rfl, rfl⟩
        show W_X2_keysWith _ _ _ _ _ _ _ _ _
        simp only [w_X2_keysWith_44, w_X2_keysWith_45, w_X2_keysWith_48, w_X2_keysWith_49, w_X2_keysWith_52, w_X2_keysWith_53, w_X2_keysWith_54, w_X2_keysWith_55, w_X2_keysWith_58, pm_1i_c, pm_2i_c, pm_1l_c, pm_2l_c, pm_1a_c, pm_ia_c, pm_iia_c, pm_va_c, pm_cp_c, pm_k0_c, pm_k1_c, pm_k2_c, pm_k3_c, pm_s1_c, pm_s2_c, pm_s3_c, pm_s4_c, pm_ri_c, pm_ra_c, pm_rn_c, pm_rk_i, pm_rk_z, pm_rk_a, pm_vk_i, pm_vk_z, pm_vk_a, pm_cti, pm_ctr, pm_ldi_z, pm_ldi_s, pm_lda_z, pm_lda_s, pm_cat_n, pm_cat_i, pm_cat_r, pm_cat_l, pm_obj, pm_arr, pm_opt, pm_ird, pm_aln, List.getElem?_cons_zero, List.getElem?_cons_succ, List.set_cons_zero, List.set_cons_succ, List.length_cons, List.length_nil, List.length_set, true_and, and_true, Nat.add_zero, Nat.zero_add, Nat.le_refl, Nat.reduceAdd, Nat.reduceLT, Nat.reduceLeDiff, Nat.zero_le, not_false_eq_true, not_true_eq_false, false_implies, implies_true, true_implies, Nat.zero_lt_succ, Nat.lt_add_one, pm_tl_n, pm_tl_s, sc_uL, nI_1]
        have K := ih (k + 1) (by omega) (by omega)
        have tk : (li A p).take (k + 1) = (li A p).take k ++ [(li A p).getD k (-1)] := by
          rw [List.take_add_one, List.getElem?_eq_getElem hk2, List.getD_eq_getElem?_getD, List.getElem?_eq_getElem hk2]
          rfl
        rw [tk, List.countP_append, List.countP_singleton] at K
        refine ⟨fun c2 => ?_, fun c2 => ?_⟩
        · rw [if_neg (by unfold kwP; rw [decide_eq_true_eq]; exact fun z => z c2), Nat.add_zero] at K
          rw [Int32.add_zero]
          exact K
        · rw [if_pos (by unfold kwP; exact decide_eq_true c2)] at K
          exact K
    intro x4 x5
    have e1 : ¬ (3 : Int32) < nI p := nI_nlt (a := 3) (b := p) (by omega) (by omega)
    have xo0 := D0.o
    have xa0 := D0.sh
    have xb0 := D0.ko
    have xc0 := D0.lo
    have xf0 := D0.co
    have x10 := D0.wo
    have x20 := D0.to
    have x30 := D0.so
    have x40 := D0.go
    have x50 := D0.po
    rw [w_X2_keysWith_4]
    simp only [w_X2_keysWith_5, w_X2_keysWith_6, w_X2_keysWith_9, w_X2_keysWith_10, w_X2_keysWith_11, pm_1i_c, pm_2i_c, pm_1l_c, pm_2l_c, pm_1a_c, pm_ia_c, pm_iia_c, pm_va_c, pm_cp_c, pm_k0_c, pm_k1_c, pm_k2_c, pm_k3_c, pm_s1_c, pm_s2_c, pm_s3_c, pm_s4_c, pm_ri_c, pm_ra_c, pm_rn_c, pm_rk_i, pm_rk_z, pm_rk_a, pm_vk_i, pm_vk_z, pm_vk_a, pm_cti, pm_ctr, pm_ldi_z, pm_ldi_s, pm_lda_z, pm_lda_s, pm_cat_n, pm_cat_i, pm_cat_r, pm_cat_l, pm_obj, pm_arr, pm_opt, pm_ird, pm_aln, List.getElem?_cons_zero, List.getElem?_cons_succ, List.set_cons_zero, List.set_cons_succ, List.length_cons, List.length_nil, List.length_set, true_and, and_true, Nat.add_zero, Nat.zero_add, Nat.le_refl, Nat.reduceAdd, Nat.reduceLT, Nat.reduceLeDiff, Nat.zero_le, not_false_eq_true, not_true_eq_false, false_implies, implies_true, true_implies, Nat.zero_lt_succ, Nat.lt_add_one, e1, xo0, xa0, xb0, xc0, xf0, x10, x20, x30, x40, x50]
    refine PM_use (c_Desk_rowOf D0 hp1 hp3 (d + 2)) ?_
    rintro v h1 l1 ⟨rfl, rfl⟩
    show W_X2_keysWith _ _ _ _ _ _ _ _ _
    simp only [w_X2_keysWith_14, w_X2_keysWith_16, w_X2_keysWith_17, pm_1i_c, pm_2i_c, pm_1l_c, pm_2l_c, pm_1a_c, pm_ia_c, pm_iia_c, pm_va_c, pm_cp_c, pm_k0_c, pm_k1_c, pm_k2_c, pm_k3_c, pm_s1_c, pm_s2_c, pm_s3_c, pm_s4_c, pm_ri_c, pm_ra_c, pm_rn_c, pm_rk_i, pm_rk_z, pm_rk_a, pm_vk_i, pm_vk_z, pm_vk_a, pm_cti, pm_ctr, pm_ldi_z, pm_ldi_s, pm_lda_z, pm_lda_s, pm_cat_n, pm_cat_i, pm_cat_r, pm_cat_l, pm_obj, pm_arr, pm_opt, pm_ird, pm_aln, List.getElem?_cons_zero, List.getElem?_cons_succ, List.set_cons_zero, List.set_cons_succ, List.length_cons, List.length_nil, List.length_set, true_and, and_true, Nat.add_zero, Nat.zero_add, Nat.le_refl, Nat.reduceAdd, Nat.reduceLT, Nat.reduceLeDiff, Nat.zero_le, not_false_eq_true, not_true_eq_false, false_implies, implies_true, true_implies, Nat.zero_lt_succ, Nat.lt_add_one, pm_tl_n, pm_tl_s, sc_uL]
    exact loop _ 0 rfl (by omega)
  have s1 := inner 1 (by omega) (by omega) 0
  have s2 := inner 2 (by omega) (by omega) (0 + (li A 1).countP (kwP A least))
  have s3 := inner 3 (by omega) (by omega) (0 + (li A 1).countP (kwP A least) + (li A 2).countP (kwP A least))
  have s4 : ∀ (x4 x5 : Option Value), W_X2_keysWith (d + 3) (h.length + 0) 0 (fun v h' => v = some (.int (nI (kwN A least))) ∧ h' = h) 4 [some (.ref B), some (.int least), some (.int (nI (0 + (li A 1).countP (kwP A least) + (li A 2).countP (kwP A least) + (li A 3).countP (kwP A least)))), some (.int (nI 3 + 1)), x4, x5] [] h 0 := by
    intro x4 x5
    have e1 : (3 : Int32) < nI 3 + 1 := by decide
    simp only [w_X2_keysWith_4, w_X2_keysWith_5, w_X2_keysWith_6, w_X2_keysWith_67, w_X2_keysWith_68, pm_1i_c, pm_2i_c, pm_1l_c, pm_2l_c, pm_1a_c, pm_ia_c, pm_iia_c, pm_va_c, pm_cp_c, pm_k0_c, pm_k1_c, pm_k2_c, pm_k3_c, pm_s1_c, pm_s2_c, pm_s3_c, pm_s4_c, pm_ri_c, pm_ra_c, pm_rn_c, pm_rk_i, pm_rk_z, pm_rk_a, pm_vk_i, pm_vk_z, pm_vk_a, pm_cti, pm_ctr, pm_ldi_z, pm_ldi_s, pm_lda_z, pm_lda_s, pm_cat_n, pm_cat_i, pm_cat_r, pm_cat_l, pm_obj, pm_arr, pm_opt, pm_ird, pm_aln, List.getElem?_cons_zero, List.getElem?_cons_succ, List.set_cons_zero, List.set_cons_succ, List.length_cons, List.length_nil, List.length_set, true_and, and_true, Nat.add_zero, Nat.zero_add, Nat.le_refl, Nat.reduceAdd, Nat.reduceLT, Nat.reduceLeDiff, Nat.zero_le, not_false_eq_true, not_true_eq_false, false_implies, implies_true, true_implies, Nat.zero_lt_succ, Nat.lt_add_one, e1]
    rfl
  have xo0 := D0.o
  have xa0 := D0.sh
  have xb0 := D0.ko
  have xc0 := D0.lo
  have xf0 := D0.co
  have x10 := D0.wo
  have x20 := D0.to
  have x30 := D0.so
  have x40 := D0.go
  have x50 := D0.po
  simp only [w_X2_keysWith_0, w_X2_keysWith_1, w_X2_keysWith_2, w_X2_keysWith_3, pm_1i_c, pm_2i_c, pm_1l_c, pm_2l_c, pm_1a_c, pm_ia_c, pm_iia_c, pm_va_c, pm_cp_c, pm_k0_c, pm_k1_c, pm_k2_c, pm_k3_c, pm_s1_c, pm_s2_c, pm_s3_c, pm_s4_c, pm_ri_c, pm_ra_c, pm_rn_c, pm_rk_i, pm_rk_z, pm_rk_a, pm_vk_i, pm_vk_z, pm_vk_a, pm_cti, pm_ctr, pm_ldi_z, pm_ldi_s, pm_lda_z, pm_lda_s, pm_cat_n, pm_cat_i, pm_cat_r, pm_cat_l, pm_obj, pm_arr, pm_opt, pm_ird, pm_aln, List.getElem?_cons_zero, List.getElem?_cons_succ, List.set_cons_zero, List.set_cons_succ, List.length_cons, List.length_nil, List.length_set, true_and, and_true, Nat.add_zero, Nat.zero_add, Nat.le_refl, Nat.reduceAdd, Nat.reduceLT, Nat.reduceLeDiff, Nat.zero_le, not_false_eq_true, not_true_eq_false, false_implies, implies_true, true_implies, Nat.zero_lt_succ, Nat.lt_add_one]
  exact s1 (s2 (s3 s4)) _ _
end DT
