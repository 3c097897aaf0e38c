/-! Lookback: depths, dues, what is written. -/
def meS (xs : List Int32) : Nat → List Int32 × List Int32
  | 0 => ([], [])
  | k + 1 => (ins0 ((meS xs k).1.erase (xs.getD k (-1))) (xs.getD k (-1)) 100, (meS xs k).2 ++ [rw_fnd (meS xs k).1 (xs.getD k (-1))])
theorem meS_s (xs : List Int32) (k : Nat) : meS xs (k + 1) = (ins0 ((meS xs k).1.erase (xs.getD k (-1))) (xs.getD k (-1)) 100, (meS xs k).2 ++ [rw_fnd (meS xs k).1 (xs.getD k (-1))]) := rfl
def plP (room y : Int32) : Bool := decide (¬ y = -1 ∧ y < room)
def laS (T Du : List Int32) : Nat → Nat
  | 0 => 0
  | k + 1 => if Du.getD (laS T Du k) (-1) < Du.getD (k + 1) (-1) ∨ Du.getD (k + 1) (-1) = Du.getD (laS T Du k) (-1) ∧ T.getD (laS T Du k) (-1) < T.getD (k + 1) (-1) then k + 1 else laS T Du k
theorem laS_s (T Du : List Int32) (k : Nat) : laS T Du (k + 1) = if Du.getD (laS T Du k) (-1) < Du.getD (k + 1) (-1) ∨ Du.getD (k + 1) (-1) = Du.getD (laS T Du k) (-1) ∧ T.getD (laS T Du k) (-1) < T.getD (k + 1) (-1) then k + 1 else laS T Du k := rfl
def latF (T Du : List Int32) : Nat := laS T Du (Du.length - 1)
def idM (T Du : List Int32) (n : Nat) (x du : Int32) : List Int32 × List Int32 × Nat := if x ∈ T then (T, Du.set (T.idxOf x) du, n + 1) else (T ++ [x], Du ++ [du], n)
def idC (room : Int32) (t : List Int32 × List Int32 × Nat) : List Int32 × List Int32 × Nat := if room < nI t.1.length then (t.1.eraseIdx (latF t.1 t.2.1), t.2.1.eraseIdx (latF t.1 t.2.1), t.2.2) else t
def idS (xs : List Int32) (room : Int32) : Nat → List Int32 × List Int32 × Nat
  | 0 => ([], [], 0)
  | k + 1 => idC room (idM (idS xs room k).1 (idS xs room k).2.1 (idS xs room k).2.2 (xs.getD k (-1)) (nI (nxA xs k)))
theorem idS_s (xs : List Int32) (room : Int32) (k : Nat) : idS xs room (k + 1) = idC room (idM (idS xs room k).1 (idS xs room k).2.1 (idS xs room k).2.2 (xs.getD k (-1)) (nI (nxA xs k))) := rfl
def wnD (x u : Int32) : List Int32 := if ¬ x < u ∨ u = 1 then [48 + (x / u - x / u / 10 * 10)] else []
def wnF (x : Int32) : List Int32 := wnD x 10000 ++ (wnD x 1000 ++ (wnD x 100 ++ (wnD x 10 ++ wnD x 1)))
def rnG (xs : List Int32) (i : Nat) (s : Int32) : Nat → Nat → Nat
  | 0, n => n
  | f + 1, n => if xs.getD (i + n) (-1) = xs.getD i (-1) + nI n * s then rnG xs i s f (n + 1) else n
def rnF (xs : List Int32) (i : Nat) (s : Int32) : Nat := rnG xs i s (xs.length - (i + 1)) 1
def wtA (l : List Int32) (k : Nat) (x : Int32) : List Int32 := (if 0 < k then l ++ [32] else l) ++ wnF x
def wtG (xs : List Int32) : Nat → Nat → List Int32 → List Int32
  | 0, _, l => l
  | f + 1, k, l =>
    if k < xs.length then
      if 1 < rnF xs k 0 then wtG xs f (k + rnF xs k 0) (wtA l k (xs.getD k (-1)) ++ [42] ++ wnF (nI (rnF xs k 0)))
      else if 1 < rnF xs k 1 then wtG xs f (k + rnF xs k 1) (wtA l k (xs.getD k (-1)) ++ [45] ++ wnF (xs.getD k (-1) + nI (rnF xs k 1) - 1))
      else wtG xs f (k + 1) (wtA l k (xs.getD k (-1)))
    else l
theorem wtG_s (xs : List Int32) (f k : Nat) (l : List Int32) : wtG xs (f + 1) k l = if k < xs.length then
      if 1 < rnF xs k 0 then wtG xs f (k + rnF xs k 0) (wtA l k (xs.getD k (-1)) ++ [42] ++ wnF (nI (rnF xs k 0)))
      else if 1 < rnF xs k 1 then wtG xs f (k + rnF xs k 1) (wtA l k (xs.getD k (-1)) ++ [45] ++ wnF (xs.getD k (-1) + nI (rnF xs k 1) - 1))
      else wtG xs f (k + 1) (wtA l k (xs.getD k (-1)))
    else l := rfl
def wtF (xs : List Int32) : List Int32 := wtG xs 100 0 []
theorem cp_take {xs : List Int32} {p : Int32 → Bool} {k : Nat} (hk : k < xs.length) : (xs.take (k + 1)).countP p = (xs.take k).countP p + if p (xs.getD k (-1)) = true then 1 else 0 := by
  have tk : xs.take (k + 1) = xs.take k ++ [xs.getD k (-1)] := by
    rw [List.take_add_one, List.getElem?_eq_getElem hk, List.getD_eq_getElem?_getD, List.getElem?_eq_getElem hk]
    rfl
  rw [tk, List.countP_append, List.countP_singleton]
def lb_ (h : pmH) (Lb : Nat) (T Dp Du : List Int32) : Prop := h[Lb]? = some (.inr (5, [.ref (Lb + 1), .ref (Lb + 3), .ref (Lb + 5)])) ∧ rw_ h (Lb + 1) 100 T ∧ rw_ h (Lb + 3) 100 Dp ∧ rw_ h (Lb + 5) 100 Du
def frL (h h' : pmH) (Lb : Nat) : Prop := ∀ i, i < Lb ∨ Lb + 7 ≤ i → h'[i]? = h[i]?
theorem frL.rf {h : pmH} {Lb : Nat} : frL h h Lb := fun _ _ => rfl
theorem frL.tr {h h1 h2 : pmH} {Lb : Nat} (x : frL h h1 Lb) (y : frL h1 h2 Lb) : frL h h2 Lb := fun i p => (y i p).trans (x i p)
section LC
variable {h h' : pmH} {Lb P W : Nat} {T Dp Du X xs l : List Int32}
theorem lb_.ut (L : lb_ h Lb T Dp Du) (K : rw_ h' (Lb + 1) 100 X) (f : fr2 h h' (Lb + 1)) : lb_ h' Lb X Dp Du ∧ frL h h' Lb := ⟨⟨(f _ (by omega) (by omega)).trans L.1, K, L.2.2.1.kept (f _ (by omega) (by omega)) (f _ (by omega) (by omega)), L.2.2.2.kept (f _ (by omega) (by omega)) (f _ (by omega) (by omega))⟩, fun i hi => f i (by omega) (by omega)⟩
theorem lb_.ud (L : lb_ h Lb T Dp Du) (K : rw_ h' (Lb + 3) 100 X) (f : fr2 h h' (Lb + 3)) : lb_ h' Lb T X Du ∧ frL h h' Lb := ⟨⟨(f _ (by omega) (by omega)).trans L.1, L.2.1.kept (f _ (by omega) (by omega)) (f _ (by omega) (by omega)), K, L.2.2.2.kept (f _ (by omega) (by omega)) (f _ (by omega) (by omega))⟩, fun i hi => f i (by omega) (by omega)⟩
theorem lb_.uu (L : lb_ h Lb T Dp Du) (K : rw_ h' (Lb + 5) 100 X) (f : fr2 h h' (Lb + 5)) : lb_ h' Lb T Dp X ∧ frL h h' Lb := ⟨⟨(f _ (by omega) (by omega)).trans L.1, L.2.1.kept (f _ (by omega) (by omega)) (f _ (by omega) (by omega)), L.2.2.1.kept (f _ (by omega) (by omega)) (f _ (by omega) (by omega)), K⟩, fun i hi => f i (by omega) (by omega)⟩
theorem meS_len (xs : List Int32) : ∀ k, (meS xs k).2.length = k
  | 0 => rfl
  | k + 1 => by
    rw [meS_s, List.length_append, meS_len xs k]
    rfl
theorem c_Lb_measure (L : lb_ h Lb T Dp Du) (R : rw_ h P 100 xs) (nd : P + 1 < Lb ∨ Lb + 6 < P) (d : Nat) : PM (d + 2) 41 [.ref Lb, .ref P] h (fun v h' => v = none ∧ lb_ h' Lb (meS xs xs.length).1 (meS xs xs.length).2 Du ∧ frL h h' Lb) := by
  refine en_X5_measure rfl rfl ?_
  have len := R.le
  have loop : ∀ n k, xs.length - k = n → k ≤ xs.length → ∀ (hh : pmH) (x3 x4 : Option Value), lb_ hh Lb (meS xs k).1 (meS xs k).2 Du → hh.length = h.length → frL h hh Lb → W_X5_measure (d + 1) (h.length + 0) 0 (fun v h' => v = none ∧ lb_ h' Lb (meS xs xs.length).1 (meS xs xs.length).2 Du ∧ frL h h' Lb) 18 [some (.ref Lb), some (.ref P), some (.int (nI k)), x3, x4] [] hh 0 := by
    intro n
    induction n with
    | zero =>
      intro k hn hk hh x3 x4 L1 q1 q2
      have R1 : rw_ hh P 100 xs := R.kept (q2 _ (by omega)) (q2 _ (by omega))
      have ro := R1.o
      have e1 : ¬ nI k < nI xs.length := nI_nlt (by omega) (by omega)
      rw [w_X5_measure_18]
      simp only [w_X5_measure_19, w_X5_measure_20, w_X5_measure_23, w_X5_measure_26, w_X5_measure_27, w_X5_measure_28, w_X5_measure_31, w_X5_measure_32, w_X5_measure_33, w_X5_measure_36, w_X5_measure_37, w_X5_measure_40, w_X5_measure_42, w_X5_measure_43, w_X5_measure_46, w_X5_measure_48, w_X5_measure_51, w_X5_measure_52, w_X5_measure_55, w_X5_measure_57, w_X5_measure_60, w_X5_measure_61, w_X5_measure_62, w_X5_measure_65, w_X5_measure_66, w_X5_measure_67, w_X5_measure_70, w_X5_measure_73, w_X5_measure_76, pm_1i_c, pm_2i_c, pm_1l_c, pm_2l_c, pm_1a_c, pm_ia_c, pm_iia_c, pm_va_c, pm_cp_c, pm_k0_c, pm_k1_c, pm_k2_c, pm_k3_c, pm_s1_c, pm_s2_c, pm_s3_c, pm_s4_c, pm_ri_c, pm_ra_c, pm_rn_c, pm_rk_i, pm_rk_z, pm_rk_a, pm_vk_i, pm_vk_z, pm_vk_a, pm_cti, pm_ctr, pm_ldi_z, pm_ldi_s, pm_lda_z, pm_lda_s, pm_cat_n, pm_cat_i, pm_cat_r, pm_cat_l, pm_obj, pm_arr, pm_opt, pm_ird, pm_aln, List.getElem?_cons_zero, List.getElem?_cons_succ, List.set_cons_zero, List.set_cons_succ, List.length_cons, List.length_nil, List.length_set, true_and, and_true, Nat.add_zero, Nat.zero_add, Nat.le_refl, Nat.reduceAdd, Nat.reduceLT, Nat.reduceLeDiff, Nat.zero_le, not_false_eq_true, not_true_eq_false, false_implies, implies_true, true_implies, Nat.zero_lt_succ, Nat.lt_add_one, ro, q1]
      refine PM_use (c_Row_size R1 d) ?_
      rintro v h1 l1 ⟨rfl, rfl⟩
      show W_X5_measure _ _ _ _ _ _ _ _ _
      simp only [w_X5_measure_23, w_X5_measure_26, w_X5_measure_27, w_X5_measure_28, w_X5_measure_31, w_X5_measure_32, w_X5_measure_33, w_X5_measure_36, w_X5_measure_37, w_X5_measure_40, w_X5_measure_42, w_X5_measure_43, w_X5_measure_46, w_X5_measure_48, w_X5_measure_51, w_X5_measure_52, w_X5_measure_55, w_X5_measure_57, w_X5_measure_60, w_X5_measure_61, w_X5_measure_62, w_X5_measure_65, w_X5_measure_66, w_X5_measure_67, w_X5_measure_70, w_X5_measure_73, w_X5_measure_76, pm_1i_c, pm_2i_c, pm_1l_c, pm_2l_c, pm_1a_c, pm_ia_c, pm_iia_c, pm_va_c, pm_cp_c, pm_k0_c, pm_k1_c, pm_k2_c, pm_k3_c, pm_s1_c, pm_s2_c, pm_s3_c, pm_s4_c, pm_ri_c, pm_ra_c, pm_rn_c, pm_rk_i, pm_rk_z, pm_rk_a, pm_vk_i, pm_vk_z, pm_vk_a, pm_cti, pm_ctr, pm_ldi_z, pm_ldi_s, pm_lda_z, pm_lda_s, pm_cat_n, pm_cat_i, pm_cat_r, pm_cat_l, pm_obj, pm_arr, pm_opt, pm_ird, pm_aln, List.getElem?_cons_zero, List.getElem?_cons_succ, List.set_cons_zero, List.set_cons_succ, List.length_cons, List.length_nil, List.length_set, true_and, and_true, Nat.add_zero, Nat.zero_add, Nat.le_refl, Nat.reduceAdd, Nat.reduceLT, Nat.reduceLeDiff, Nat.zero_le, not_false_eq_true, not_true_eq_false, false_implies, implies_true, true_implies, Nat.zero_lt_succ, Nat.lt_add_one, pm_tl_n, pm_tl_s, sc_uL, e1, q1]
      rw [show k = xs.length by omega] at L1
      exact ⟨L1, q2⟩
    | succ n ih =>
      intro k hn hk hh x3 x4 L1 q1 q2
      have R1 : rw_ hh P 100 xs := R.kept (q2 _ (by omega)) (q2 _ (by omega))
      have ro := R1.o
      have lo := L1.1
      have to := L1.2.1.o
      have tl := L1.2.1.le
      have dl := meS_len xs k
      have e1 : nI k < nI xs.length := nI_lt (by omega) (by omega)
      rw [w_X5_measure_18]
      simp only [w_X5_measure_19, w_X5_measure_20, w_X5_measure_23, w_X5_measure_26, w_X5_measure_27, w_X5_measure_28, w_X5_measure_31, w_X5_measure_32, w_X5_measure_33, w_X5_measure_36, w_X5_measure_37, w_X5_measure_40, w_X5_measure_42, w_X5_measure_43, w_X5_measure_46, w_X5_measure_48, w_X5_measure_51, w_X5_measure_52, w_X5_measure_55, w_X5_measure_57, w_X5_measure_60, w_X5_measure_61, w_X5_measure_62, w_X5_measure_65, w_X5_measure_66, w_X5_measure_67, w_X5_measure_70, w_X5_measure_73, w_X5_measure_76, pm_1i_c, pm_2i_c, pm_1l_c, pm_2l_c, pm_1a_c, pm_ia_c, pm_iia_c, pm_va_c, pm_cp_c, pm_k0_c, pm_k1_c, pm_k2_c, pm_k3_c, pm_s1_c, pm_s2_c, pm_s3_c, pm_s4_c, pm_ri_c, pm_ra_c, pm_rn_c, pm_rk_i, pm_rk_z, pm_rk_a, pm_vk_i, pm_vk_z, pm_vk_a, pm_cti, pm_ctr, pm_ldi_z, pm_ldi_s, pm_lda_z, pm_lda_s, pm_cat_n, pm_cat_i, pm_cat_r, pm_cat_l, pm_obj, pm_arr, pm_opt, pm_ird, pm_aln, List.getElem?_cons_zero, List.getElem?_cons_succ, List.set_cons_zero, List.set_cons_succ, List.length_cons, List.length_nil, List.length_set, true_and, and_true, Nat.add_zero, Nat.zero_add, Nat.le_refl, Nat.reduceAdd, Nat.reduceLT, Nat.reduceLeDiff, Nat.zero_le, not_false_eq_true, not_true_eq_false, false_implies, implies_true, true_implies, Nat.zero_lt_succ, Nat.lt_add_one, ro, q1]
      refine PM_use (c_Row_size R1 d) ?_
      rintro v h1 l1 ⟨rfl, rfl⟩
      show W_X5_measure _ _ _ _ _ _ _ _ _
      simp only [w_X5_measure_23, w_X5_measure_26, w_X5_measure_27, w_X5_measure_28, pm_1i_c, pm_2i_c, pm_1l_c, pm_2l_c, pm_1a_c, pm_ia_c, pm_iia_c, pm_va_c, pm_cp_c, pm_k0_c, pm_k1_c, pm_k2_c, pm_k3_c, pm_s1_c, pm_s2_c, pm_s3_c, pm_s4_c, pm_ri_c, pm_ra_c, pm_rn_c, pm_rk_i, pm_rk_z, pm_rk_a, pm_vk_i, pm_vk_z, pm_vk_a, pm_cti, pm_ctr, pm_ldi_z, pm_ldi_s, pm_lda_z, pm_lda_s, pm_cat_n, pm_cat_i, pm_cat_r, pm_cat_l, pm_obj, pm_arr, pm_opt, pm_ird, pm_aln, List.getElem?_cons_zero, List.getElem?_cons_succ, List.set_cons_zero, List.set_cons_succ, List.length_cons, List.length_nil, List.length_set, true_and, and_true, Nat.add_zero, Nat.zero_add, Nat.le_refl, Nat.reduceAdd, Nat.reduceLT, Nat.reduceLeDiff, Nat.zero_le, not_false_eq_true, not_true_eq_false, false_implies, implies_true, true_implies, Nat.zero_lt_succ, Nat.lt_add_one, pm_tl_n, pm_tl_s, sc_uL, e1, ro, q1]
      refine PM_use (c_Row_get R1 (nI k) d) ?_
      rintro v h1 l1 ⟨rfl, rfl⟩
      rw [rw_getN (by omega)]
      show W_X5_measure _ _ _ _ _ _ _ _ _
      simp only [w_X5_measure_31, w_X5_measure_32, w_X5_measure_33, w_X5_measure_36, w_X5_measure_37, pm_1i_c, pm_2i_c, pm_1l_c, pm_2l_c, pm_1a_c, pm_ia_c, pm_iia_c, pm_va_c, pm_cp_c, pm_k0_c, pm_k1_c, pm_k2_c, pm_k3_c, pm_s1_c, pm_s2_c, pm_s3_c, pm_s4_c, pm_ri_c, pm_ra_c, pm_rn_c, pm_rk_i, pm_rk_z, pm_rk_a, pm_vk_i, pm_vk_z, pm_vk_a, pm_cti, pm_ctr, pm_ldi_z, pm_ldi_s, pm_lda_z, pm_lda_s, pm_cat_n, pm_cat_i, pm_cat_r, pm_cat_l, pm_obj, pm_arr, pm_opt, pm_ird, pm_aln, List.getElem?_cons_zero, List.getElem?_cons_succ, List.set_cons_zero, List.set_cons_succ, List.length_cons, List.length_nil, List.length_set, true_and, and_true, Nat.add_zero, Nat.zero_add, Nat.le_refl, Nat.reduceAdd, Nat.reduceLT, Nat.reduceLeDiff, Nat.zero_le, not_false_eq_true, not_true_eq_false, false_implies, implies_true, true_implies, Nat.zero_lt_succ, Nat.lt_add_one, pm_tl_n, pm_tl_s, sc_uL, ro, lo, to, q1]
      refine PM_use (c_Row_find L1.2.1 (xs.getD k (-1)) d) ?_
      rintro v h1 l1 ⟨rfl, rfl⟩
      have do_ := L1.2.2.1.o
      show W_X5_measure _ _ _ _ _ _ _ _ _
      simp only [w_X5_measure_40, w_X5_measure_42, w_X5_measure_43, w_X5_measure_46, w_X5_measure_48, pm_1i_c, pm_2i_c, pm_1l_c, pm_2l_c, pm_1a_c, pm_ia_c, pm_iia_c, pm_va_c, pm_cp_c, pm_k0_c, pm_k1_c, pm_k2_c, pm_k3_c, pm_s1_c, pm_s2_c, pm_s3_c, pm_s4_c, pm_ri_c, pm_ra_c, pm_rn_c, pm_rk_i, pm_rk_z, pm_rk_a, pm_vk_i, pm_vk_z, pm_vk_a, pm_cti, pm_ctr, pm_ldi_z, pm_ldi_s, pm_lda_z, pm_lda_s, pm_cat_n, pm_cat_i, pm_cat_r, pm_cat_l, pm_obj, pm_arr, pm_opt, pm_ird, pm_aln, List.getElem?_cons_zero, List.getElem?_cons_succ, List.set_cons_zero, List.set_cons_succ, List.length_cons, List.length_nil, List.length_set, true_and, and_true, Nat.add_zero, Nat.zero_add, Nat.le_refl, Nat.reduceAdd, Nat.reduceLT, Nat.reduceLeDiff, Nat.zero_le, not_false_eq_true, not_true_eq_false, false_implies, implies_true, true_implies, Nat.zero_lt_succ, Nat.lt_add_one, pm_tl_n, pm_tl_s, sc_uL, lo, do_, q1]
      refine PM_use (c_Row_append L1.2.2.1 (rw_fnd (meS xs k).1 (xs.getD k (-1))) d) ?_
      rintro v h2 l2 ⟨rfl, K1, K2⟩
      rw [if_pos (by omega)] at K1
      obtain ⟨L2, f2⟩ := L1.ud K1 K2
      have lo2 := L2.1
      have to2 := L2.2.1.o
      show W_X5_measure _ _ _ _ _ _ _ _ _
      simp only [w_X5_measure_51, w_X5_measure_52, w_X5_measure_55, w_X5_measure_57, pm_1i_c, pm_2i_c, pm_1l_c, pm_2l_c, pm_1a_c, pm_ia_c, pm_iia_c, pm_va_c, pm_cp_c, pm_k0_c, pm_k1_c, pm_k2_c, pm_k3_c, pm_s1_c, pm_s2_c, pm_s3_c, pm_s4_c, pm_ri_c, pm_ra_c, pm_rn_c, pm_rk_i, pm_rk_z, pm_rk_a, pm_vk_i, pm_vk_z, pm_vk_a, pm_cti, pm_ctr, pm_ldi_z, pm_ldi_s, pm_lda_z, pm_lda_s, pm_cat_n, pm_cat_i, pm_cat_r, pm_cat_l, pm_obj, pm_arr, pm_opt, pm_ird, pm_aln, List.getElem?_cons_zero, List.getElem?_cons_succ, List.set_cons_zero, List.set_cons_succ, List.length_cons, List.length_nil, List.length_set, true_and, and_true, Nat.add_zero, Nat.zero_add, Nat.le_refl, Nat.reduceAdd, Nat.reduceLT, Nat.reduceLeDiff, Nat.zero_le, not_false_eq_true, not_true_eq_false, false_implies, implies_true, true_implies, Nat.zero_lt_succ, Nat.lt_add_one, pm_tl_n, pm_tl_s, sc_uL, lo2, to2, l2, q1]
      refine PM_use (c_Row_rem L2.2.1 (xs.getD k (-1)) d) ?_
      rintro v h3 l3 ⟨⟨y, rfl⟩, K3, K4⟩
      obtain ⟨L3, f3⟩ := L2.ut K3 K4
      have lo3 := L3.1
      have to3 := L3.2.1.o
      show W_X5_measure _ _ _ _ _ _ _ _ _
      simp only [w_X5_measure_60, w_X5_measure_61, w_X5_measure_62, w_X5_measure_65, w_X5_measure_66, w_X5_measure_67, pm_1i_c, pm_2i_c, pm_1l_c, pm_2l_c, pm_1a_c, pm_ia_c, pm_iia_c, pm_va_c, pm_cp_c, pm_k0_c, pm_k1_c, pm_k2_c, pm_k3_c, pm_s1_c, pm_s2_c, pm_s3_c, pm_s4_c, pm_ri_c, pm_ra_c, pm_rn_c, pm_rk_i, pm_rk_z, pm_rk_a, pm_vk_i, pm_vk_z, pm_vk_a, pm_cti, pm_ctr, pm_ldi_z, pm_ldi_s, pm_lda_z, pm_lda_s, pm_cat_n, pm_cat_i, pm_cat_r, pm_cat_l, pm_obj, pm_arr, pm_opt, pm_ird, pm_aln, List.getElem?_cons_zero, List.getElem?_cons_succ, List.set_cons_zero, List.set_cons_succ, List.length_cons, List.length_nil, List.length_set, true_and, and_true, Nat.add_zero, Nat.zero_add, Nat.le_refl, Nat.reduceAdd, Nat.reduceLT, Nat.reduceLeDiff, Nat.zero_le, not_false_eq_true, not_true_eq_false, false_implies, implies_true, true_implies, Nat.zero_lt_succ, Nat.lt_add_one, pm_tl_n, pm_tl_s, sc_uL, lo3, to3, l3, l2, q1]
      refine PM_use (c_Row_ins0 L3.2.1 (by omega) (xs.getD k (-1)) d) ?_
      rintro v h4 l4 ⟨rfl, K5, K6⟩
      obtain ⟨L4, f4⟩ := L3.ut K5 K6
      show W_X5_measure _ _ _ _ _ _ _ _ _
      simp only [w_X5_measure_70, w_X5_measure_73, pm_1i_c, pm_2i_c, pm_1l_c, pm_2l_c, pm_1a_c, pm_ia_c, pm_iia_c, pm_va_c, pm_cp_c, pm_k0_c, pm_k1_c, pm_k2_c, pm_k3_c, pm_s1_c, pm_s2_c, pm_s3_c, pm_s4_c, pm_ri_c, pm_ra_c, pm_rn_c, pm_rk_i, pm_rk_z, pm_rk_a, pm_vk_i, pm_vk_z, pm_vk_a, pm_cti, pm_ctr, pm_ldi_z, pm_ldi_s, pm_lda_z, pm_lda_s, pm_cat_n, pm_cat_i, pm_cat_r, pm_cat_l, pm_obj, pm_arr, pm_opt, pm_ird, pm_aln, List.getElem?_cons_zero, List.getElem?_cons_succ, List.set_cons_zero, List.set_cons_succ, List.length_cons, List.length_nil, List.length_set, true_and, and_true, Nat.add_zero, Nat.zero_add, Nat.le_refl, Nat.reduceAdd, Nat.reduceLT, Nat.reduceLeDiff, Nat.zero_le, not_false_eq_true, not_true_eq_false, false_implies, implies_true, true_implies, Nat.zero_lt_succ, Nat.lt_add_one, pm_tl_n, pm_tl_s, sc_uL, nI_1]
      exact ih (k + 1) (by omega) (by omega) h4 _ _ (by rw [meS_s]; exact L4) (by rw [l4, l3, l2, q1]; rfl) (((q2.tr f2).tr f3).tr f4)
  have lo := L.1
  have to := L.2.1.o
  simp only [w_X5_measure_0, w_X5_measure_1, w_X5_measure_4, w_X5_measure_5, pm_1i_c, pm_2i_c, pm_1l_c, pm_2l_c, pm_1a_c, pm_ia_c, pm_iia_c, pm_va_c, pm_cp_c, pm_k0_c, pm_k1_c, pm_k2_c, pm_k3_c, pm_s1_c, pm_s2_c, pm_s3_c, pm_s4_c, pm_ri_c, pm_ra_c, pm_rn_c, pm_rk_i, pm_rk_z, pm_rk_a, pm_vk_i, pm_vk_z, pm_vk_a, pm_cti, pm_ctr, pm_ldi_z, pm_ldi_s, pm_lda_z, pm_lda_s, pm_cat_n, pm_cat_i, pm_cat_r, pm_cat_l, pm_obj, pm_arr, pm_opt, pm_ird, pm_aln, List.getElem?_cons_zero, List.getElem?_cons_succ, List.set_cons_zero, List.set_cons_succ, List.length_cons, List.length_nil, List.length_set, true_and, and_true, Nat.add_zero, Nat.zero_add, Nat.le_refl, Nat.reduceAdd, Nat.reduceLT, Nat.reduceLeDiff, Nat.zero_le, not_false_eq_true, not_true_eq_false, false_implies, implies_true, true_implies, Nat.zero_lt_succ, Nat.lt_add_one, lo, to]
  refine PM_use (c_Row_cut0 L.2.1 d) ?_
  rintro v h1 l1 ⟨rfl, K1, K2⟩
  obtain ⟨L1, f1⟩ := L.ut K1 K2
  have lo1 := L1.1
  have do1 := L1.2.2.1.o
  show W_X5_measure _ _ _ _ _ _ _ _ _
  simp only [w_X5_measure_8, w_X5_measure_9, w_X5_measure_12, w_X5_measure_13, pm_1i_c, pm_2i_c, pm_1l_c, pm_2l_c, pm_1a_c, pm_ia_c, pm_iia_c, pm_va_c, pm_cp_c, pm_k0_c, pm_k1_c, pm_k2_c, pm_k3_c, pm_s1_c, pm_s2_c, pm_s3_c, pm_s4_c, pm_ri_c, pm_ra_c, pm_rn_c, pm_rk_i, pm_rk_z, pm_rk_a, pm_vk_i, pm_vk_z, pm_vk_a, pm_cti, pm_ctr, pm_ldi_z, pm_ldi_s, pm_lda_z, pm_lda_s, pm_cat_n, pm_cat_i, pm_cat_r, pm_cat_l, pm_obj, pm_arr, pm_opt, pm_ird, pm_aln, List.getElem?_cons_zero, List.getElem?_cons_succ, List.set_cons_zero, List.set_cons_succ, List.length_cons, List.length_nil, List.length_set, true_and, and_true, Nat.add_zero, Nat.zero_add, Nat.le_refl, Nat.reduceAdd, Nat.reduceLT, Nat.reduceLeDiff, Nat.zero_le, not_false_eq_true, not_true_eq_false, false_implies, implies_true, true_implies, Nat.zero_lt_succ, Nat.lt_add_one, pm_tl_n, pm_tl_s, sc_uL, lo1, do1, l1]
  refine PM_use (c_Row_cut0 L1.2.2.1 d) ?_
  rintro v h2 l2 ⟨rfl, K3, K4⟩
  obtain ⟨L2, f2⟩ := L1.ud K3 K4
  show W_X5_measure _ _ _ _ _ _ _ _ _
  simp only [w_X5_measure_16, w_X5_measure_17, pm_1i_c, pm_2i_c, pm_1l_c, pm_2l_c, pm_1a_c, pm_ia_c, pm_iia_c, pm_va_c, pm_cp_c, pm_k0_c, pm_k1_c, pm_k2_c, pm_k3_c, pm_s1_c, pm_s2_c, pm_s3_c, pm_s4_c, pm_ri_c, pm_ra_c, pm_rn_c, pm_rk_i, pm_rk_z, pm_rk_a, pm_vk_i, pm_vk_z, pm_vk_a, pm_cti, pm_ctr, pm_ldi_z, pm_ldi_s, pm_lda_z, pm_lda_s, pm_cat_n, pm_cat_i, pm_cat_r, pm_cat_l, pm_obj, pm_arr, pm_opt, pm_ird, pm_aln, List.getElem?_cons_zero, List.getElem?_cons_succ, List.set_cons_zero, List.set_cons_succ, List.length_cons, List.length_nil, List.length_set, true_and, and_true, Nat.add_zero, Nat.zero_add, Nat.le_refl, Nat.reduceAdd, Nat.reduceLT, Nat.reduceLeDiff, Nat.zero_le, not_false_eq_true, not_true_eq_false, false_implies, implies_true, true_implies, Nat.zero_lt_succ, Nat.lt_add_one, pm_tl_n, pm_tl_s, sc_uL]
  exact loop xs.length 0 rfl (by omega) h2 _ _ L2 (by rw [l2, l1]; rfl) (f1.tr f2)
theorem c_Lb_plainHits (L : lb_ h Lb T Dp Du) (room : Int32) (d : Nat) : PM (d + 2) 42 [.ref Lb, .int room] h (fun v h' => v = some (.int (nI (Dp.countP (plP room)))) ∧ h' = h) := by
  have lo := L.1
  have R := L.2.2.1
  have ro := R.o
  have len := R.le
  refine en_X5_plainHits rfl rfl ?_
  have loop : ∀ n k, Dp.length - k = n → k ≤ Dp.length → ∀ x4, W_X5_plainHits (d + 1) (h.length + 0) 0 (fun v h' => v = some (.int (nI (Dp.countP (plP room)))) ∧ h' = h) 4 [some (.ref Lb), some (.int room), some (.int (nI ((Dp.take k).countP (plP room)))), some (.int (nI k)), x4] [] h 0 := by
    intro n
    induction n with
    | zero =>
      intro k hn hk x4
      have e1 : ¬ nI k < nI Dp.length := nI_nlt (by omega) (by omega)
      rw [w_X5_plainHits_4]
      simp only [w_X5_plainHits_5, w_X5_plainHits_6, w_X5_plainHits_9, w_X5_plainHits_12, w_X5_plainHits_15, w_X5_plainHits_16, w_X5_plainHits_19, w_X5_plainHits_20, w_X5_plainHits_23, w_X5_plainHits_25, w_X5_plainHits_26, w_X5_plainHits_28, w_X5_plainHits_29, w_X5_plainHits_32, w_X5_plainHits_34, w_X5_plainHits_35, w_X5_plainHits_38, w_X5_plainHits_39, w_X5_plainHits_42, w_X5_plainHits_43, w_X5_plainHits_44, w_X5_plainHits_45, w_X5_plainHits_48, w_X5_plainHits_51, w_X5_plainHits_52, pm_1i_c, pm_2i_c, pm_1l_c, pm_2l_c, pm_1a_c, pm_ia_c, pm_iia_c, pm_va_c, pm_cp_c, pm_k0_c, pm_k1_c, pm_k2_c, pm_k3_c, pm_s1_c, pm_s2_c, pm_s3_c, pm_s4_c, pm_ri_c, pm_ra_c, pm_rn_c, pm_rk_i, pm_rk_z, pm_rk_a, pm_vk_i, pm_vk_z, pm_vk_a, pm_cti, pm_ctr, pm_ldi_z, pm_ldi_s, pm_lda_z, pm_lda_s, pm_cat_n, pm_cat_i, pm_cat_r, pm_cat_l, pm_obj, pm_arr, pm_opt, pm_ird, pm_aln, List.getElem?_cons_zero, List.getElem?_cons_succ, List.set_cons_zero, List.set_cons_succ, List.length_cons, List.length_nil, List.length_set, true_and, and_true, Nat.add_zero, Nat.zero_add, Nat.le_refl, Nat.reduceAdd, Nat.reduceLT, Nat.reduceLeDiff, Nat.zero_le, not_false_eq_true, not_true_eq_false, false_implies, implies_true, true_implies, Nat.zero_lt_succ, Nat.lt_add_one, lo, ro]
      refine PM_use (c_Row_size R d) ?_
      rintro v h1 l1 ⟨rfl, rfl⟩
      show W_X5_plainHits _ _ _ _ _ _ _ _ _
      simp only [w_X5_plainHits_12, w_X5_plainHits_15, w_X5_plainHits_16, w_X5_plainHits_19, w_X5_plainHits_20, w_X5_plainHits_23, w_X5_plainHits_25, w_X5_plainHits_26, w_X5_plainHits_28, w_X5_plainHits_29, w_X5_plainHits_32, w_X5_plainHits_34, w_X5_plainHits_35, w_X5_plainHits_38, w_X5_plainHits_39, w_X5_plainHits_42, w_X5_plainHits_43, w_X5_plainHits_44, w_X5_plainHits_45, w_X5_plainHits_48, w_X5_plainHits_51, w_X5_plainHits_52, pm_1i_c, pm_2i_c, pm_1l_c, pm_2l_c, pm_1a_c, pm_ia_c, pm_iia_c, pm_va_c, pm_cp_c, pm_k0_c, pm_k1_c, pm_k2_c, pm_k3_c, pm_s1_c, pm_s2_c, pm_s3_c, pm_s4_c, pm_ri_c, pm_ra_c, pm_rn_c, pm_rk_i, pm_rk_z, pm_rk_a, pm_vk_i, pm_vk_z, pm_vk_a, pm_cti, pm_ctr, pm_ldi_z, pm_ldi_s, pm_lda_z, pm_lda_s, pm_cat_n, pm_cat_i, pm_cat_r, pm_cat_l, pm_obj, pm_arr, pm_opt, pm_ird, pm_aln, List.getElem?_cons_zero, List.getElem?_cons_succ, List.set_cons_zero, List.set_cons_succ, List.length_cons, List.length_nil, List.length_set, true_and, and_true, Nat.add_zero, Nat.zero_add, Nat.le_refl, Nat.reduceAdd, Nat.reduceLT, Nat.reduceLeDiff, Nat.zero_le, not_false_eq_true, not_true_eq_false, false_implies, implies_true, true_implies, Nat.zero_lt_succ, Nat.lt_add_one, pm_tl_n, pm_tl_s, sc_uL, e1]
      rw [List.take_of_length_le (by omega)]
    | succ n ih =>
      intro k hn hk x4
      have e1 : nI k < nI Dp.length := nI_lt (by omega) (by omega)
      have K := ih (k + 1) (by omega) (by omega)
      rw [cp_take (by omega)] at K
      rw [w_X5_plainHits_4]
      simp only [w_X5_plainHits_5, w_X5_plainHits_6, w_X5_plainHits_9, w_X5_plainHits_12, w_X5_plainHits_15, w_X5_plainHits_16, w_X5_plainHits_19, w_X5_plainHits_20, w_X5_plainHits_23, w_X5_plainHits_25, w_X5_plainHits_26, w_X5_plainHits_28, w_X5_plainHits_29, w_X5_plainHits_32, w_X5_plainHits_34, w_X5_plainHits_35, w_X5_plainHits_38, w_X5_plainHits_39, w_X5_plainHits_42, w_X5_plainHits_43, w_X5_plainHits_44, w_X5_plainHits_45, w_X5_plainHits_48, w_X5_plainHits_51, w_X5_plainHits_52, pm_1i_c, pm_2i_c, pm_1l_c, pm_2l_c, pm_1a_c, pm_ia_c, pm_iia_c, pm_va_c, pm_cp_c, pm_k0_c, pm_k1_c, pm_k2_c, pm_k3_c, pm_s1_c, pm_s2_c, pm_s3_c, pm_s4_c, pm_ri_c, pm_ra_c, pm_rn_c, pm_rk_i, pm_rk_z, pm_rk_a, pm_vk_i, pm_vk_z, pm_vk_a, pm_cti, pm_ctr, pm_ldi_z, pm_ldi_s, pm_lda_z, pm_lda_s, pm_cat_n, pm_cat_i, pm_cat_r, pm_cat_l, pm_obj, pm_arr, pm_opt, pm_ird, pm_aln, List.getElem?_cons_zero, List.getElem?_cons_succ, List.set_cons_zero, List.set_cons_succ, List.length_cons, List.length_nil, List.length_set, true_and, and_true, Nat.add_zero, Nat.zero_add, Nat.le_refl, Nat.reduceAdd, Nat.reduceLT, Nat.reduceLeDiff, Nat.zero_le, not_false_eq_true, not_true_eq_false, false_implies, implies_true, true_implies, Nat.zero_lt_succ, Nat.lt_add_one, lo, ro]
      refine PM_use (c_Row_size R d) ?_
      rintro v h1 l1 ⟨rfl, rfl⟩
      show W_X5_plainHits _ _ _ _ _ _ _ _ _
      simp only [w_X5_plainHits_12, w_X5_plainHits_15, w_X5_plainHits_16, w_X5_plainHits_19, w_X5_plainHits_20, w_X5_plainHits_23, w_X5_plainHits_25, w_X5_plainHits_26, w_X5_plainHits_28, w_X5_plainHits_29, w_X5_plainHits_32, w_X5_plainHits_34, w_X5_plainHits_35, w_X5_plainHits_38, w_X5_plainHits_39, w_X5_plainHits_42, w_X5_plainHits_43, w_X5_plainHits_44, w_X5_plainHits_45, w_X5_plainHits_48, w_X5_plainHits_51, w_X5_plainHits_52, pm_1i_c, pm_2i_c, pm_1l_c, pm_2l_c, pm_1a_c, pm_ia_c, pm_iia_c, pm_va_c, pm_cp_c, pm_k0_c, pm_k1_c, pm_k2_c, pm_k3_c, pm_s1_c, pm_s2_c, pm_s3_c, pm_s4_c, pm_ri_c, pm_ra_c, pm_rn_c, pm_rk_i, pm_rk_z, pm_rk_a, pm_vk_i, pm_vk_z, pm_vk_a, pm_cti, pm_ctr, pm_ldi_z, pm_ldi_s, pm_lda_z, pm_lda_s, pm_cat_n, pm_cat_i, pm_cat_r, pm_cat_l, pm_obj, pm_arr, pm_opt, pm_ird, pm_aln, List.getElem?_cons_zero, List.getElem?_cons_succ, List.set_cons_zero, List.set_cons_succ, List.length_cons, List.length_nil, List.length_set, true_and, and_true, Nat.add_zero, Nat.zero_add, Nat.le_refl, Nat.reduceAdd, Nat.reduceLT, Nat.reduceLeDiff, Nat.zero_le, not_false_eq_true, not_true_eq_false, false_implies, implies_true, true_implies, Nat.zero_lt_succ, Nat.lt_add_one, pm_tl_n, pm_tl_s, sc_uL, e1, lo, ro]
      refine PM_use (c_Row_get R (nI k) d) ?_
      rintro v h1 l1 ⟨rfl, rfl⟩
      rw [rw_getN (by omega)]
      show W_X5_plainHits _ _ _ _ _ _ _ _ _
      simp only [w_X5_plainHits_23, w_X5_plainHits_25, w_X5_plainHits_26, w_X5_plainHits_28, w_X5_plainHits_29, w_X5_plainHits_32, w_X5_plainHits_34, w_X5_plainHits_35, w_X5_plainHits_38, w_X5_plainHits_39, w_X5_plainHits_42, w_X5_plainHits_43, w_X5_plainHits_44, w_X5_plainHits_45, w_X5_plainHits_48, w_X5_plainHits_51, w_X5_plainHits_52, pm_1i_c, pm_2i_c, pm_1l_c, pm_2l_c, pm_1a_c, pm_ia_c, pm_iia_c, pm_va_c, pm_cp_c, pm_k0_c, pm_k1_c, pm_k2_c, pm_k3_c, pm_s1_c, pm_s2_c, pm_s3_c, pm_s4_c, pm_ri_c, pm_ra_c, pm_rn_c, pm_rk_i, pm_rk_z, pm_rk_a, pm_vk_i, pm_vk_z, pm_vk_a, pm_cti, pm_ctr, pm_ldi_z, pm_ldi_s, pm_lda_z, pm_lda_s, pm_cat_n, pm_cat_i, pm_cat_r, pm_cat_l, pm_obj, pm_arr, pm_opt, pm_ird, pm_aln, List.getElem?_cons_zero, List.getElem?_cons_succ, List.set_cons_zero, List.set_cons_succ, List.length_cons, List.length_nil, List.length_set, true_and, and_true, Nat.add_zero, Nat.zero_add, Nat.le_refl, Nat.reduceAdd, Nat.reduceLT, Nat.reduceLeDiff, Nat.zero_le, not_false_eq_true, not_true_eq_false, false_implies, implies_true, true_implies, Nat.zero_lt_succ, Nat.lt_add_one, pm_tl_n, pm_tl_s, sc_uL, nI_1]
      refine ⟨fun c => ?_, fun c => ⟨fun c2 => ?_, fun c2 => ?_⟩⟩
      · rw [if_neg (by unfold plP; rw [decide_eq_true_eq]; exact fun z => z.1 c)] at K
        rw [Int32.add_zero]
        exact K _
      · rw [if_neg (by unfold plP; rw [decide_eq_true_eq]; exact fun z => c2 z.2)] at K
        rw [Int32.add_zero]
        exact K _
      · rw [if_pos (by unfold plP; exact decide_eq_true ⟨c, c2⟩)] at K
        exact K _
  simp only [w_X5_plainHits_0, w_X5_plainHits_1, w_X5_plainHits_2, w_X5_plainHits_3, pm_1i_c, pm_2i_c, pm_1l_c, pm_2l_c, pm_1a_c, pm_ia_c, pm_iia_c, pm_va_c, pm_cp_c, pm_k0_c, pm_k1_c, pm_k2_c, pm_k3_c, pm_s1_c, pm_s2_c, pm_s3_c, pm_s4_c, pm_ri_c, pm_ra_c, pm_rn_c, pm_rk_i, pm_rk_z, pm_rk_a, pm_vk_i, pm_vk_z, pm_vk_a, pm_cti, pm_ctr, pm_ldi_z, pm_ldi_s, pm_lda_z, pm_lda_s, pm_cat_n, pm_cat_i, pm_cat_r, pm_cat_l, pm_obj, pm_arr, pm_opt, pm_ird, pm_aln, List.getElem?_cons_zero, List.getElem?_cons_succ, List.set_cons_zero, List.set_cons_succ, List.length_cons, List.length_nil, List.length_set, true_and, and_true, Nat.add_zero, Nat.zero_add, Nat.le_refl, Nat.reduceAdd, Nat.reduceLT, Nat.reduceLeDiff, Nat.zero_le, not_false_eq_true, not_true_eq_false, false_implies, implies_true, true_implies, Nat.zero_lt_succ, Nat.lt_add_one]
  exact loop Dp.length 0 rfl (by omega) _
theorem laS_le (T Du : List Int32) : ∀ k, laS T Du k ≤ k
  | 0 => Nat.le_refl 0
  | k + 1 => by
    rw [laS_s]
    have := laS_le T Du k
    split <;> omega
theorem c_Lb_latestDue (L : lb_ h Lb T Dp Du) (d : Nat) : PM (d + 2) 45 [.ref Lb] h (fun v h' => v = some (.int (nI (latF T Du))) ∧ h' = h) := by
  have lo := L.1
  have R := L.2.2.2
  have ro := R.o
  have len := R.le
  have T1 := L.2.1
  have to := T1.o
  refine en_X5_latestDue rfl ?_
  have loop : ∀ n k, Du.length - (k + 1) = n → (k + 1 ≤ Du.length ∨ k = 0) → ∀ x3, W_X5_latestDue (d + 1) (h.length + 0) 0 (fun v h' => v = some (.int (nI (latF T Du))) ∧ h' = h) 4 [some (.ref Lb), some (.int (nI (laS T Du k))), some (.int (nI (k + 1))), x3] [] h 0 := by
    intro n
    induction n with
    | zero =>
      intro k hn hk x3
      have e1 : ¬ nI (k + 1) < nI Du.length := nI_nlt (by omega) (by omega)
      rw [w_X5_latestDue_4]
      simp only [w_X5_latestDue_5, w_X5_latestDue_6, w_X5_latestDue_9, w_X5_latestDue_12, w_X5_latestDue_15, w_X5_latestDue_16, w_X5_latestDue_19, w_X5_latestDue_20, w_X5_latestDue_23, w_X5_latestDue_24, w_X5_latestDue_27, w_X5_latestDue_28, w_X5_latestDue_31, w_X5_latestDue_34, w_X5_latestDue_35, w_X5_latestDue_38, w_X5_latestDue_39, w_X5_latestDue_42, w_X5_latestDue_43, w_X5_latestDue_46, w_X5_latestDue_47, w_X5_latestDue_50, w_X5_latestDue_53, w_X5_latestDue_54, w_X5_latestDue_57, w_X5_latestDue_58, w_X5_latestDue_61, w_X5_latestDue_62, w_X5_latestDue_65, w_X5_latestDue_66, w_X5_latestDue_69, w_X5_latestDue_72, w_X5_latestDue_73, w_X5_latestDue_76, w_X5_latestDue_77, w_X5_latestDue_78, w_X5_latestDue_79, w_X5_latestDue_82, w_X5_latestDue_83, w_X5_latestDue_86, w_X5_latestDue_87, w_X5_latestDue_88, w_X5_latestDue_91, w_X5_latestDue_94, w_X5_latestDue_95, pm_1i_c, pm_2i_c, pm_1l_c, pm_2l_c, pm_1a_c, pm_ia_c, pm_iia_c, pm_va_c, pm_cp_c, pm_k0_c, pm_k1_c, pm_k2_c, pm_k3_c, pm_s1_c, pm_s2_c, pm_s3_c, pm_s4_c, pm_ri_c, pm_ra_c, pm_rn_c, pm_rk_i, pm_rk_z, pm_rk_a, pm_vk_i, pm_vk_z, pm_vk_a, pm_cti, pm_ctr, pm_ldi_z, pm_ldi_s, pm_lda_z, pm_lda_s, pm_cat_n, pm_cat_i, pm_cat_r, pm_cat_l, pm_obj, pm_arr, pm_opt, pm_ird, pm_aln, List.getElem?_cons_zero, List.getElem?_cons_succ, List.set_cons_zero, List.set_cons_succ, List.length_cons, List.length_nil, List.length_set, true_and, and_true, Nat.add_zero, Nat.zero_add, Nat.le_refl, Nat.reduceAdd, Nat.reduceLT, Nat.reduceLeDiff, Nat.zero_le, not_false_eq_true, not_true_eq_false, false_implies, implies_true, true_implies, Nat.zero_lt_succ, Nat.lt_add_one, lo, ro]
      refine PM_use (c_Row_size R d) ?_
      rintro v h1 l1 ⟨rfl, rfl⟩
      show W_X5_latestDue _ _ _ _ _ _ _ _ _
      simp only [w_X5_latestDue_12, w_X5_latestDue_15, w_X5_latestDue_16, w_X5_latestDue_19, w_X5_latestDue_20, w_X5_latestDue_23, w_X5_latestDue_24, w_X5_latestDue_27, w_X5_latestDue_28, w_X5_latestDue_31, w_X5_latestDue_34, w_X5_latestDue_35, w_X5_latestDue_38, w_X5_latestDue_39, w_X5_latestDue_42, w_X5_latestDue_43, w_X5_latestDue_46, w_X5_latestDue_47, w_X5_latestDue_50, w_X5_latestDue_53, w_X5_latestDue_54, w_X5_latestDue_57, w_X5_latestDue_58, w_X5_latestDue_61, w_X5_latestDue_62, w_X5_latestDue_65, w_X5_latestDue_66, w_X5_latestDue_69, w_X5_latestDue_72, w_X5_latestDue_73, w_X5_latestDue_76, w_X5_latestDue_77, w_X5_latestDue_78, w_X5_latestDue_79, w_X5_latestDue_82, w_X5_latestDue_83, w_X5_latestDue_86, w_X5_latestDue_87, w_X5_latestDue_88, w_X5_latestDue_91, w_X5_latestDue_94, w_X5_latestDue_95, pm_1i_c, pm_2i_c, pm_1l_c, pm_2l_c, pm_1a_c, pm_ia_c, pm_iia_c, pm_va_c, pm_cp_c, pm_k0_c, pm_k1_c, pm_k2_c, pm_k3_c, pm_s1_c, pm_s2_c, pm_s3_c, pm_s4_c, pm_ri_c, pm_ra_c, pm_rn_c, pm_rk_i, pm_rk_z, pm_rk_a, pm_vk_i, pm_vk_z, pm_vk_a, pm_cti, pm_ctr, pm_ldi_z, pm_ldi_s, pm_lda_z, pm_lda_s, pm_cat_n, pm_cat_i, pm_cat_r, pm_cat_l, pm_obj, pm_arr, pm_opt, pm_ird, pm_aln, List.getElem?_cons_zero, List.getElem?_cons_succ, List.set_cons_zero, List.set_cons_succ, List.length_cons, List.length_nil, List.length_set, true_and, and_true, Nat.add_zero, Nat.zero_add, Nat.le_refl, Nat.reduceAdd, Nat.reduceLT, Nat.reduceLeDiff, Nat.zero_le, not_false_eq_true, not_true_eq_false, false_implies, implies_true, true_implies, Nat.zero_lt_succ, Nat.lt_add_one, pm_tl_n, pm_tl_s, sc_uL, e1]
      unfold latF
      rw [show Du.length - 1 = k by omega]
    | succ n ih =>
      intro k hn hk x3
      have e1 : nI (k + 1) < nI Du.length := nI_lt (by omega) (by omega)
      have K := ih (k + 1) (by omega) (by omega)
      have la := laS_le T Du k
      rw [laS_s] at K
      rw [w_X5_latestDue_4]
      simp only [w_X5_latestDue_5, w_X5_latestDue_6, w_X5_latestDue_9, w_X5_latestDue_12, w_X5_latestDue_15, w_X5_latestDue_16, w_X5_latestDue_19, w_X5_latestDue_20, w_X5_latestDue_23, w_X5_latestDue_24, w_X5_latestDue_27, w_X5_latestDue_28, w_X5_latestDue_31, w_X5_latestDue_34, w_X5_latestDue_35, w_X5_latestDue_38, w_X5_latestDue_39, w_X5_latestDue_42, w_X5_latestDue_43, w_X5_latestDue_46, w_X5_latestDue_47, w_X5_latestDue_50, w_X5_latestDue_53, w_X5_latestDue_54, w_X5_latestDue_57, w_X5_latestDue_58, w_X5_latestDue_61, w_X5_latestDue_62, w_X5_latestDue_65, w_X5_latestDue_66, w_X5_latestDue_69, w_X5_latestDue_72, w_X5_latestDue_73, w_X5_latestDue_76, w_X5_latestDue_77, w_X5_latestDue_78, w_X5_latestDue_79, w_X5_latestDue_82, w_X5_latestDue_83, w_X5_latestDue_86, w_X5_latestDue_87, w_X5_latestDue_88, w_X5_latestDue_91, w_X5_latestDue_94, w_X5_latestDue_95, pm_1i_c, pm_2i_c, pm_1l_c, pm_2l_c, pm_1a_c, pm_ia_c, pm_iia_c, pm_va_c, pm_cp_c, pm_k0_c, pm_k1_c, pm_k2_c, pm_k3_c, pm_s1_c, pm_s2_c, pm_s3_c, pm_s4_c, pm_ri_c, pm_ra_c, pm_rn_c, pm_rk_i, pm_rk_z, pm_rk_a, pm_vk_i, pm_vk_z, pm_vk_a, pm_cti, pm_ctr, pm_ldi_z, pm_ldi_s, pm_lda_z, pm_lda_s, pm_cat_n, pm_cat_i, pm_cat_r, pm_cat_l, pm_obj, pm_arr, pm_opt, pm_ird, pm_aln, List.getElem?_cons_zero, List.getElem?_cons_succ, List.set_cons_zero, List.set_cons_succ, List.length_cons, List.length_nil, List.length_set, true_and, and_true, Nat.add_zero, Nat.zero_add, Nat.le_refl, Nat.reduceAdd, Nat.reduceLT, Nat.reduceLeDiff, Nat.zero_le, not_false_eq_true, not_true_eq_false, false_implies, implies_true, true_implies, Nat.zero_lt_succ, Nat.lt_add_one, lo, ro]
      refine PM_use (c_Row_size R d) ?_
      rintro v h1 l1 ⟨rfl, rfl⟩
      show W_X5_latestDue _ _ _ _ _ _ _ _ _
      simp only [w_X5_latestDue_12, w_X5_latestDue_15, w_X5_latestDue_16, w_X5_latestDue_19, w_X5_latestDue_20, w_X5_latestDue_23, w_X5_latestDue_24, w_X5_latestDue_27, w_X5_latestDue_28, w_X5_latestDue_31, w_X5_latestDue_34, w_X5_latestDue_35, w_X5_latestDue_38, w_X5_latestDue_39, w_X5_latestDue_42, w_X5_latestDue_43, w_X5_latestDue_46, w_X5_latestDue_47, w_X5_latestDue_50, w_X5_latestDue_53, w_X5_latestDue_54, w_X5_latestDue_57, w_X5_latestDue_58, w_X5_latestDue_61, w_X5_latestDue_62, w_X5_latestDue_65, w_X5_latestDue_66, w_X5_latestDue_69, w_X5_latestDue_72, w_X5_latestDue_73, w_X5_latestDue_76, w_X5_latestDue_77, w_X5_latestDue_78, w_X5_latestDue_79, w_X5_latestDue_82, w_X5_latestDue_83, w_X5_latestDue_86, w_X5_latestDue_87, w_X5_latestDue_88, w_X5_latestDue_91, w_X5_latestDue_94, w_X5_latestDue_95, pm_1i_c, pm_2i_c, pm_1l_c, pm_2l_c, pm_1a_c, pm_ia_c, pm_iia_c, pm_va_c, pm_cp_c, pm_k0_c, pm_k1_c, pm_k2_c, pm_k3_c, pm_s1_c, pm_s2_c, pm_s3_c, pm_s4_c, pm_ri_c, pm_ra_c, pm_rn_c, pm_rk_i, pm_rk_z, pm_rk_a, pm_vk_i, pm_vk_z, pm_vk_a, pm_cti, pm_ctr, pm_ldi_z, pm_ldi_s, pm_lda_z, pm_lda_s, pm_cat_n, pm_cat_i, pm_cat_r, pm_cat_l, pm_obj, pm_arr, pm_opt, pm_ird, pm_aln, List.getElem?_cons_zero, List.getElem?_cons_succ, List.set_cons_zero, List.set_cons_succ, List.length_cons, List.length_nil, List.length_set, true_and, and_true, Nat.add_zero, Nat.zero_add, Nat.le_refl, Nat.reduceAdd, Nat.reduceLT, Nat.reduceLeDiff, Nat.zero_le, not_false_eq_true, not_true_eq_false, false_implies, implies_true, true_implies, Nat.zero_lt_succ, Nat.lt_add_one, pm_tl_n, pm_tl_s, sc_uL, e1, lo, ro]
      refine PM_use (c_Row_get R (nI (k + 1)) d) ?_
      rintro v h1 l1 ⟨rfl, rfl⟩
      rw [rw_getN (by omega)]
      show W_X5_latestDue _ _ _ _ _ _ _ _ _
      simp only [w_X5_latestDue_23, w_X5_latestDue_24, w_X5_latestDue_27, w_X5_latestDue_28, w_X5_latestDue_31, w_X5_latestDue_34, w_X5_latestDue_35, w_X5_latestDue_38, w_X5_latestDue_39, w_X5_latestDue_42, w_X5_latestDue_43, w_X5_latestDue_46, w_X5_latestDue_47, w_X5_latestDue_50, w_X5_latestDue_53, w_X5_latestDue_54, w_X5_latestDue_57, w_X5_latestDue_58, w_X5_latestDue_61, w_X5_latestDue_62, w_X5_latestDue_65, w_X5_latestDue_66, w_X5_latestDue_69, w_X5_latestDue_72, w_X5_latestDue_73, w_X5_latestDue_76, w_X5_latestDue_77, w_X5_latestDue_78, w_X5_latestDue_79, w_X5_latestDue_82, w_X5_latestDue_83, w_X5_latestDue_86, w_X5_latestDue_87, w_X5_latestDue_88, w_X5_latestDue_91, w_X5_latestDue_94, w_X5_latestDue_95, pm_1i_c, pm_2i_c, pm_1l_c, pm_2l_c, pm_1a_c, pm_ia_c, pm_iia_c, pm_va_c, pm_cp_c, pm_k0_c, pm_k1_c, pm_k2_c, pm_k3_c, pm_s1_c, pm_s2_c, pm_s3_c, pm_s4_c, pm_ri_c, pm_ra_c, pm_rn_c, pm_rk_i, pm_rk_z, pm_rk_a, pm_vk_i, pm_vk_z, pm_vk_a, pm_cti, pm_ctr, pm_ldi_z, pm_ldi_s, pm_lda_z, pm_lda_s, pm_cat_n, pm_cat_i, pm_cat_r, pm_cat_l, pm_obj, pm_arr, pm_opt, pm_ird, pm_aln, List.getElem?_cons_zero, List.getElem?_cons_succ, List.set_cons_zero, List.set_cons_succ, List.length_cons, List.length_nil, List.length_set, true_and, and_true, Nat.add_zero, Nat.zero_add, Nat.le_refl, Nat.reduceAdd, Nat.reduceLT, Nat.reduceLeDiff, Nat.zero_le, not_false_eq_true, not_true_eq_false, false_implies, implies_true, true_implies, Nat.zero_lt_succ, Nat.lt_add_one, pm_tl_n, pm_tl_s, sc_uL, lo, ro]
      refine PM_use (c_Row_get R (nI (laS T Du k)) d) ?_
      rintro v h1 l1 ⟨rfl, rfl⟩
      rw [rw_getN (by omega)]
      show W_X5_latestDue _ _ _ _ _ _ _ _ _
      simp only [w_X5_latestDue_31, w_X5_latestDue_34, w_X5_latestDue_35, w_X5_latestDue_38, w_X5_latestDue_39, w_X5_latestDue_42, w_X5_latestDue_43, w_X5_latestDue_46, w_X5_latestDue_47, w_X5_latestDue_50, w_X5_latestDue_53, w_X5_latestDue_54, w_X5_latestDue_57, w_X5_latestDue_58, w_X5_latestDue_61, w_X5_latestDue_62, w_X5_latestDue_65, w_X5_latestDue_66, w_X5_latestDue_69, w_X5_latestDue_72, w_X5_latestDue_73, w_X5_latestDue_76, w_X5_latestDue_77, w_X5_latestDue_78, w_X5_latestDue_79, w_X5_latestDue_82, w_X5_latestDue_83, w_X5_latestDue_86, w_X5_latestDue_87, w_X5_latestDue_88, w_X5_latestDue_91, w_X5_latestDue_94, w_X5_latestDue_95, pm_1i_c, pm_2i_c, pm_1l_c, pm_2l_c, pm_1a_c, pm_ia_c, pm_iia_c, pm_va_c, pm_cp_c, pm_k0_c, pm_k1_c, pm_k2_c, pm_k3_c, pm_s1_c, pm_s2_c, pm_s3_c, pm_s4_c, pm_ri_c, pm_ra_c, pm_rn_c, pm_rk_i, pm_rk_z, pm_rk_a, pm_vk_i, pm_vk_z, pm_vk_a, pm_cti, pm_ctr, pm_ldi_z, pm_ldi_s, pm_lda_z, pm_lda_s, pm_cat_n, pm_cat_i, pm_cat_r, pm_cat_l, pm_obj, pm_arr, pm_opt, pm_ird, pm_aln, List.getElem?_cons_zero, List.getElem?_cons_succ, List.set_cons_zero, List.set_cons_succ, List.length_cons, List.length_nil, List.length_set, true_and, and_true, Nat.add_zero, Nat.zero_add, Nat.le_refl, Nat.reduceAdd, Nat.reduceLT, Nat.reduceLeDiff, Nat.zero_le, not_false_eq_true, not_true_eq_false, false_implies, implies_true, true_implies, Nat.zero_lt_succ, Nat.lt_add_one, pm_tl_n, pm_tl_s, sc_uL, lo, ro, nI_1, show ¬ (1 : Int32) = 0 by decide]
      refine ⟨fun c => ?_, fun c => ?_⟩
      · rw [if_pos (Or.inl c)] at K
        exact K _
      refine PM_use (c_Row_get R (nI (k + 1)) d) ?_
      rintro v h1 l1 ⟨rfl, rfl⟩
      rw [rw_getN (by omega)]
      show W_X5_latestDue _ _ _ _ _ _ _ _ _
      simp only [w_X5_latestDue_42, w_X5_latestDue_43, w_X5_latestDue_46, w_X5_latestDue_47, w_X5_latestDue_50, w_X5_latestDue_53, w_X5_latestDue_54, w_X5_latestDue_57, w_X5_latestDue_58, w_X5_latestDue_61, w_X5_latestDue_62, w_X5_latestDue_65, w_X5_latestDue_66, w_X5_latestDue_69, w_X5_latestDue_72, w_X5_latestDue_73, w_X5_latestDue_76, w_X5_latestDue_77, w_X5_latestDue_78, w_X5_latestDue_79, w_X5_latestDue_82, w_X5_latestDue_83, w_X5_latestDue_86, w_X5_latestDue_87, w_X5_latestDue_88, w_X5_latestDue_91, w_X5_latestDue_94, w_X5_latestDue_95, pm_1i_c, pm_2i_c, pm_1l_c, pm_2l_c, pm_1a_c, pm_ia_c, pm_iia_c, pm_va_c, pm_cp_c, pm_k0_c, pm_k1_c, pm_k2_c, pm_k3_c, pm_s1_c, pm_s2_c, pm_s3_c, pm_s4_c, pm_ri_c, pm_ra_c, pm_rn_c, pm_rk_i, pm_rk_z, pm_rk_a, pm_vk_i, pm_vk_z, pm_vk_a, pm_cti, pm_ctr, pm_ldi_z, pm_ldi_s, pm_lda_z, pm_lda_s, pm_cat_n, pm_cat_i, pm_cat_r, pm_cat_l, pm_obj, pm_arr, pm_opt, pm_ird, pm_aln, List.getElem?_cons_zero, List.getElem?_cons_succ, List.set_cons_zero, List.set_cons_succ, List.length_cons, List.length_nil, List.length_set, true_and, and_true, Nat.add_zero, Nat.zero_add, Nat.le_refl, Nat.reduceAdd, Nat.reduceLT, Nat.reduceLeDiff, Nat.zero_le, not_false_eq_true, not_true_eq_false, false_implies, implies_true, true_implies, Nat.zero_lt_succ, Nat.lt_add_one, pm_tl_n, pm_tl_s, sc_uL, lo, ro]
      refine PM_use (c_Row_get R (nI (laS T Du k)) d) ?_
      rintro v h1 l1 ⟨rfl, rfl⟩
      rw [rw_getN (by omega)]
      show W_X5_latestDue _ _ _ _ _ _ _ _ _
      simp only [w_X5_latestDue_50, w_X5_latestDue_53, w_X5_latestDue_54, w_X5_latestDue_57, w_X5_latestDue_58, w_X5_latestDue_61, w_X5_latestDue_62, w_X5_latestDue_65, w_X5_latestDue_66, w_X5_latestDue_69, w_X5_latestDue_72, w_X5_latestDue_73, w_X5_latestDue_76, w_X5_latestDue_77, w_X5_latestDue_78, w_X5_latestDue_79, w_X5_latestDue_82, w_X5_latestDue_83, w_X5_latestDue_86, w_X5_latestDue_87, w_X5_latestDue_88, w_X5_latestDue_91, w_X5_latestDue_94, w_X5_latestDue_95, pm_1i_c, pm_2i_c, pm_1l_c, pm_2l_c, pm_1a_c, pm_ia_c, pm_iia_c, pm_va_c, pm_cp_c, pm_k0_c, pm_k1_c, pm_k2_c, pm_k3_c, pm_s1_c, pm_s2_c, pm_s3_c, pm_s4_c, pm_ri_c, pm_ra_c, pm_rn_c, pm_rk_i, pm_rk_z, pm_rk_a, pm_vk_i, pm_vk_z, pm_vk_a, pm_cti, pm_ctr, pm_ldi_z, pm_ldi_s, pm_lda_z, pm_lda_s, pm_cat_n, pm_cat_i, pm_cat_r, pm_cat_l, pm_obj, pm_arr, pm_opt, pm_ird, pm_aln, List.getElem?_cons_zero, List.getElem?_cons_succ, List.set_cons_zero, List.set_cons_succ, List.length_cons, List.length_nil, List.length_set, true_and, and_true, Nat.add_zero, Nat.zero_add, Nat.le_refl, Nat.reduceAdd, Nat.reduceLT, Nat.reduceLeDiff, Nat.zero_le, not_false_eq_true, not_true_eq_false, false_implies, implies_true, true_implies, Nat.zero_lt_succ, Nat.lt_add_one, pm_tl_n, pm_tl_s, sc_uL, lo, ro, to, nI_1, show ¬ (1 : Int32) = 0 by decide]
      refine ⟨fun c2 => ?_, fun c2 => ?_⟩
      · rw [if_neg (fun z => z.elim c (fun y => c2 y.1))] at K
        exact K _
      refine PM_use (c_Row_get T1 (nI (k + 1)) d) ?_
      rintro v h1 l1 ⟨rfl, rfl⟩
      rw [rw_getN (by omega)]
      show W_X5_latestDue _ _ _ _ _ _ _ _ _
      simp only [w_X5_latestDue_61, w_X5_latestDue_62, w_X5_latestDue_65, w_X5_latestDue_66, w_X5_latestDue_69, w_X5_latestDue_72, w_X5_latestDue_73, w_X5_latestDue_76, w_X5_latestDue_77, w_X5_latestDue_78, w_X5_latestDue_79, w_X5_latestDue_82, w_X5_latestDue_83, w_X5_latestDue_86, w_X5_latestDue_87, w_X5_latestDue_88, w_X5_latestDue_91, w_X5_latestDue_94, w_X5_latestDue_95, pm_1i_c, pm_2i_c, pm_1l_c, pm_2l_c, pm_1a_c, pm_ia_c, pm_iia_c, pm_va_c, pm_cp_c, pm_k0_c, pm_k1_c, pm_k2_c, pm_k3_c, pm_s1_c, pm_s2_c, pm_s3_c, pm_s4_c, pm_ri_c, pm_ra_c, pm_rn_c, pm_rk_i, pm_rk_z, pm_rk_a, pm_vk_i, pm_vk_z, pm_vk_a, pm_cti, pm_ctr, pm_ldi_z, pm_ldi_s, pm_lda_z, pm_lda_s, pm_cat_n, pm_cat_i, pm_cat_r, pm_cat_l, pm_obj, pm_arr, pm_opt, pm_ird, pm_aln, List.getElem?_cons_zero, List.getElem?_cons_succ, List.set_cons_zero, List.set_cons_succ, List.length_cons, List.length_nil, List.length_set, true_and, and_true, Nat.add_zero, Nat.zero_add, Nat.le_refl, Nat.reduceAdd, Nat.reduceLT, Nat.reduceLeDiff, Nat.zero_le, not_false_eq_true, not_true_eq_false, false_implies, implies_true, true_implies, Nat.zero_lt_succ, Nat.lt_add_one, pm_tl_n, pm_tl_s, sc_uL, lo, to]
      refine PM_use (c_Row_get T1 (nI (laS T Du k)) d) ?_
      rintro v h1 l1 ⟨rfl, rfl⟩
      rw [rw_getN (by omega)]
      show W_X5_latestDue _ _ _ _ _ _ _ _ _
      simp only [w_X5_latestDue_69, w_X5_latestDue_72, w_X5_latestDue_73, w_X5_latestDue_76, w_X5_latestDue_77, w_X5_latestDue_78, w_X5_latestDue_79, w_X5_latestDue_82, w_X5_latestDue_83, w_X5_latestDue_86, w_X5_latestDue_87, w_X5_latestDue_88, w_X5_latestDue_91, w_X5_latestDue_94, w_X5_latestDue_95, pm_1i_c, pm_2i_c, pm_1l_c, pm_2l_c, pm_1a_c, pm_ia_c, pm_iia_c, pm_va_c, pm_cp_c, pm_k0_c, pm_k1_c, pm_k2_c, pm_k3_c, pm_s1_c, pm_s2_c, pm_s3_c, pm_s4_c, pm_ri_c, pm_ra_c, pm_rn_c, pm_rk_i, pm_rk_z, pm_rk_a, pm_vk_i, pm_vk_z, pm_vk_a, pm_cti, pm_ctr, pm_ldi_z, pm_ldi_s, pm_lda_z, pm_lda_s, pm_cat_n, pm_cat_i, pm_cat_r, pm_cat_l, pm_obj, pm_arr, pm_opt, pm_ird, pm_aln, List.getElem?_cons_zero, List.getElem?_cons_succ, List.set_cons_zero, List.set_cons_succ, List.length_cons, List.length_nil, List.length_set, true_and, and_true, Nat.add_zero, Nat.zero_add, Nat.le_refl, Nat.reduceAdd, Nat.reduceLT, Nat.reduceLeDiff, Nat.zero_le, not_false_eq_true, not_true_eq_false, false_implies, implies_true, true_implies, Nat.zero_lt_succ, Nat.lt_add_one, pm_tl_n, pm_tl_s, sc_uL, lo, ro, to, nI_1, show ¬ (1 : Int32) = 0 by decide]
      refine ⟨fun c3 => ?_, fun c3 => ?_⟩
      · rw [if_neg (fun z => z.elim c (fun y => c3 y.2))] at K
        exact K _
      · rw [if_pos (Or.inr ⟨c2, c3⟩)] at K
        exact K _
  simp only [w_X5_latestDue_0, w_X5_latestDue_1, w_X5_latestDue_2, w_X5_latestDue_3, pm_1i_c, pm_2i_c, pm_1l_c, pm_2l_c, pm_1a_c, pm_ia_c, pm_iia_c, pm_va_c, pm_cp_c, pm_k0_c, pm_k1_c, pm_k2_c, pm_k3_c, pm_s1_c, pm_s2_c, pm_s3_c, pm_s4_c, pm_ri_c, pm_ra_c, pm_rn_c, pm_rk_i, pm_rk_z, pm_rk_a, pm_vk_i, pm_vk_z, pm_vk_a, pm_cti, pm_ctr, pm_ldi_z, pm_ldi_s, pm_lda_z, pm_lda_s, pm_cat_n, pm_cat_i, pm_cat_r, pm_cat_l, pm_obj, pm_arr, pm_opt, pm_ird, pm_aln, List.getElem?_cons_zero, List.getElem?_cons_succ, List.set_cons_zero, List.set_cons_succ, List.length_cons, List.length_nil, List.length_set, true_and, and_true, Nat.add_zero, Nat.zero_add, Nat.le_refl, Nat.reduceAdd, Nat.reduceLT, Nat.reduceLeDiff, Nat.zero_le, not_false_eq_true, not_true_eq_false, false_implies, implies_true, true_implies, Nat.zero_lt_succ, Nat.lt_add_one]
  exact loop (Du.length - 1) 0 rfl (Or.inr rfl) _
end LC
