/-! AdmissionDeskModel: ideal. -/
section MX
variable {h h' : pmH} {m : Nat} {o : Nat → Int32} {A A' K K' B : AD} {bs ws bs' ws' : List Int32} {ik ft : Int32}
/-- the next ask for y from k on -/
def ndN (xs : List Int32) (y : Int32) (k : Nat) : Nat := nxN xs y (xs.length - k) k
theorem ndN_s (xs : List Int32) (y : Int32) {k : Nat} (hk : k < xs.length) : ndN xs y k = if xs.getD k (-1) = y then k else ndN xs y (k + 1) := by
  unfold ndN
  rw [show xs.length - k = (xs.length - (k + 1)) + 1 by omega]
  rfl
theorem ndN_e (xs : List Int32) (y : Int32) {k : Nat} (hk : xs.length ≤ k) : ndN xs y k = 100 := by
  unfold ndN
  rw [show xs.length - k = 0 by omega]
  rfl
theorem ndN_le (xs : List Int32) (y : Int32) (hl : xs.length ≤ 100) : ∀ z k, xs.length - k = z → ndN xs y k ≤ 100
  | 0, k, hz => by rw [ndN_e xs y (by omega)]; omega
  | z + 1, k, hz => by
    rw [ndN_s xs y (by omega)]
    split
    · omega
    · exact ndN_le xs y hl z (k + 1) (by omega)
theorem c_M_nextAsk (H : md_ h m o A) (y : Int32) {k : Nat} (hk : k < (li A 5).length) (d : Nat) : PM (d + 2) 235 [.ref m, .int y, .int (nI k)] h (fun v h' => v = some (.int (nI (ndN (li A 5) y (k + 1)))) ∧ h' = h) := by
  have H2 := H
  obtain ⟨H0, f, H1, R⟩ := H
  unfold mO at H0
  have a1 := R.h.1
  refine en_X12_nextAsk rfl rfl rfl ?_
  have loop : ∀ z j, (li A 5).length - j = z → j ≤ (li A 5).length → ndN (li A 5) y j = ndN (li A 5) y (k + 1) → W_X12_nextAsk (d + 1) (h.length + 0) 0 (fun v h' => v = some (.int (nI (ndN (li A 5) y (k + 1)))) ∧ h' = h) 4 [some (.ref m), some (.int y), some (.int (nI k)), some (.int (nI j))] [] h 0 := by
    intro z
    induction z with
    | zero =>
      intro j hz hj e
      have : j = (li A 5).length := by omega
      subst this
      have e1 : ¬ nI (li A 5).length < nI (li A 5).length := nI_nlt (by omega) (by omega)
      rw [w_X12_nextAsk_4]
      simp only [w_X12_nextAsk_5, w_X12_nextAsk_6, pm_1i_c, pm_2i_c, pm_1l_c, pm_2l_c, pm_1a_c, pm_ia_c, pm_iia_c, pm_va_c, pm_cp_c, pm_k0_c, pm_k1_c, pm_k2_c, pm_k3_c, pm_s1_c, pm_s2_c, pm_s3_c, pm_s4_c, pm_ri_c, pm_ra_c, pm_rn_c, pm_rk_i, pm_rk_z, pm_rk_a, pm_vk_i, pm_vk_z, pm_vk_a, pm_cti, pm_ctr, pm_ldi_z, pm_ldi_s, pm_lda_z, pm_lda_s, pm_cat_n, pm_cat_i, pm_cat_r, pm_cat_l, pm_obj, pm_arr, pm_opt, pm_ird, pm_aln, List.getElem?_cons_zero, List.getElem?_cons_succ, List.set_cons_zero, List.set_cons_succ, List.length_cons, List.length_nil, List.length_set, true_and, and_true, Nat.add_zero, Nat.zero_add, Nat.le_refl, Nat.reduceAdd, Nat.reduceLT, Nat.reduceLeDiff, Nat.zero_le, not_false_eq_true, not_true_eq_false, false_implies, implies_true, true_implies, Nat.zero_lt_succ, Nat.lt_add_one, H0]
      refine PM_use (c_M_pastMany H2 d) ?_
      rintro v g l ⟨rfl, rfl⟩
      show W_X12_nextAsk _ _ _ _ _ _ _ _ _
      simp only [w_X12_nextAsk_9, w_X12_nextAsk_29, w_X12_nextAsk_31, pm_1i_c, pm_2i_c, pm_1l_c, pm_2l_c, pm_1a_c, pm_ia_c, pm_iia_c, pm_va_c, pm_cp_c, pm_k0_c, pm_k1_c, pm_k2_c, pm_k3_c, pm_s1_c, pm_s2_c, pm_s3_c, pm_s4_c, pm_ri_c, pm_ra_c, pm_rn_c, pm_rk_i, pm_rk_z, pm_rk_a, pm_vk_i, pm_vk_z, pm_vk_a, pm_cti, pm_ctr, pm_ldi_z, pm_ldi_s, pm_lda_z, pm_lda_s, pm_cat_n, pm_cat_i, pm_cat_r, pm_cat_l, pm_obj, pm_arr, pm_opt, pm_ird, pm_aln, List.getElem?_cons_zero, List.getElem?_cons_succ, List.set_cons_zero, List.set_cons_succ, List.length_cons, List.length_nil, List.length_set, true_and, and_true, Nat.add_zero, Nat.zero_add, Nat.le_refl, Nat.reduceAdd, Nat.reduceLT, Nat.reduceLeDiff, Nat.zero_le, not_false_eq_true, not_true_eq_false, false_implies, implies_true, true_implies, Nat.zero_lt_succ, Nat.lt_add_one, pm_tl_n, pm_tl_s, sc_uL, e1]
      rw [← e, ndN_e _ _ (Nat.le_refl _)]
      rfl
    | succ z ih =>
      intro j hz hj e
      have hj2 : j < (li A 5).length := by omega
      have e1 : nI j < nI (li A 5).length := nI_lt hj2 (by omega)
      rw [ndN_s _ _ hj2] at e
      rw [w_X12_nextAsk_4]
      simp only [w_X12_nextAsk_5, w_X12_nextAsk_6, pm_1i_c, pm_2i_c, pm_1l_c, pm_2l_c, pm_1a_c, pm_ia_c, pm_iia_c, pm_va_c, pm_cp_c, pm_k0_c, pm_k1_c, pm_k2_c, pm_k3_c, pm_s1_c, pm_s2_c, pm_s3_c, pm_s4_c, pm_ri_c, pm_ra_c, pm_rn_c, pm_rk_i, pm_rk_z, pm_rk_a, pm_vk_i, pm_vk_z, pm_vk_a, pm_cti, pm_ctr, pm_ldi_z, pm_ldi_s, pm_lda_z, pm_lda_s, pm_cat_n, pm_cat_i, pm_cat_r, pm_cat_l, pm_obj, pm_arr, pm_opt, pm_ird, pm_aln, List.getElem?_cons_zero, List.getElem?_cons_succ, List.set_cons_zero, List.set_cons_succ, List.length_cons, List.length_nil, List.length_set, true_and, and_true, Nat.add_zero, Nat.zero_add, Nat.le_refl, Nat.reduceAdd, Nat.reduceLT, Nat.reduceLeDiff, Nat.zero_le, not_false_eq_true, not_true_eq_false, false_implies, implies_true, true_implies, Nat.zero_lt_succ, Nat.lt_add_one, H0]
      refine PM_use (c_M_pastMany H2 d) ?_
      rintro v g l ⟨rfl, rfl⟩
      show W_X12_nextAsk _ _ _ _ _ _ _ _ _
      simp only [w_X12_nextAsk_9, w_X12_nextAsk_12, w_X12_nextAsk_13, w_X12_nextAsk_14, pm_1i_c, pm_2i_c, pm_1l_c, pm_2l_c, pm_1a_c, pm_ia_c, pm_iia_c, pm_va_c, pm_cp_c, pm_k0_c, pm_k1_c, pm_k2_c, pm_k3_c, pm_s1_c, pm_s2_c, pm_s3_c, pm_s4_c, pm_ri_c, pm_ra_c, pm_rn_c, pm_rk_i, pm_rk_z, pm_rk_a, pm_vk_i, pm_vk_z, pm_vk_a, pm_cti, pm_ctr, pm_ldi_z, pm_ldi_s, pm_lda_z, pm_lda_s, pm_cat_n, pm_cat_i, pm_cat_r, pm_cat_l, pm_obj, pm_arr, pm_opt, pm_ird, pm_aln, List.getElem?_cons_zero, List.getElem?_cons_succ, List.set_cons_zero, List.set_cons_succ, List.length_cons, List.length_nil, List.length_set, true_and, and_true, Nat.add_zero, Nat.zero_add, Nat.le_refl, Nat.reduceAdd, Nat.reduceLT, Nat.reduceLeDiff, Nat.zero_le, not_false_eq_true, not_true_eq_false, false_implies, implies_true, true_implies, Nat.zero_lt_succ, Nat.lt_add_one, pm_tl_n, pm_tl_s, sc_uL, e1, H0]
      refine PM_use (c_M_pastAt H2 hj2 d) ?_
      rintro v g l ⟨rfl, rfl⟩
      by_cases c : (li A 5).getD j (-1) = y
      · rw [if_pos c] at e
        show W_X12_nextAsk _ _ _ _ _ _ _ _ _
        simp only [w_X12_nextAsk_17, w_X12_nextAsk_18, w_X12_nextAsk_21, w_X12_nextAsk_22, pm_1i_c, pm_2i_c, pm_1l_c, pm_2l_c, pm_1a_c, pm_ia_c, pm_iia_c, pm_va_c, pm_cp_c, pm_k0_c, pm_k1_c, pm_k2_c, pm_k3_c, pm_s1_c, pm_s2_c, pm_s3_c, pm_s4_c, pm_ri_c, pm_ra_c, pm_rn_c, pm_rk_i, pm_rk_z, pm_rk_a, pm_vk_i, pm_vk_z, pm_vk_a, pm_cti, pm_ctr, pm_ldi_z, pm_ldi_s, pm_lda_z, pm_lda_s, pm_cat_n, pm_cat_i, pm_cat_r, pm_cat_l, pm_obj, pm_arr, pm_opt, pm_ird, pm_aln, List.getElem?_cons_zero, List.getElem?_cons_succ, List.set_cons_zero, List.set_cons_succ, List.length_cons, List.length_nil, List.length_set, true_and, and_true, Nat.add_zero, Nat.zero_add, Nat.le_refl, Nat.reduceAdd, Nat.reduceLT, Nat.reduceLeDiff, Nat.zero_le, not_false_eq_true, not_true_eq_false, false_implies, implies_true, true_implies, Nat.zero_lt_succ, Nat.lt_add_one, pm_tl_n, pm_tl_s, sc_uL, c]
        rw [← e]
      · rw [if_neg c] at e
        show W_X12_nextAsk _ _ _ _ _ _ _ _ _
        simp only [w_X12_nextAsk_17, w_X12_nextAsk_18, w_X12_nextAsk_21, w_X12_nextAsk_22, w_X12_nextAsk_23, w_X12_nextAsk_26, pm_1i_c, pm_2i_c, pm_1l_c, pm_2l_c, pm_1a_c, pm_ia_c, pm_iia_c, pm_va_c, pm_cp_c, pm_k0_c, pm_k1_c, pm_k2_c, pm_k3_c, pm_s1_c, pm_s2_c, pm_s3_c, pm_s4_c, pm_ri_c, pm_ra_c, pm_rn_c, pm_rk_i, pm_rk_z, pm_rk_a, pm_vk_i, pm_vk_z, pm_vk_a, pm_cti, pm_ctr, pm_ldi_z, pm_ldi_s, pm_lda_z, pm_lda_s, pm_cat_n, pm_cat_i, pm_cat_r, pm_cat_l, pm_obj, pm_arr, pm_opt, pm_ird, pm_aln, List.getElem?_cons_zero, List.getElem?_cons_succ, List.set_cons_zero, List.set_cons_succ, List.length_cons, List.length_nil, List.length_set, true_and, and_true, Nat.add_zero, Nat.zero_add, Nat.le_refl, Nat.reduceAdd, Nat.reduceLT, Nat.reduceLeDiff, Nat.zero_le, not_false_eq_true, not_true_eq_false, false_implies, implies_true, true_implies, Nat.zero_lt_succ, Nat.lt_add_one, pm_tl_n, pm_tl_s, sc_uL, c, nI_1]
        exact ih (j + 1) (by omega) (by omega) e
  simp only [w_X12_nextAsk_0, w_X12_nextAsk_1, w_X12_nextAsk_2, w_X12_nextAsk_3, pm_1i_c, pm_2i_c, pm_1l_c, pm_2l_c, pm_1a_c, pm_ia_c, pm_iia_c, pm_va_c, pm_cp_c, pm_k0_c, pm_k1_c, pm_k2_c, pm_k3_c, pm_s1_c, pm_s2_c, pm_s3_c, pm_s4_c, pm_ri_c, pm_ra_c, pm_rn_c, pm_rk_i, pm_rk_z, pm_rk_a, pm_vk_i, pm_vk_z, pm_vk_a, pm_cti, pm_ctr, pm_ldi_z, pm_ldi_s, pm_lda_z, pm_lda_s, pm_cat_n, pm_cat_i, pm_cat_r, pm_cat_l, pm_obj, pm_arr, pm_opt, pm_ird, pm_aln, List.getElem?_cons_zero, List.getElem?_cons_succ, List.set_cons_zero, List.set_cons_succ, List.length_cons, List.length_nil, List.length_set, true_and, and_true, Nat.add_zero, Nat.zero_add, Nat.le_refl, Nat.reduceAdd, Nat.reduceLT, Nat.reduceLeDiff, Nat.zero_le, not_false_eq_true, not_true_eq_false, false_implies, implies_true, true_implies, Nat.zero_lt_succ, Nat.lt_add_one, nI_1]
  exact loop _ (k + 1) rfl (by omega) rfl
/-- the one that goes: latest, of several the greatest -/
abbrev btr (f : Int32 → Int32) (x y : Int32) : Prop := f y < f x ∨ f x = f y ∧ y < x
theorem btr_i {f : Int32 → Int32} {x y : Int32} : btr f x y ↔ ((f y).toInt < (f x).toInt ∨ (f x).toInt = (f y).toInt ∧ y.toInt < x.toInt) := by
  unfold btr
  rw [Int32.lt_iff_toInt_lt, Int32.lt_iff_toInt_lt, ← Int32.toInt_inj]
theorem getD_map {f : Int32 → Int32} {l : List Int32} {j : Nat} (hj : j < l.length) : (l.map f).getD j (-1) = f (l.getD j (-1)) := by
  rw [List.getD_eq_getElem?_getD, List.getD_eq_getElem?_getD, List.getElem?_map, List.getElem?_eq_getElem hj]
  rfl
theorem laS_max (f : Int32 → Int32) (l : List Int32) : ∀ n, n < l.length → laS l (l.map f) n ≤ n ∧ ∀ j, j ≤ n → ¬ btr f (l.getD j (-1)) (l.getD (laS l (l.map f) n) (-1))
  | 0, hn => ⟨Nat.le_refl _, fun j hj z => by
      have : j = 0 := by omega
      subst this
      have e : laS l (l.map f) 0 = 0 := rfl
      rw [e] at z
      have := btr_i.mp z
      omega⟩
  | n + 1, hn => by
    obtain ⟨i1, i2⟩ := laS_max f l n (by omega)
    have e : laS l (l.map f) (n + 1) = if btr f (l.getD (n + 1) (-1)) (l.getD (laS l (l.map f) n) (-1)) then n + 1 else laS l (l.map f) n := by
      rw [laS_s, getD_map (by omega), getD_map hn]
    rw [e]
    by_cases c : btr f (l.getD (n + 1) (-1)) (l.getD (laS l (l.map f) n) (-1))
    · rw [if_pos c]
      refine ⟨Nat.le_refl _, fun j hj z => ?_⟩
      have z' := btr_i.mp z
      have c' := btr_i.mp c
      by_cases hj2 : j = n + 1
      · rw [hj2] at z'
        omega
      · have q := i2 j (by omega)
        rw [btr_i] at q
        omega
    · rw [if_neg c]
      refine ⟨by omega, fun j hj => ?_⟩
      by_cases hj2 : j = n + 1
      · rw [hj2]
        exact c
      · exact i2 j (by omega)
theorem getD_mem {l : List Int32} {j : Nat} (hj : j < l.length) : l.getD j (-1) ∈ l := by
  rw [List.getD_eq_getElem?_getD, List.getElem?_eq_getElem hj]
  exact List.getElem_mem hj
theorem mem_getD {l : List Int32} {x : Int32} (hx : x ∈ l) : ∃ j, j < l.length ∧ l.getD j (-1) = x := by
  obtain ⟨j, hj, e⟩ := List.getElem_of_mem hx
  exact ⟨j, hj, by rw [List.getD_eq_getElem?_getD, List.getElem?_eq_getElem hj]; exact e⟩
theorem lat_same (f : Int32 → Int32) {T R : List Int32} (hp : ∀ z, R.count z = T.count z) (h0 : 0 < T.length) (h1 : 0 < R.length) : T.getD (laS T (T.map f) (T.length - 1)) (-1) = R.getD (laS R (R.map f) (R.length - 1)) (-1) := by
  obtain ⟨t1, t2⟩ := laS_max f T (T.length - 1) (by omega)
  obtain ⟨r1, r2⟩ := laS_max f R (R.length - 1) (by omega)
  have mt := getD_mem (l := T) (j := laS T (T.map f) (T.length - 1)) (by omega)
  have mr := getD_mem (l := R) (j := laS R (R.map f) (R.length - 1)) (by omega)
  have mt' : T.getD (laS T (T.map f) (T.length - 1)) (-1) ∈ R := by
    rw [mem_ct, hp, ← mem_ct]
    exact mt
  have mr' : R.getD (laS R (R.map f) (R.length - 1)) (-1) ∈ T := by
    rw [mem_ct, ← hp, ← mem_ct]
    exact mr
  obtain ⟨j, j1, j2⟩ := mem_getD mt'
  obtain ⟨i, i1, i2⟩ := mem_getD mr'
  have a := r2 j (by omega)
  have b := t2 i (by omega)
  rw [j2, btr_i] at a
  rw [i2, btr_i] at b
  refine Int32.toInt_inj.mp ?_
  omega
theorem ct_set {l : List Int32} {i : Nat} (hi : i < l.length) (v z : Int32) : (l.set i v).count z + ic (l.getD i (-1)) z = l.count z + ic v z := by
  have e : l.getD i (-1) = l[i] := by
    rw [List.getD_eq_getElem?_getD, List.getElem?_eq_getElem hi]
    rfl
  have s : l = l.take i ++ l[i] :: l.drop (i + 1) := by
    rw [List.getElem_cons_drop, List.take_append_drop]
  have c : l.count z = (l.take i ++ l[i] :: l.drop (i + 1)).count z := congrArg (fun w => List.count z w) s
  rw [c, List.set_eq_take_append_cons_drop, if_pos hi, List.count_append, List.count_append, ct_cons, ct_cons, e]
  omega
/-- what the class holds of the room's keys -/
theorem idS_inv (xs : List Int32) (hl : xs.length ≤ 100) {room : Nat} (hr : room ≤ 64) : ∀ k, k ≤ xs.length → (idS xs (nI room) k).2.1 = (idS xs (nI room) k).1.map (fun y => nI (ndN xs y k)) ∧ (∀ z, (idS xs (nI room) k).1.count z ≤ 1) ∧ (idS xs (nI room) k).1.length ≤ room ∧ (idS xs (nI room) k).2.2 ≤ k
  | 0, _ => ⟨rfl, fun z => Nat.zero_le _, Nat.zero_le _, Nat.le_refl _⟩
  | k + 1, hk => by
    obtain ⟨i1, i2, i3, i4⟩ := idS_inv xs hl hr k (by omega)
    have hk2 : k < xs.length := by omega
    rw [idS_s]
    obtain ⟨T, hT⟩ : ∃ T, T = (idS xs (nI room) k).1 := ⟨_, rfl⟩
    obtain ⟨x, hx⟩ : ∃ x, x = xs.getD k (-1) := ⟨_, rfl⟩
    rw [← hT] at i1 i2 i3
    rw [← hT, ← hx, i1]
    have nx : nxA xs k = ndN xs x (k + 1) := by
      rw [hx]
      rfl
    rw [nx]
    have ne : ∀ y, y ≠ x → ndN xs y k = ndN xs y (k + 1) := fun y hy => by
      rw [ndN_s xs y hk2, ← hx, if_neg (Ne.symm hy)]
    -- ahead of the going
    have mid : (idM T (T.map fun y => nI (ndN xs y k)) (idS xs (nI room) k).2.2 x (nI (ndN xs x (k + 1)))).2.1 = (idM T (T.map fun y => nI (ndN xs y k)) (idS xs (nI room) k).2.2 x (nI (ndN xs x (k + 1)))).1.map (fun y => nI (ndN xs y (k + 1))) ∧ (∀ z, (idM T (T.map fun y => nI (ndN xs y k)) (idS xs (nI room) k).2.2 x (nI (ndN xs x (k + 1)))).1.count z ≤ 1) ∧ (idM T (T.map fun y => nI (ndN xs y k)) (idS xs (nI room) k).2.2 x (nI (ndN xs x (k + 1)))).2.2 ≤ k + 1 ∧ (idM T (T.map fun y => nI (ndN xs y k)) (idS xs (nI room) k).2.2 x (nI (ndN xs x (k + 1)))).1.length ≤ room + 1 := by
      unfold idM
      by_cases c : x ∈ T
      · rw [if_pos c]
        have il := (ix_lt T x).mpr c
        refine ⟨?_, i2, by show _ + 1 ≤ _; omega, by show T.length ≤ _; omega⟩
        show (T.map fun y => nI (ndN xs y k)).set (T.idxOf x) (nI (ndN xs x (k + 1))) = T.map fun y => nI (ndN xs y (k + 1))
        refine List.ext_getElem? fun i => ?_
        rw [List.getElem?_set, List.getElem?_map, List.getElem?_map, List.length_map]
        have ex : T[T.idxOf x]'il = x := List.getElem_idxOf il
        by_cases ci : T.idxOf x = i
        · rw [if_pos ci, if_pos il, ← ci, List.getElem?_eq_getElem il, Option.map_some, ex]
        · rw [if_neg ci]
          cases hi : T[i]? with
          | none => rfl
          | some y =>
            rw [Option.map_some, Option.map_some]
            have hne : y ≠ x := fun e => by
              have hi2 : i < T.length := by
                rcases Nat.lt_or_ge i T.length with z | z
                · exact z
                · rw [List.getElem?_eq_none z] at hi
                  cases hi
              have c1 := ct_ix hi2 x
              have gi : T.getD i (-1) = x := by rw [List.getD_eq_getElem?_getD, hi, e]; rfl
              have cx := i2 x
              rw [gi] at c1
              have ii : ic x x = 1 := if_pos rfl
              have me : x ∈ T.eraseIdx i := by
                rw [List.mem_iff_getElem?]
                rcases Nat.lt_or_ge (T.idxOf x) i with z | z
                · exact ⟨T.idxOf x, by rw [List.getElem?_eraseIdx, if_pos z, List.getElem?_eq_getElem il, ex]⟩
                · refine ⟨T.idxOf x - 1, ?_⟩
                  rw [List.getElem?_eraseIdx, if_neg (by omega), show T.idxOf x - 1 + 1 = T.idxOf x by omega, List.getElem?_eq_getElem il, ex]
              have := mem_ct.mp me
              omega
            rw [ne y hne]
      · rw [if_neg c]
        refine ⟨?_, fun z => ?_, by show (idS xs (nI room) k).2.2 ≤ k + 1; omega, by show (T ++ [x]).length ≤ _; rw [List.length_append, List.length_singleton]; omega⟩
        · show (T.map fun y => nI (ndN xs y k)) ++ [nI (ndN xs x (k + 1))] = (T ++ [x]).map fun y => nI (ndN xs y (k + 1))
          rw [List.map_append]
          congr 1
          exact List.map_congr_left fun y hy => by rw [ne y (fun e => c (e ▸ hy))]
        · show (T ++ [x]).count z ≤ 1
          have c1 := ct_cons x z []
          rw [List.count_append, c1, List.count_nil]
          by_cases e : x = z
          · rw [← e, List.count_eq_zero_of_not_mem c]
            unfold ic
            split <;> omega
          · have := i2 z
            have : ic x z = 0 := if_neg e
            omega
    generalize idM T (T.map fun y => nI (ndN xs y k)) (idS xs (nI room) k).2.2 x (nI (ndN xs x (k + 1))) = t at mid ⊢
    obtain ⟨m1, m2, m3, m4⟩ := mid
    unfold idC
    by_cases c : nI room < nI t.1.length
    · rw [if_pos c]
      have c' : room < t.1.length := (nI_ltI (by omega) (by omega)).mp c
      have ll : latF t.1 t.2.1 < t.1.length := by
        unfold latF
        rw [m1, List.length_map]
        have := (laS_max (fun y => nI (ndN xs y (k + 1))) t.1 (t.1.length - 1) (by omega)).1
        omega
      refine ⟨?_, fun z => ?_, ?_, m3⟩
      · show t.2.1.eraseIdx (latF t.1 t.2.1) = (t.1.eraseIdx (latF t.1 t.2.1)).map _
        generalize latF t.1 t.2.1 = q
        rw [m1]
        refine List.ext_getElem? fun i => ?_
        rw [List.getElem?_eraseIdx, List.getElem?_map, List.getElem?_map, List.getElem?_map, List.getElem?_eraseIdx]
        split <;> rfl
      · have := ct_ix ll z
        have := m2 z
        show (t.1.eraseIdx _).count z ≤ 1
        omega
      · show (t.1.eraseIdx _).length ≤ room
        rw [List.length_eraseIdx_of_lt ll]
        omega
    · rw [if_neg c]
      have c' : ¬ room < t.1.length := fun z => c (nI_lt z (by omega))
      exact ⟨m1, m2, by omega, m3⟩
set_option maxHeartbeats 1000000 in
theorem c_P_ideal (C : mm_ h m o A K bs ws) (l5 : (li A 5).length ≤ 100) (x : Int32) (d : Nat) : PM (d + 3) 236 [.ref m, .int x] h (rq_ h m A K bs ws (o 0) (o 7) (rmB x) (nI (idS (li A 5) x (li A 5).length).2.2)) := by
  have H0 := C.ob
  unfold mO at H0
  obtain ⟨h1, e1, l1, F1, C1, H1⟩ := C.th 0
  have ed : inB x 1 64 = rmB x := rfl
  refine en_X12_ideal rfl rfl ?_
  simp only [w_X12_ideal_0, w_X12_ideal_1, w_X12_ideal_2, w_X12_ideal_5, w_X12_ideal_6, w_X12_ideal_7, w_X12_ideal_8, w_X12_ideal_10, pm_1i_c, pm_2i_c, pm_1l_c, pm_2l_c, pm_1a_c, pm_ia_c, pm_iia_c, pm_va_c, pm_cp_c, pm_k0_c, pm_k1_c, pm_k2_c, pm_k3_c, pm_s1_c, pm_s2_c, pm_s3_c, pm_s4_c, pm_ri_c, pm_ra_c, pm_rn_c, pm_rk_i, pm_rk_z, pm_rk_a, pm_vk_i, pm_vk_z, pm_vk_a, pm_cti, pm_ctr, pm_ldi_z, pm_ldi_s, pm_lda_z, pm_lda_s, pm_cat_n, pm_cat_i, pm_cat_r, pm_cat_l, pm_obj, pm_arr, pm_opt, pm_ird, pm_aln, List.getElem?_cons_zero, List.getElem?_cons_succ, List.set_cons_zero, List.set_cons_succ, List.length_cons, List.length_nil, List.length_set, true_and, and_true, Nat.add_zero, Nat.zero_add, Nat.le_refl, Nat.reduceAdd, Nat.reduceLT, Nat.reduceLeDiff, Nat.zero_le, not_false_eq_true, not_true_eq_false, false_implies, implies_true, true_implies, Nat.zero_lt_succ, Nat.lt_add_one, H0, e1, H1, l1]
  refine PM_use (c_M_in x 1 64 (d + 1)) ?_
  rintro v g1 k1 ⟨rfl, rfl⟩
  rw [ed]
  cases hx : rmB x with
  | false =>
    show W_X12_ideal _ _ _ _ _ _ _ _ _
    simp only [w_X12_ideal_13, w_X12_ideal_16, w_X12_ideal_17, w_X12_ideal_20, w_X12_ideal_21, w_X12_ideal_22, pm_1i_c, pm_2i_c, pm_1l_c, pm_2l_c, pm_1a_c, pm_ia_c, pm_iia_c, pm_va_c, pm_cp_c, pm_k0_c, pm_k1_c, pm_k2_c, pm_k3_c, pm_s1_c, pm_s2_c, pm_s3_c, pm_s4_c, pm_ri_c, pm_ra_c, pm_rn_c, pm_rk_i, pm_rk_z, pm_rk_a, pm_vk_i, pm_vk_z, pm_vk_a, pm_cti, pm_ctr, pm_ldi_z, pm_ldi_s, pm_lda_z, pm_lda_s, pm_cat_n, pm_cat_i, pm_cat_r, pm_cat_l, pm_obj, pm_arr, pm_opt, pm_ird, pm_aln, List.getElem?_cons_zero, List.getElem?_cons_succ, List.set_cons_zero, List.set_cons_succ, List.length_cons, List.length_nil, List.length_set, true_and, and_true, Nat.add_zero, Nat.zero_add, Nat.le_refl, Nat.reduceAdd, Nat.reduceLT, Nat.reduceLeDiff, Nat.zero_le, not_false_eq_true, not_true_eq_false, false_implies, implies_true, true_implies, Nat.zero_lt_succ, Nat.lt_add_one, pm_tl_n, pm_tl_s, sc_uL, Bool.false_eq_true, if_false, H1, l1]
    refine PM_use (c_P_throwsIf1 C1 1 (d + 1)) ?_
    rintro v g1 k1 ⟨rfl, K1, K2⟩
    show W_X12_ideal _ _ _ _ _ _ _ _ _
    simp only [w_X12_ideal_25, w_X12_ideal_28, w_X12_ideal_29, pm_1i_c, pm_2i_c, pm_1l_c, pm_2l_c, pm_1a_c, pm_ia_c, pm_iia_c, pm_va_c, pm_cp_c, pm_k0_c, pm_k1_c, pm_k2_c, pm_k3_c, pm_s1_c, pm_s2_c, pm_s3_c, pm_s4_c, pm_ri_c, pm_ra_c, pm_rn_c, pm_rk_i, pm_rk_z, pm_rk_a, pm_vk_i, pm_vk_z, pm_vk_a, pm_cti, pm_ctr, pm_ldi_z, pm_ldi_s, pm_lda_z, pm_lda_s, pm_cat_n, pm_cat_i, pm_cat_r, pm_cat_l, pm_obj, pm_arr, pm_opt, pm_ird, pm_aln, List.getElem?_cons_zero, List.getElem?_cons_succ, List.set_cons_zero, List.set_cons_succ, List.length_cons, List.length_nil, List.length_set, true_and, and_true, Nat.add_zero, Nat.zero_add, Nat.le_refl, Nat.reduceAdd, Nat.reduceLT, Nat.reduceLeDiff, Nat.zero_le, not_false_eq_true, not_true_eq_false, false_implies, implies_true, true_implies, Nat.zero_lt_succ, Nat.lt_add_one, pm_tl_n, pm_tl_s, sc_uL, one0, l1, k1]
    rw [upd_upd] at K1
    exact rq_F (K1.q (F1.tr K2))
  | true =>
    obtain ⟨r, r1, r2, rfl⟩ := rmB_of hx
    show W_X12_ideal _ _ _ _ _ _ _ _ _
    simp only [w_X12_ideal_13, w_X12_ideal_20, w_X12_ideal_21, w_X12_ideal_22, pm_1i_c, pm_2i_c, pm_1l_c, pm_2l_c, pm_1a_c, pm_ia_c, pm_iia_c, pm_va_c, pm_cp_c, pm_k0_c, pm_k1_c, pm_k2_c, pm_k3_c, pm_s1_c, pm_s2_c, pm_s3_c, pm_s4_c, pm_ri_c, pm_ra_c, pm_rn_c, pm_rk_i, pm_rk_z, pm_rk_a, pm_vk_i, pm_vk_z, pm_vk_a, pm_cti, pm_ctr, pm_ldi_z, pm_ldi_s, pm_lda_z, pm_lda_s, pm_cat_n, pm_cat_i, pm_cat_r, pm_cat_l, pm_obj, pm_arr, pm_opt, pm_ird, pm_aln, List.getElem?_cons_zero, List.getElem?_cons_succ, List.set_cons_zero, List.set_cons_succ, List.length_cons, List.length_nil, List.length_set, true_and, and_true, Nat.add_zero, Nat.zero_add, Nat.le_refl, Nat.reduceAdd, Nat.reduceLT, Nat.reduceLeDiff, Nat.zero_le, not_false_eq_true, not_true_eq_false, false_implies, implies_true, true_implies, Nat.zero_lt_succ, Nat.lt_add_one, pm_tl_n, pm_tl_s, sc_uL, if_true, one0, H1, l1]
    refine PM_use (c_P_throwsIf0 C1 1 (d + 1)) ?_
    rintro v g1 k1 ⟨rfl, rfl⟩
    show W_X12_ideal _ _ _ _ _ _ _ _ _
    simp only [w_X12_ideal_25, w_X12_ideal_30, w_X12_ideal_31, w_X12_ideal_32, w_X12_ideal_33, w_X12_ideal_34, w_X12_ideal_35, pm_1i_c, pm_2i_c, pm_1l_c, pm_2l_c, pm_1a_c, pm_ia_c, pm_iia_c, pm_va_c, pm_cp_c, pm_k0_c, pm_k1_c, pm_k2_c, pm_k3_c, pm_s1_c, pm_s2_c, pm_s3_c, pm_s4_c, pm_ri_c, pm_ra_c, pm_rn_c, pm_rk_i, pm_rk_z, pm_rk_a, pm_vk_i, pm_vk_z, pm_vk_a, pm_cti, pm_ctr, pm_ldi_z, pm_ldi_s, pm_lda_z, pm_lda_s, pm_cat_n, pm_cat_i, pm_cat_r, pm_cat_l, pm_obj, pm_arr, pm_opt, pm_ird, pm_aln, List.getElem?_cons_zero, List.getElem?_cons_succ, List.set_cons_zero, List.set_cons_succ, List.length_cons, List.length_nil, List.length_set, true_and, and_true, Nat.add_zero, Nat.zero_add, Nat.le_refl, Nat.reduceAdd, Nat.reduceLT, Nat.reduceLeDiff, Nat.zero_le, not_false_eq_true, not_true_eq_false, false_implies, implies_true, true_implies, Nat.zero_lt_succ, Nat.lt_add_one, pm_tl_n, pm_tl_s, sc_uL]
    obtain ⟨xs, hxs⟩ : ∃ xs, xs = li A 5 := ⟨_, rfl⟩
    have inv := idS_inv xs (by rw [hxs]; exact l5) r2
    rw [← hxs] at l5 ⊢
    have pastN : ∀ (g : pmH), mm_ g m (upd o 1 0) A K bs ws → PM (d + 2) 228 [.ref m] g (fun v h' => v = some (.int (nI xs.length)) ∧ h' = g) := fun g M => by
      rw [hxs]
      exact c_M_pastMany M.md (d + 1)
    have pastA : ∀ (g : pmH), mm_ g m (upd o 1 0) A K bs ws → ∀ k, k < xs.length → PM (d + 2) 229 [.ref m, .int (nI k)] g (fun v h' => v = some (.int (xs.getD k (-1))) ∧ h' = g) := fun g M k hk => by
      rw [hxs] at hk ⊢
      exact c_M_pastAt M.md hk (d + 1)
    have pastX : ∀ (g : pmH), mm_ g m (upd o 1 0) A K bs ws → ∀ k y, k < xs.length → PM (d + 2) 235 [.ref m, .int y, .int (nI k)] g (fun v h' => v = some (.int (nI (ndN xs y (k + 1)))) ∧ h' = g) := fun g M k y hk => by
      rw [hxs] at hk ⊢
      exact c_M_nextAsk M.md y hk d
    have cells : ∀ (g : pmH), mm_ g m (upd o 1 0) A K bs ws → g[m]? = some (.inr (12, [.ref (m + 1), .ref (m + 2), .ref (m + 3), .int (o 0), .int 0, .ref (m + 4), .int (o 2), .ref (m + 5), .int (o 3), .int (o 4), .int (o 5), .int (o 6), .int (o 7), .int (o 8), .int (o 9), .int (o 10), .ref (m + 6), .ref (m + 7), .ref (m + 8), .int (o 11), .ref (m + 9), .ref (m + 10), .int (o 12)])) := fun g M => M.1
    have loop : ∀ z k, xs.length - k = z → k ≤ xs.length → ∀ (g : pmH) (gf : Nat → Int32) (R : List Int32) (x5 x6 x7 x8 x9 : Option Value), mm_ g m (upd o 1 0) A K bs ws → frM h g m → g[m + 9]? = some (.inl (0, 66, .inl gf)) → (∀ j, j < R.length → gf j = R.getD j (-1)) → (∀ z, R.count z = (idS xs (nI r) k).1.count z) → g.length = h.length → W_X12_ideal (d + 2) h.length 0 (rq_ h m A K bs ws (o 0) (o 7) true (nI (idS xs (nI r) xs.length).2.2)) 37 [some (.ref m), some (.int (nI r)), some (.int (nI R.length)), some (.int (nI (idS xs (nI r) k).2.2)), some (.int (nI k)), x5, x6, x7, x8, x9] [] g 0 := by
      intro z
      induction z with
      | zero =>
        intro k hz hk g gf R x5 x6 x7 x8 x9 M F q1 q2 q3 q4
        have : k = xs.length := by omega
        subst this
        rw [w_X12_ideal_37]
        simp only [w_X12_ideal_39, w_X12_ideal_40, pm_1i_c, pm_2i_c, pm_1l_c, pm_2l_c, pm_1a_c, pm_ia_c, pm_iia_c, pm_va_c, pm_cp_c, pm_k0_c, pm_k1_c, pm_k2_c, pm_k3_c, pm_s1_c, pm_s2_c, pm_s3_c, pm_s4_c, pm_ri_c, pm_ra_c, pm_rn_c, pm_rk_i, pm_rk_z, pm_rk_a, pm_vk_i, pm_vk_z, pm_vk_a, pm_cti, pm_ctr, pm_ldi_z, pm_ldi_s, pm_lda_z, pm_lda_s, pm_cat_n, pm_cat_i, pm_cat_r, pm_cat_l, pm_obj, pm_arr, pm_opt, pm_ird, pm_aln, List.getElem?_cons_zero, List.getElem?_cons_succ, List.set_cons_zero, List.set_cons_succ, List.length_cons, List.length_nil, List.length_set, true_and, and_true, Nat.add_zero, Nat.zero_add, Nat.le_refl, Nat.reduceAdd, Nat.reduceLT, Nat.reduceLeDiff, Nat.zero_le, not_false_eq_true, not_true_eq_false, false_implies, implies_true, true_implies, Nat.zero_lt_succ, Nat.lt_add_one, cells g M, q4]
        refine PM_use (pastN g M) ?_
        rintro v g2 k2 ⟨rfl, rfl⟩
        show W_X12_ideal _ _ _ _ _ _ _ _ _
        simp only [w_X12_ideal_43, w_X12_ideal_217, w_X12_ideal_218, pm_1i_c, pm_2i_c, pm_1l_c, pm_2l_c, pm_1a_c, pm_ia_c, pm_iia_c, pm_va_c, pm_cp_c, pm_k0_c, pm_k1_c, pm_k2_c, pm_k3_c, pm_s1_c, pm_s2_c, pm_s3_c, pm_s4_c, pm_ri_c, pm_ra_c, pm_rn_c, pm_rk_i, pm_rk_z, pm_rk_a, pm_vk_i, pm_vk_z, pm_vk_a, pm_cti, pm_ctr, pm_ldi_z, pm_ldi_s, pm_lda_z, pm_lda_s, pm_cat_n, pm_cat_i, pm_cat_r, pm_cat_l, pm_obj, pm_arr, pm_opt, pm_ird, pm_aln, List.getElem?_cons_zero, List.getElem?_cons_succ, List.set_cons_zero, List.set_cons_succ, List.length_cons, List.length_nil, List.length_set, true_and, and_true, Nat.add_zero, Nat.zero_add, Nat.le_refl, Nat.reduceAdd, Nat.reduceLT, Nat.reduceLeDiff, Nat.zero_le, not_false_eq_true, not_true_eq_false, false_implies, implies_true, true_implies, Nat.zero_lt_succ, Nat.lt_add_one, pm_tl_n, pm_tl_s, sc_uL, show ¬ nI xs.length < nI xs.length from nI_nlt (Nat.le_refl _) (by omega), q4]
        exact rq_T (M.q F)
      | succ z ih =>
        intro k hz hk g gf R x5 x6 x7 x8 x9 M F q1 q2 q3 q4
        have hk2 : k < xs.length := by omega
        obtain ⟨i1, i2, i3, i4⟩ := inv k (by omega)
        obtain ⟨y, hy⟩ : ∃ y, y = xs.getD k (-1) := ⟨_, rfl⟩
        have pr : R.Perm (idS xs (nI r) k).1 := List.perm_iff_count.mpr q3
        have lR : R.length ≤ r := by rw [pr.length_eq]; exact i3
        have N := ih (k + 1) (by omega) (by omega)
        have es := idS_s xs (nI r) k
        rw [← hy] at es
        have H2 := cells g M
        have il := ix_le R y
        have mR : y ∈ R ↔ y ∈ (idS xs (nI r) k).1 := pr.mem_iff
        have seek : ∀ w j, R.length - j = w → j ≤ R.idxOf y → (∀ x5, x5 = some (.int (nI (R.idxOf y))) → W_X12_ideal (d + 2) h.length 0 (rq_ h m A K bs ws (o 0) (o 7) true (nI (idS xs (nI r) xs.length).2.2)) 77 [some (.ref m), some (.int (nI r)), some (.int (nI R.length)), some (.int (nI (idS xs (nI r) k).2.2)), some (.int (nI k)), x5, x6, x7, x8, x9] [] g 0) → W_X12_ideal (d + 2) h.length 0 (rq_ h m A K bs ws (o 0) (o 7) true (nI (idS xs (nI r) xs.length).2.2)) 49 [some (.ref m), some (.int (nI r)), some (.int (nI R.length)), some (.int (nI (idS xs (nI r) k).2.2)), some (.int (nI k)), some (.int (nI j)), x6, x7, x8, x9] [] g 0 := by
          intro w
          induction w with
          | zero =>
            intro j hw hj kont
            have : j = R.length := by omega
            subst this
            have ej : R.idxOf y = R.length := by omega
            have K1 := kont _ rfl
            rw [ej] at K1
            rw [w_X12_ideal_49]
            simp only [w_X12_ideal_51, w_X12_ideal_52, pm_1i_c, pm_2i_c, pm_1l_c, pm_2l_c, pm_1a_c, pm_ia_c, pm_iia_c, pm_va_c, pm_cp_c, pm_k0_c, pm_k1_c, pm_k2_c, pm_k3_c, pm_s1_c, pm_s2_c, pm_s3_c, pm_s4_c, pm_ri_c, pm_ra_c, pm_rn_c, pm_rk_i, pm_rk_z, pm_rk_a, pm_vk_i, pm_vk_z, pm_vk_a, pm_cti, pm_ctr, pm_ldi_z, pm_ldi_s, pm_lda_z, pm_lda_s, pm_cat_n, pm_cat_i, pm_cat_r, pm_cat_l, pm_obj, pm_arr, pm_opt, pm_ird, pm_aln, List.getElem?_cons_zero, List.getElem?_cons_succ, List.set_cons_zero, List.set_cons_succ, List.length_cons, List.length_nil, List.length_set, true_and, and_true, Nat.add_zero, Nat.zero_add, Nat.le_refl, Nat.reduceAdd, Nat.reduceLT, Nat.reduceLeDiff, Nat.zero_le, not_false_eq_true, not_true_eq_false, false_implies, implies_true, true_implies, Nat.zero_lt_succ, Nat.lt_add_one, show ¬ nI R.length < nI R.length from nI_nlt (Nat.le_refl _) (by omega)]
            exact K1
          | succ w ihw =>
            intro j hw hj kont
            have hj2 : j < R.length := by omega
            have vj : vp_in (nI j) 66 := vp_in_nI (by omega) (by omega)
            have cj : (nI j).toNatClampNeg = j := nI_clamp (by omega)
            have gj := q2 j hj2
            rw [w_X12_ideal_49]
            simp only [w_X12_ideal_51, w_X12_ideal_52, w_X12_ideal_55, w_X12_ideal_56, w_X12_ideal_59, w_X12_ideal_61, w_X12_ideal_62, w_X12_ideal_63, w_X12_ideal_65, pm_1i_c, pm_2i_c, pm_1l_c, pm_2l_c, pm_1a_c, pm_ia_c, pm_iia_c, pm_va_c, pm_cp_c, pm_k0_c, pm_k1_c, pm_k2_c, pm_k3_c, pm_s1_c, pm_s2_c, pm_s3_c, pm_s4_c, pm_ri_c, pm_ra_c, pm_rn_c, pm_rk_i, pm_rk_z, pm_rk_a, pm_vk_i, pm_vk_z, pm_vk_a, pm_cti, pm_ctr, pm_ldi_z, pm_ldi_s, pm_lda_z, pm_lda_s, pm_cat_n, pm_cat_i, pm_cat_r, pm_cat_l, pm_obj, pm_arr, pm_opt, pm_ird, pm_aln, List.getElem?_cons_zero, List.getElem?_cons_succ, List.set_cons_zero, List.set_cons_succ, List.length_cons, List.length_nil, List.length_set, true_and, and_true, Nat.add_zero, Nat.zero_add, Nat.le_refl, Nat.reduceAdd, Nat.reduceLT, Nat.reduceLeDiff, Nat.zero_le, not_false_eq_true, not_true_eq_false, false_implies, implies_true, true_implies, Nat.zero_lt_succ, Nat.lt_add_one, show nI j < nI R.length from nI_lt hj2 (by omega), H2, q1, vj, cj, gj, q4]
            refine PM_use (pastA g M k hk2) ?_
            rintro v g3 k3 ⟨rfl, rfl⟩
            rw [← hy]
            by_cases c : R.getD j (-1) = y
            · have ej : R.idxOf y = j := by
                have hge : R[j]'hj2 = y := by
                  rw [List.getD_eq_getElem?_getD, List.getElem?_eq_getElem hj2] at c
                  exact c
                rcases Nat.lt_or_ge j (R.idxOf y) with q | q
                · exact absurd (List.not_of_lt_findIdx (p := (· == y)) q) (by simp [hge])
                · omega
              have K1 := kont _ rfl
              rw [ej] at K1
              show W_X12_ideal _ _ _ _ _ _ _ _ _
              simp only [w_X12_ideal_68, pm_1i_c, pm_2i_c, pm_1l_c, pm_2l_c, pm_1a_c, pm_ia_c, pm_iia_c, pm_va_c, pm_cp_c, pm_k0_c, pm_k1_c, pm_k2_c, pm_k3_c, pm_s1_c, pm_s2_c, pm_s3_c, pm_s4_c, pm_ri_c, pm_ra_c, pm_rn_c, pm_rk_i, pm_rk_z, pm_rk_a, pm_vk_i, pm_vk_z, pm_vk_a, pm_cti, pm_ctr, pm_ldi_z, pm_ldi_s, pm_lda_z, pm_lda_s, pm_cat_n, pm_cat_i, pm_cat_r, pm_cat_l, pm_obj, pm_arr, pm_opt, pm_ird, pm_aln, List.getElem?_cons_zero, List.getElem?_cons_succ, List.set_cons_zero, List.set_cons_succ, List.length_cons, List.length_nil, List.length_set, true_and, and_true, Nat.add_zero, Nat.zero_add, Nat.le_refl, Nat.reduceAdd, Nat.reduceLT, Nat.reduceLeDiff, Nat.zero_le, not_false_eq_true, not_true_eq_false, false_implies, implies_true, true_implies, Nat.zero_lt_succ, Nat.lt_add_one, pm_tl_n, pm_tl_s, sc_uL, c]
              exact K1
            · have ne : j ≠ R.idxOf y := fun e => by
                have il : R.idxOf y < R.length := by omega
                refine c ?_
                rw [e, List.getD_eq_getElem?_getD, List.getElem?_eq_getElem il]
                exact List.getElem_idxOf il
              show W_X12_ideal _ _ _ _ _ _ _ _ _
              simp only [w_X12_ideal_68, w_X12_ideal_71, w_X12_ideal_74, pm_1i_c, pm_2i_c, pm_1l_c, pm_2l_c, pm_1a_c, pm_ia_c, pm_iia_c, pm_va_c, pm_cp_c, pm_k0_c, pm_k1_c, pm_k2_c, pm_k3_c, pm_s1_c, pm_s2_c, pm_s3_c, pm_s4_c, pm_ri_c, pm_ra_c, pm_rn_c, pm_rk_i, pm_rk_z, pm_rk_a, pm_vk_i, pm_vk_z, pm_vk_a, pm_cti, pm_ctr, pm_ldi_z, pm_ldi_s, pm_lda_z, pm_lda_s, pm_cat_n, pm_cat_i, pm_cat_r, pm_cat_l, pm_obj, pm_arr, pm_opt, pm_ird, pm_aln, List.getElem?_cons_zero, List.getElem?_cons_succ, List.set_cons_zero, List.set_cons_succ, List.length_cons, List.length_nil, List.length_set, true_and, and_true, Nat.add_zero, Nat.zero_add, Nat.le_refl, Nat.reduceAdd, Nat.reduceLT, Nat.reduceLeDiff, Nat.zero_le, not_false_eq_true, not_true_eq_false, false_implies, implies_true, true_implies, Nat.zero_lt_succ, Nat.lt_add_one, pm_tl_n, pm_tl_s, sc_uL, c, nI_1]
              exact ihw (j + 1) (by omega) (by omega) kont
        rw [w_X12_ideal_37]
        simp only [w_X12_ideal_39, w_X12_ideal_40, pm_1i_c, pm_2i_c, pm_1l_c, pm_2l_c, pm_1a_c, pm_ia_c, pm_iia_c, pm_va_c, pm_cp_c, pm_k0_c, pm_k1_c, pm_k2_c, pm_k3_c, pm_s1_c, pm_s2_c, pm_s3_c, pm_s4_c, pm_ri_c, pm_ra_c, pm_rn_c, pm_rk_i, pm_rk_z, pm_rk_a, pm_vk_i, pm_vk_z, pm_vk_a, pm_cti, pm_ctr, pm_ldi_z, pm_ldi_s, pm_lda_z, pm_lda_s, pm_cat_n, pm_cat_i, pm_cat_r, pm_cat_l, pm_obj, pm_arr, pm_opt, pm_ird, pm_aln, List.getElem?_cons_zero, List.getElem?_cons_succ, List.set_cons_zero, List.set_cons_succ, List.length_cons, List.length_nil, List.length_set, true_and, and_true, Nat.add_zero, Nat.zero_add, Nat.le_refl, Nat.reduceAdd, Nat.reduceLT, Nat.reduceLeDiff, Nat.zero_le, not_false_eq_true, not_true_eq_false, false_implies, implies_true, true_implies, Nat.zero_lt_succ, Nat.lt_add_one, H2, q4]
        refine PM_use (pastN g M) ?_
        rintro v g2 k2 ⟨rfl, rfl⟩
        show W_X12_ideal _ _ _ _ _ _ _ _ _
        simp only [w_X12_ideal_43, w_X12_ideal_46, w_X12_ideal_47, pm_1i_c, pm_2i_c, pm_1l_c, pm_2l_c, pm_1a_c, pm_ia_c, pm_iia_c, pm_va_c, pm_cp_c, pm_k0_c, pm_k1_c, pm_k2_c, pm_k3_c, pm_s1_c, pm_s2_c, pm_s3_c, pm_s4_c, pm_ri_c, pm_ra_c, pm_rn_c, pm_rk_i, pm_rk_z, pm_rk_a, pm_vk_i, pm_vk_z, pm_vk_a, pm_cti, pm_ctr, pm_ldi_z, pm_ldi_s, pm_lda_z, pm_lda_s, pm_cat_n, pm_cat_i, pm_cat_r, pm_cat_l, pm_obj, pm_arr, pm_opt, pm_ird, pm_aln, List.getElem?_cons_zero, List.getElem?_cons_succ, List.set_cons_zero, List.set_cons_succ, List.length_cons, List.length_nil, List.length_set, true_and, and_true, Nat.add_zero, Nat.zero_add, Nat.le_refl, Nat.reduceAdd, Nat.reduceLT, Nat.reduceLeDiff, Nat.zero_le, not_false_eq_true, not_true_eq_false, false_implies, implies_true, true_implies, Nat.zero_lt_succ, Nat.lt_add_one, pm_tl_n, pm_tl_s, sc_uL, show nI k < nI xs.length from nI_lt hk2 (by omega)]
        refine seek R.length 0 (by omega) (Nat.zero_le _) (fun x5 h5 => ?_)
        subst h5
        by_cases c1 : R.idxOf y < R.length
        · -- a hit
          have cm : y ∈ (idS xs (nI r) k).1 := mR.mp ((ix_lt R y).mp c1)
          have c1' : nI (R.idxOf y) < nI R.length := nI_lt c1 (by omega)
          unfold idM at es
          rw [if_pos cm] at es
          unfold idC at es
          have nr : ¬ nI r < nI (idS xs (nI r) k).1.length := nI_nlt i3 (by omega)
          dsimp only at es
          rw [if_neg nr] at es
          rw [es] at N
          simp only [w_X12_ideal_77, w_X12_ideal_79, w_X12_ideal_80, w_X12_ideal_83, w_X12_ideal_86, w_X12_ideal_211, w_X12_ideal_214, pm_1i_c, pm_2i_c, pm_1l_c, pm_2l_c, pm_1a_c, pm_ia_c, pm_iia_c, pm_va_c, pm_cp_c, pm_k0_c, pm_k1_c, pm_k2_c, pm_k3_c, pm_s1_c, pm_s2_c, pm_s3_c, pm_s4_c, pm_ri_c, pm_ra_c, pm_rn_c, pm_rk_i, pm_rk_z, pm_rk_a, pm_vk_i, pm_vk_z, pm_vk_a, pm_cti, pm_ctr, pm_ldi_z, pm_ldi_s, pm_lda_z, pm_lda_s, pm_cat_n, pm_cat_i, pm_cat_r, pm_cat_l, pm_obj, pm_arr, pm_opt, pm_ird, pm_aln, List.getElem?_cons_zero, List.getElem?_cons_succ, List.set_cons_zero, List.set_cons_succ, List.length_cons, List.length_nil, List.length_set, true_and, and_true, Nat.add_zero, Nat.zero_add, Nat.le_refl, Nat.reduceAdd, Nat.reduceLT, Nat.reduceLeDiff, Nat.zero_le, not_false_eq_true, not_true_eq_false, false_implies, implies_true, true_implies, Nat.zero_lt_succ, Nat.lt_add_one, c1', nI_1]
          exact N g2 gf R _ _ _ _ _ M F q1 q2 q3 q4
        · have cm : y ∉ (idS xs (nI r) k).1 := fun w => c1 ((ix_lt R y).mpr (mR.mpr w))
          have c1' : ¬ nI (R.idxOf y) < nI R.length := nI_nlt (by omega) (by omega)
          unfold idM at es
          rw [if_neg cm] at es
          unfold idC at es
          dsimp only at es
          have vR : vp_in (nI R.length) 66 := vp_in_nI (by omega) (by omega)
          have cR : (nI R.length).toNatClampNeg = R.length := nI_clamp (by omega)
          simp only [w_X12_ideal_77, w_X12_ideal_79, w_X12_ideal_80, w_X12_ideal_89, w_X12_ideal_90, w_X12_ideal_93, w_X12_ideal_94, w_X12_ideal_95, w_X12_ideal_97, pm_1i_c, pm_2i_c, pm_1l_c, pm_2l_c, pm_1a_c, pm_ia_c, pm_iia_c, pm_va_c, pm_cp_c, pm_k0_c, pm_k1_c, pm_k2_c, pm_k3_c, pm_s1_c, pm_s2_c, pm_s3_c, pm_s4_c, pm_ri_c, pm_ra_c, pm_rn_c, pm_rk_i, pm_rk_z, pm_rk_a, pm_vk_i, pm_vk_z, pm_vk_a, pm_cti, pm_ctr, pm_ldi_z, pm_ldi_s, pm_lda_z, pm_lda_s, pm_cat_n, pm_cat_i, pm_cat_r, pm_cat_l, pm_obj, pm_arr, pm_opt, pm_ird, pm_aln, List.getElem?_cons_zero, List.getElem?_cons_succ, List.set_cons_zero, List.set_cons_succ, List.length_cons, List.length_nil, List.length_set, true_and, and_true, Nat.add_zero, Nat.zero_add, Nat.le_refl, Nat.reduceAdd, Nat.reduceLT, Nat.reduceLeDiff, Nat.zero_le, not_false_eq_true, not_true_eq_false, false_implies, implies_true, true_implies, Nat.zero_lt_succ, Nat.lt_add_one, c1', H2, q4]
          refine PM_use (pastA g2 M k hk2) ?_
          rintro v g3 k3 ⟨rfl, rfl⟩
          rw [← hy]
          show W_X12_ideal _ _ _ _ _ _ _ _ _
          simp only [w_X12_ideal_100, w_X12_ideal_101, pm_1i_c, pm_2i_c, pm_1l_c, pm_2l_c, pm_1a_c, pm_ia_c, pm_iia_c, pm_va_c, pm_cp_c, pm_k0_c, pm_k1_c, pm_k2_c, pm_k3_c, pm_s1_c, pm_s2_c, pm_s3_c, pm_s4_c, pm_ri_c, pm_ra_c, pm_rn_c, pm_rk_i, pm_rk_z, pm_rk_a, pm_vk_i, pm_vk_z, pm_vk_a, pm_cti, pm_ctr, pm_ldi_z, pm_ldi_s, pm_lda_z, pm_lda_s, pm_cat_n, pm_cat_i, pm_cat_r, pm_cat_l, pm_obj, pm_arr, pm_opt, pm_ird, pm_aln, List.getElem?_cons_zero, List.getElem?_cons_succ, List.set_cons_zero, List.set_cons_succ, List.length_cons, List.length_nil, List.length_set, true_and, and_true, Nat.add_zero, Nat.zero_add, Nat.le_refl, Nat.reduceAdd, Nat.reduceLT, Nat.reduceLeDiff, Nat.zero_le, not_false_eq_true, not_true_eq_false, false_implies, implies_true, true_implies, Nat.zero_lt_succ, Nat.lt_add_one, pm_tl_n, pm_tl_s, sc_uL, q1, vR, cR, nI_1]
          obtain ⟨gf3, hgf3⟩ : ∃ gf3, gf3 = upd gf R.length y := ⟨_, rfl⟩
          rw [← hgf3]
          obtain ⟨g4, hg4⟩ : ∃ g4, g4 = g3.set (m + 9) (.inl (0, 66, .inl gf3)) := ⟨_, rfl⟩
          have q14 : g4[m + 9]? = some (.inl (0, 66, .inl gf3)) := by rw [hg4, hset_s, q1]; rfl
          obtain ⟨M4, F4⟩ := M.ur (h' := g4) ⟨gf3, q14⟩ (fun i hi => by rw [hg4]; exact hset_n (Ne.symm hi))
          have l4 : g4.length = h.length := by rw [hg4, List.length_set]; exact q4
          have H4 := cells g4 M4
          rw [← hg4]
          obtain ⟨R1, hR1⟩ : ∃ R1, R1 = R ++ [y] := ⟨_, rfl⟩
          have lR1 : R1.length = R.length + 1 := by rw [hR1, List.length_append]; rfl
          have gR1 : ∀ j, j < R1.length → gf3 j = R1.getD j (-1) := fun j hj => by
            rw [lR1] at hj
            rw [hgf3, hR1]
            by_cases e : j = R.length
            · rw [getD_app_eq e, e, upd_e]
            · rw [getD_app_lt (by omega), upd_n e]
              exact q2 j (by omega)
          obtain ⟨T1, hT1⟩ : ∃ T1, T1 = (idS xs (nI r) k).1 ++ [y] := ⟨_, rfl⟩
          have lT1 : T1.length = R1.length := by rw [hT1, List.length_append, lR1, pr.length_eq]; rfl
          have ctT : ∀ w, R1.count w = T1.count w := fun w => by
            rw [hR1, hT1, List.count_append, List.count_append, q3]
          rw [← hT1] at es
          rw [← lR1]
          by_cases c2 : r < R1.length
          · have c2' : nI r < nI R1.length := nI_lt c2 (by omega)
            have c2t : nI r < nI T1.length := by rw [lT1]; exact c2'
            rw [if_pos c2t] at es
            -- the search
            obtain ⟨f, hf⟩ : ∃ f : Int32 → Int32, f = fun y => nI (ndN xs y (k + 1)) := ⟨_, rfl⟩
            have duE : (idS xs (nI r) k).2.1 ++ [nI (nxA xs k)] = T1.map f := by
              have nx : nxA xs k = ndN xs y (k + 1) := by
                rw [hy]
                rfl
              rw [nx, hT1, List.map_append, i1, hf]
              congr 1
              exact List.map_congr_left fun w hw => by
                rw [ndN_s xs w hk2, ← hy, if_neg (fun e : y = w => cm (e ▸ hw))]
            rw [duE] at es
            have ltm : latF T1 (T1.map f) = laS T1 (T1.map f) (T1.length - 1) := by
              unfold latF
              rw [List.length_map]
            have same := lat_same f (T := T1) (R := R1) ctT (by omega) (by omega)
            obtain ⟨t1, t2⟩ := laS_max f T1 (T1.length - 1) (by omega)
            have search : ∀ w i, R1.length - i = w → 1 ≤ i → i ≤ R1.length → ∀ (x8 x9 : Option Value), W_X12_ideal (d + 2) h.length 0 (rq_ h m A K bs ws (o 0) (o 7) true (nI (idS xs (nI r) xs.length).2.2)) 118 [some (.ref m), some (.int (nI r)), some (.int (nI R1.length)), some (.int (nI (idS xs (nI r) k).2.2)), some (.int (nI k)), some (.int (nI (R.idxOf y))), some (.int (nI (laS R1 (R1.map f) (i - 1)))), some (.int (nI i)), x8, x9] [] g4 0 := by
              intro w
              induction w with
              | zero =>
                intro i hw i1 i2 x8 x9
                have : i = R1.length := by omega
                subst this
                obtain ⟨w1, w2⟩ := laS_max f R1 (R1.length - 1) (by omega)
                obtain ⟨q, hq⟩ : ∃ q, q = laS R1 (R1.map f) (R1.length - 1) := ⟨_, rfl⟩
                rw [← hq] at w1 w2 same ⊢
                have vq : vp_in (nI q) 66 := vp_in_nI (by omega) (by omega)
                have cq : (nI q).toNatClampNeg = q := nI_clamp (by omega)
                have e3 : nI R1.length + -1 = nI R.length := by rw [nIinc, lR1, nI_pred]
                have gl : gf3 R.length = y := by rw [hgf3, upd_e]
                rw [w_X12_ideal_118]
                simp only [w_X12_ideal_120, w_X12_ideal_121, w_X12_ideal_195, w_X12_ideal_198, w_X12_ideal_199, w_X12_ideal_202, w_X12_ideal_204, w_X12_ideal_205, w_X12_ideal_208, w_X12_ideal_209, w_X12_ideal_210, w_X12_ideal_211, w_X12_ideal_214, pm_1i_c, pm_2i_c, pm_1l_c, pm_2l_c, pm_1a_c, pm_ia_c, pm_iia_c, pm_va_c, pm_cp_c, pm_k0_c, pm_k1_c, pm_k2_c, pm_k3_c, pm_s1_c, pm_s2_c, pm_s3_c, pm_s4_c, pm_ri_c, pm_ra_c, pm_rn_c, pm_rk_i, pm_rk_z, pm_rk_a, pm_vk_i, pm_vk_z, pm_vk_a, pm_cti, pm_ctr, pm_ldi_z, pm_ldi_s, pm_lda_z, pm_lda_s, pm_cat_n, pm_cat_i, pm_cat_r, pm_cat_l, pm_obj, pm_arr, pm_opt, pm_ird, pm_aln, List.getElem?_cons_zero, List.getElem?_cons_succ, List.set_cons_zero, List.set_cons_succ, List.length_cons, List.length_nil, List.length_set, true_and, and_true, Nat.add_zero, Nat.zero_add, Nat.le_refl, Nat.reduceAdd, Nat.reduceLT, Nat.reduceLeDiff, Nat.zero_le, not_false_eq_true, not_true_eq_false, false_implies, implies_true, true_implies, Nat.zero_lt_succ, Nat.lt_add_one, show ¬ nI R1.length < nI R1.length from nI_nlt (Nat.le_refl _) (by omega), H4, q14, e3, vR, cR, vq, cq, gl, nI_1]
                obtain ⟨R2, hR2⟩ : ∃ R2, R2 = (R1.set q y).dropLast := ⟨_, rfl⟩
                have lR2 : R2.length = R.length := by rw [hR2, List.length_dropLast, List.length_set, lR1]; omega
                rw [es] at N
                have g5 : (g4.set (m + 9) (.inl (0, 66, .inl (upd gf3 q y))))[m + 9]? = some (.inl (0, 66, .inl (upd gf3 q y))) := by rw [hset_s, q14]; rfl
                obtain ⟨M5, F5⟩ := M4.ur (h' := g4.set (m + 9) (.inl (0, 66, .inl (upd gf3 q y)))) ⟨_, g5⟩ (fun i hi => hset_n (Ne.symm hi))
                rw [← lR2]
                refine N _ _ R2 _ _ _ _ _ M5 ((F.tr F4).tr F5) g5 (fun j hj => ?_) (fun w => ?_) (by rw [List.length_set]; exact l4)
                · rw [lR2] at hj
                  rw [hR2, getD_drop_lt (by rw [List.length_set]; omega), List.getD_eq_getElem?_getD, List.getElem?_set]
                  by_cases ej : q = j
                  · rw [if_pos ej, if_pos (by omega), ← ej, upd_e]
                    rfl
                  · rw [if_neg ej, upd_n (Ne.symm ej), ← List.getD_eq_getElem?_getD]
                    exact gR1 j (by omega)
                · -- one less of the same key
                  have lastE : (R1.set q y).getLastD (-1) = y := by
                    rw [getLast_at, List.length_set, List.getD_eq_getElem?_getD, List.getElem?_set]
                    by_cases ej : q = R1.length - 1
                    · rw [if_pos ej, if_pos (by omega)]
                      rfl
                    · rw [if_neg ej, ← List.getD_eq_getElem?_getD, hR1, getD_app_eq (by rw [List.length_append]; show R.length + 1 - 1 = _; omega)]
                  have c3 := ct_last (l := R1.set q y) (by rw [List.length_set]; omega) w
                  rw [lastE, ← hR2] at c3
                  have c4 := ct_set (l := R1) (i := q) (by omega) y w
                  have c5 := ct_ix (l := T1) (k := laS T1 (T1.map f) (T1.length - 1)) (by omega) w
                  rw [same] at c5
                  have c6 := ctT w
                  rw [ltm]
                  show R2.count w = (T1.eraseIdx _).count w
                  omega
              | succ w ihw =>
                intro i hw i1 i2 x8 x9
                have hi : i < R1.length := by omega
                obtain ⟨w1, w2⟩ := laS_max f R1 (i - 1) (by omega)
                obtain ⟨q, hq⟩ : ∃ q, q = laS R1 (R1.map f) (i - 1) := ⟨_, rfl⟩
                have step : laS R1 (R1.map f) (i + 1 - 1) = if f (R1.getD q (-1)) < f (R1.getD i (-1)) ∨ f (R1.getD i (-1)) = f (R1.getD q (-1)) ∧ R1.getD q (-1) < R1.getD i (-1) then i else q := by
                  rw [show i + 1 - 1 = (i - 1) + 1 by omega, laS_s, ← hq, show i - 1 + 1 = i by omega, getD_map (by omega), getD_map (by omega)]
                have NN := ihw (i + 1) (by omega) (by omega) (by omega) (some (.int (f (R1.getD i (-1))))) (some (.int (f (R1.getD q (-1)))))
                rw [step] at NN
                rw [← hq] at w1 ⊢
                have fE : ∀ u, f u = nI (ndN xs u (k + 1)) := fun u => by rw [hf]
                have vi : vp_in (nI i) 66 := vp_in_nI (by omega) (by omega)
                have ci : (nI i).toNatClampNeg = i := nI_clamp (by omega)
                have vq : vp_in (nI q) 66 := vp_in_nI (by omega) (by omega)
                have cq : (nI q).toNatClampNeg = q := nI_clamp (by omega)
                have gi := gR1 i hi
                have gq := gR1 q (by omega)
                rw [w_X12_ideal_118]
                simp only [w_X12_ideal_120, w_X12_ideal_121, w_X12_ideal_124, w_X12_ideal_125, w_X12_ideal_126, w_X12_ideal_129, w_X12_ideal_131, w_X12_ideal_132, w_X12_ideal_134, pm_1i_c, pm_2i_c, pm_1l_c, pm_2l_c, pm_1a_c, pm_ia_c, pm_iia_c, pm_va_c, pm_cp_c, pm_k0_c, pm_k1_c, pm_k2_c, pm_k3_c, pm_s1_c, pm_s2_c, pm_s3_c, pm_s4_c, pm_ri_c, pm_ra_c, pm_rn_c, pm_rk_i, pm_rk_z, pm_rk_a, pm_vk_i, pm_vk_z, pm_vk_a, pm_cti, pm_ctr, pm_ldi_z, pm_ldi_s, pm_lda_z, pm_lda_s, pm_cat_n, pm_cat_i, pm_cat_r, pm_cat_l, pm_obj, pm_arr, pm_opt, pm_ird, pm_aln, List.getElem?_cons_zero, List.getElem?_cons_succ, List.set_cons_zero, List.set_cons_succ, List.length_cons, List.length_nil, List.length_set, true_and, and_true, Nat.add_zero, Nat.zero_add, Nat.le_refl, Nat.reduceAdd, Nat.reduceLT, Nat.reduceLeDiff, Nat.zero_le, not_false_eq_true, not_true_eq_false, false_implies, implies_true, true_implies, Nat.zero_lt_succ, Nat.lt_add_one, show nI i < nI R1.length from nI_lt hi (by omega), H4, q14, vi, ci, gi, l4]
                refine PM_use (pastX g4 M4 k (R1.getD i (-1)) hk2) ?_
                rintro v g6 k6 ⟨rfl, rfl⟩
                rw [← fE]
                show W_X12_ideal _ _ _ _ _ _ _ _ _
                simp only [w_X12_ideal_137, w_X12_ideal_139, w_X12_ideal_140, w_X12_ideal_141, w_X12_ideal_144, w_X12_ideal_146, w_X12_ideal_147, w_X12_ideal_149, pm_1i_c, pm_2i_c, pm_1l_c, pm_2l_c, pm_1a_c, pm_ia_c, pm_iia_c, pm_va_c, pm_cp_c, pm_k0_c, pm_k1_c, pm_k2_c, pm_k3_c, pm_s1_c, pm_s2_c, pm_s3_c, pm_s4_c, pm_ri_c, pm_ra_c, pm_rn_c, pm_rk_i, pm_rk_z, pm_rk_a, pm_vk_i, pm_vk_z, pm_vk_a, pm_cti, pm_ctr, pm_ldi_z, pm_ldi_s, pm_lda_z, pm_lda_s, pm_cat_n, pm_cat_i, pm_cat_r, pm_cat_l, pm_obj, pm_arr, pm_opt, pm_ird, pm_aln, List.getElem?_cons_zero, List.getElem?_cons_succ, List.set_cons_zero, List.set_cons_succ, List.length_cons, List.length_nil, List.length_set, true_and, and_true, Nat.add_zero, Nat.zero_add, Nat.le_refl, Nat.reduceAdd, Nat.reduceLT, Nat.reduceLeDiff, Nat.zero_le, not_false_eq_true, not_true_eq_false, false_implies, implies_true, true_implies, Nat.zero_lt_succ, Nat.lt_add_one, pm_tl_n, pm_tl_s, sc_uL, H4, q14, vq, cq, gq, l4]
                refine PM_use (pastX g6 M4 k (R1.getD q (-1)) hk2) ?_
                rintro v g7 k7 ⟨rfl, rfl⟩
                rw [← fE]
                by_cases d1 : f (R1.getD q (-1)) < f (R1.getD i (-1))
                · rw [if_pos (Or.inl d1)] at NN
                  show W_X12_ideal _ _ _ _ _ _ _ _ _
                  simp only [w_X12_ideal_152, w_X12_ideal_154, w_X12_ideal_156, w_X12_ideal_158, w_X12_ideal_185, w_X12_ideal_187, w_X12_ideal_189, w_X12_ideal_192, pm_1i_c, pm_2i_c, pm_1l_c, pm_2l_c, pm_1a_c, pm_ia_c, pm_iia_c, pm_va_c, pm_cp_c, pm_k0_c, pm_k1_c, pm_k2_c, pm_k3_c, pm_s1_c, pm_s2_c, pm_s3_c, pm_s4_c, pm_ri_c, pm_ra_c, pm_rn_c, pm_rk_i, pm_rk_z, pm_rk_a, pm_vk_i, pm_vk_z, pm_vk_a, pm_cti, pm_ctr, pm_ldi_z, pm_ldi_s, pm_lda_z, pm_lda_s, pm_cat_n, pm_cat_i, pm_cat_r, pm_cat_l, pm_obj, pm_arr, pm_opt, pm_ird, pm_aln, List.getElem?_cons_zero, List.getElem?_cons_succ, List.set_cons_zero, List.set_cons_succ, List.length_cons, List.length_nil, List.length_set, true_and, and_true, Nat.add_zero, Nat.zero_add, Nat.le_refl, Nat.reduceAdd, Nat.reduceLT, Nat.reduceLeDiff, Nat.zero_le, not_false_eq_true, not_true_eq_false, false_implies, implies_true, true_implies, Nat.zero_lt_succ, Nat.lt_add_one, pm_tl_n, pm_tl_s, sc_uL, d1, nI_1]
                  exact NN
                · by_cases d2 : f (R1.getD i (-1)) = f (R1.getD q (-1))
                  · by_cases d3 : R1.getD q (-1) < R1.getD i (-1)
                    · rw [if_pos (Or.inr ⟨d2, d3⟩)] at NN
                      show W_X12_ideal _ _ _ _ _ _ _ _ _
                      simp only [w_X12_ideal_152, w_X12_ideal_154, w_X12_ideal_156, w_X12_ideal_158, w_X12_ideal_161, w_X12_ideal_163, w_X12_ideal_165, w_X12_ideal_168, w_X12_ideal_169, w_X12_ideal_172, w_X12_ideal_174, w_X12_ideal_175, w_X12_ideal_176, w_X12_ideal_179, w_X12_ideal_181, w_X12_ideal_182, w_X12_ideal_185, w_X12_ideal_187, w_X12_ideal_189, w_X12_ideal_192, pm_1i_c, pm_2i_c, pm_1l_c, pm_2l_c, pm_1a_c, pm_ia_c, pm_iia_c, pm_va_c, pm_cp_c, pm_k0_c, pm_k1_c, pm_k2_c, pm_k3_c, pm_s1_c, pm_s2_c, pm_s3_c, pm_s4_c, pm_ri_c, pm_ra_c, pm_rn_c, pm_rk_i, pm_rk_z, pm_rk_a, pm_vk_i, pm_vk_z, pm_vk_a, pm_cti, pm_ctr, pm_ldi_z, pm_ldi_s, pm_lda_z, pm_lda_s, pm_cat_n, pm_cat_i, pm_cat_r, pm_cat_l, pm_obj, pm_arr, pm_opt, pm_ird, pm_aln, List.getElem?_cons_zero, List.getElem?_cons_succ, List.set_cons_zero, List.set_cons_succ, List.length_cons, List.length_nil, List.length_set, true_and, and_true, Nat.add_zero, Nat.zero_add, Nat.le_refl, Nat.reduceAdd, Nat.reduceLT, Nat.reduceLeDiff, Nat.zero_le, not_false_eq_true, not_true_eq_false, false_implies, implies_true, true_implies, Nat.zero_lt_succ, Nat.lt_add_one, pm_tl_n, pm_tl_s, sc_uL, d1, H4, q14, vi, ci, gi, vq, cq, gq, d3, nI_1]
                      exact ⟨fun z => absurd d2 z, fun _ => NN⟩
                    · rw [if_neg (fun z => z.elim d1 (fun z => d3 z.2))] at NN
                      show W_X12_ideal _ _ _ _ _ _ _ _ _
                      simp only [w_X12_ideal_152, w_X12_ideal_154, w_X12_ideal_156, w_X12_ideal_158, w_X12_ideal_161, w_X12_ideal_163, w_X12_ideal_165, w_X12_ideal_168, w_X12_ideal_169, w_X12_ideal_172, w_X12_ideal_174, w_X12_ideal_175, w_X12_ideal_176, w_X12_ideal_179, w_X12_ideal_181, w_X12_ideal_182, w_X12_ideal_185, w_X12_ideal_187, w_X12_ideal_189, w_X12_ideal_192, pm_1i_c, pm_2i_c, pm_1l_c, pm_2l_c, pm_1a_c, pm_ia_c, pm_iia_c, pm_va_c, pm_cp_c, pm_k0_c, pm_k1_c, pm_k2_c, pm_k3_c, pm_s1_c, pm_s2_c, pm_s3_c, pm_s4_c, pm_ri_c, pm_ra_c, pm_rn_c, pm_rk_i, pm_rk_z, pm_rk_a, pm_vk_i, pm_vk_z, pm_vk_a, pm_cti, pm_ctr, pm_ldi_z, pm_ldi_s, pm_lda_z, pm_lda_s, pm_cat_n, pm_cat_i, pm_cat_r, pm_cat_l, pm_obj, pm_arr, pm_opt, pm_ird, pm_aln, List.getElem?_cons_zero, List.getElem?_cons_succ, List.set_cons_zero, List.set_cons_succ, List.length_cons, List.length_nil, List.length_set, true_and, and_true, Nat.add_zero, Nat.zero_add, Nat.le_refl, Nat.reduceAdd, Nat.reduceLT, Nat.reduceLeDiff, Nat.zero_le, not_false_eq_true, not_true_eq_false, false_implies, implies_true, true_implies, Nat.zero_lt_succ, Nat.lt_add_one, pm_tl_n, pm_tl_s, sc_uL, d1, H4, q14, vi, ci, gi, vq, cq, gq, d3, nI_1]
                      exact ⟨fun z => absurd d2 z, fun _ => NN⟩
                  · rw [if_neg (fun z => z.elim d1 (fun z => d2 z.1))] at NN
                    show W_X12_ideal _ _ _ _ _ _ _ _ _
                    simp only [w_X12_ideal_152, w_X12_ideal_154, w_X12_ideal_156, w_X12_ideal_158, w_X12_ideal_161, w_X12_ideal_163, w_X12_ideal_165, w_X12_ideal_189, w_X12_ideal_192, pm_1i_c, pm_2i_c, pm_1l_c, pm_2l_c, pm_1a_c, pm_ia_c, pm_iia_c, pm_va_c, pm_cp_c, pm_k0_c, pm_k1_c, pm_k2_c, pm_k3_c, pm_s1_c, pm_s2_c, pm_s3_c, pm_s4_c, pm_ri_c, pm_ra_c, pm_rn_c, pm_rk_i, pm_rk_z, pm_rk_a, pm_vk_i, pm_vk_z, pm_vk_a, pm_cti, pm_ctr, pm_ldi_z, pm_ldi_s, pm_lda_z, pm_lda_s, pm_cat_n, pm_cat_i, pm_cat_r, pm_cat_l, pm_obj, pm_arr, pm_opt, pm_ird, pm_aln, List.getElem?_cons_zero, List.getElem?_cons_succ, List.set_cons_zero, List.set_cons_succ, List.length_cons, List.length_nil, List.length_set, true_and, and_true, Nat.add_zero, Nat.zero_add, Nat.le_refl, Nat.reduceAdd, Nat.reduceLT, Nat.reduceLeDiff, Nat.zero_le, not_false_eq_true, not_true_eq_false, false_implies, implies_true, true_implies, Nat.zero_lt_succ, Nat.lt_add_one, pm_tl_n, pm_tl_s, sc_uL, d1, d2, nI_1]
                    exact NN
            simp only [w_X12_ideal_104, w_X12_ideal_105, w_X12_ideal_106, w_X12_ideal_112, w_X12_ideal_113, w_X12_ideal_115, w_X12_ideal_116, pm_1i_c, pm_2i_c, pm_1l_c, pm_2l_c, pm_1a_c, pm_ia_c, pm_iia_c, pm_va_c, pm_cp_c, pm_k0_c, pm_k1_c, pm_k2_c, pm_k3_c, pm_s1_c, pm_s2_c, pm_s3_c, pm_s4_c, pm_ri_c, pm_ra_c, pm_rn_c, pm_rk_i, pm_rk_z, pm_rk_a, pm_vk_i, pm_vk_z, pm_vk_a, pm_cti, pm_ctr, pm_ldi_z, pm_ldi_s, pm_lda_z, pm_lda_s, pm_cat_n, pm_cat_i, pm_cat_r, pm_cat_l, pm_obj, pm_arr, pm_opt, pm_ird, pm_aln, List.getElem?_cons_zero, List.getElem?_cons_succ, List.set_cons_zero, List.set_cons_succ, List.length_cons, List.length_nil, List.length_set, true_and, and_true, Nat.add_zero, Nat.zero_add, Nat.le_refl, Nat.reduceAdd, Nat.reduceLT, Nat.reduceLeDiff, Nat.zero_le, not_false_eq_true, not_true_eq_false, false_implies, implies_true, true_implies, Nat.zero_lt_succ, Nat.lt_add_one, c2']
            exact search _ 1 rfl (by omega) (by omega) _ _
          · have c2' : ¬ nI r < nI R1.length := nI_nlt (by omega) (by omega)
            have c2t : ¬ nI r < nI T1.length := by rw [lT1]; exact c2'
            rw [if_neg c2t] at es
            rw [es] at N
            simp only [w_X12_ideal_104, w_X12_ideal_105, w_X12_ideal_106, w_X12_ideal_109, w_X12_ideal_211, w_X12_ideal_214, pm_1i_c, pm_2i_c, pm_1l_c, pm_2l_c, pm_1a_c, pm_ia_c, pm_iia_c, pm_va_c, pm_cp_c, pm_k0_c, pm_k1_c, pm_k2_c, pm_k3_c, pm_s1_c, pm_s2_c, pm_s3_c, pm_s4_c, pm_ri_c, pm_ra_c, pm_rn_c, pm_rk_i, pm_rk_z, pm_rk_a, pm_vk_i, pm_vk_z, pm_vk_a, pm_cti, pm_ctr, pm_ldi_z, pm_ldi_s, pm_lda_z, pm_lda_s, pm_cat_n, pm_cat_i, pm_cat_r, pm_cat_l, pm_obj, pm_arr, pm_opt, pm_ird, pm_aln, List.getElem?_cons_zero, List.getElem?_cons_succ, List.set_cons_zero, List.set_cons_succ, List.length_cons, List.length_nil, List.length_set, true_and, and_true, Nat.add_zero, Nat.zero_add, Nat.le_refl, Nat.reduceAdd, Nat.reduceLT, Nat.reduceLeDiff, Nat.zero_le, not_false_eq_true, not_true_eq_false, false_implies, implies_true, true_implies, Nat.zero_lt_succ, Nat.lt_add_one, c2', nI_1]
            exact N g4 gf3 R1 _ _ _ _ _ M4 (F.tr F4) q14 gR1 ctT l4
    obtain ⟨rf, hr⟩ := C1.rw
    exact loop _ 0 rfl (Nat.zero_le _) _ rf [] _ _ _ _ _ C1 F1 hr (fun j hj => absurd hj (Nat.not_lt_zero _)) (fun w => rfl) l1
end MX
