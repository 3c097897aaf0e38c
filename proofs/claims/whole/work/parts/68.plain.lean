/-! AdmissionDeskModel: plain, enough. -/
section MW
variable {h h' : pmH} {m : Nat} {o : Nat → Int32} {A A' K K' B : AD} {bs ws bs' ws' : List Int32} {ik ft : Int32}
/-- the small row at another -/
theorem mm_.ur (C : mm_ h m o A K bs ws) (N : ∃ f, h'[m + 9]? = some (.inl (0, 66, .inl f))) (F : fr1 h h' (m + 9)) : mm_ h' m o A K bs ws ∧ frM h h' m := by
  refine ⟨⟨(F m (by omega)).trans C.1, ?_, ?_, ?_, ?_, ?_, ?_, ?_, ?_, N, ?_⟩, fun i hi => F i (by omega)⟩
  · obtain ⟨f, h1, h2⟩ := C.n
    exact ⟨f, (F _ (by omega)).trans h1, h2⟩
  · obtain ⟨f, h1, h2⟩ := C.k
    exact ⟨f, (F _ (by omega)).trans h1, h2⟩
  · obtain ⟨f, h1⟩ := C.as
    exact ⟨f, (F _ (by omega)).trans h1⟩
  · obtain ⟨f, h1, h2⟩ := C.tp
    exact ⟨f, (F _ (by omega)).trans h1, h2⟩
  · obtain ⟨f, h1⟩ := C.fv
    exact ⟨f, (F _ (by omega)).trans h1⟩
  · obtain ⟨f, h1⟩ := C.cd
    exact ⟨f, (F _ (by omega)).trans h1⟩
  · exact C.p.keep (F _ (by omega))
  · obtain ⟨f, h1⟩ := C.td
    exact ⟨f, (F _ (by omega)).trans h1⟩
  · obtain ⟨f, h1, h2⟩ := C.tx
    exact ⟨f, (F _ (by omega)).trans h1, h2⟩
/-- where a key lies in the row, its length where it doesn't -/
theorem ix_le (l : List Int32) (x : Int32) : l.idxOf x ≤ l.length := List.idxOf_le_length
theorem ix_lt (l : List Int32) (x : Int32) : l.idxOf x < l.length ↔ x ∈ l := List.idxOf_lt_length_iff
def plA_ (l : List Int32) (r : Nat) (x : Int32) : Nat := if l.idxOf x < l.length then l.idxOf x else if l.length < r then l.length else l.length - 1
def plL (l : List Int32) (r : Nat) (x : Int32) : List Int32 := x :: l.eraseIdx (plA_ l r x)
theorem plL_len {l : List Int32} {r : Nat} (hr : 1 ≤ r) (hl : l.length ≤ r) (x : Int32) : (plL l r x).length ≤ r ∧ plA_ l r x ≤ l.length ∧ plA_ l r x < r ∧ (plL l r x).length = if plA_ l r x < l.length then l.length else l.length + 1 := by
  have hx := ix_le l x
  unfold plL
  rw [List.length_cons, List.length_eraseIdx]
  unfold plA_
  by_cases c1 : l.idxOf x < l.length
  · rw [if_pos c1, if_pos c1]
    refine ⟨by omega, by omega, by omega, ?_⟩
    rw [if_pos c1]
    omega
  · rw [if_neg c1]
    by_cases c2 : l.length < r
    · rw [if_pos c2, if_neg (by omega)]
      refine ⟨by omega, by omega, by omega, ?_⟩
      rw [if_neg (by omega)]
    · rw [if_neg c2]
      have : l.length - 1 < l.length := by omega
      rw [if_pos this]
      refine ⟨by omega, by omega, by omega, ?_⟩
      rw [if_pos this]
      omega
/-- the row with a bound is the first ones of the row without -/
theorem pl_take {S : List Int32} {r : Nat} (hr : 1 ≤ r) (x : Int32) : plL (S.take r) r x = (x :: S.erase x).take r := by
  obtain ⟨r', rfl⟩ : ∃ r', r = r' + 1 := ⟨r - 1, by omega⟩
  unfold plL
  rw [List.take_succ_cons]
  congr 1
  unfold plA_
  by_cases c1 : (S.take (r' + 1)).idxOf x < (S.take (r' + 1)).length
  · rw [if_pos c1]
    have hm : x ∈ S.take (r' + 1) := (ix_lt _ _).mp c1
    have hs : x ∈ S := List.mem_of_mem_take hm
    have e : (S.take (r' + 1)).idxOf x = S.idxOf x := by
      have : S = S.take (r' + 1) ++ S.drop (r' + 1) := (List.take_append_drop _ _).symm
      rw [show S.idxOf x = (S.take (r' + 1) ++ S.drop (r' + 1)).idxOf x from congrArg (fun z => List.idxOf x z) this, List.idxOf_append, if_pos hm]
    rw [e] at c1 ⊢
    rw [List.length_take] at c1
    rw [List.erase_eq_eraseIdx_of_idxOf rfl]
    refine List.ext_getElem? fun i => ?_
    rw [List.getElem?_eraseIdx, List.getElem?_take, List.getElem?_take, List.getElem?_take, List.getElem?_eraseIdx]
    by_cases d1 : i < S.idxOf x
    · rw [if_pos d1, if_pos d1, if_pos (by omega), if_pos (by omega)]
    · rw [if_neg d1, if_neg d1]
      by_cases d2 : i < r'
      · rw [if_pos (by omega), if_pos d2]
      · rw [if_neg (by omega), if_neg d2]
  · rw [if_neg c1]
    have hm : x ∉ S.take (r' + 1) := fun z => c1 ((ix_lt _ _).mpr z)
    by_cases c2 : (S.take (r' + 1)).length < r' + 1
    · rw [if_pos c2]
      have hl : S.length < r' + 1 := by
        rw [List.length_take] at c2
        omega
      have e : S.take (r' + 1) = S := List.take_of_length_le (by omega)
      rw [e] at hm ⊢
      rw [List.erase_of_not_mem hm, List.eraseIdx_of_length_le (Nat.le_refl _), List.take_of_length_le (by omega)]
    · rw [if_neg c2]
      have hl : r' + 1 ≤ S.length := by
        rw [List.length_take] at c2
        omega
      have lt : (S.take (r' + 1)).length = r' + 1 := by rw [List.length_take]; omega
      rw [lt, Nat.add_sub_cancel]
      refine List.ext_getElem? fun i => ?_
      rw [List.getElem?_eraseIdx, List.getElem?_take, List.getElem?_take, List.getElem?_take]
      by_cases d1 : i < r'
      · rw [if_pos d1, if_pos (by omega), if_pos d1]
        by_cases hs : x ∈ S
        · have ge : r' + 1 ≤ S.idxOf x := by
            rcases Nat.lt_or_ge (S.idxOf x) (r' + 1) with z | z
            · refine absurd (List.mem_iff_getElem?.mpr ⟨S.idxOf x, ?_⟩) hm
              have il := (ix_lt S x).mpr hs
              rw [List.getElem?_take, if_pos z, List.getElem?_eq_getElem il]
              congr 1
              exact List.getElem_idxOf il
            · exact z
          rw [List.erase_eq_eraseIdx_of_idxOf rfl, List.getElem?_eraseIdx, if_pos (by omega)]
        · rw [List.erase_of_not_mem hs]
      · rw [if_neg d1, if_neg (by omega), if_neg d1]
theorem meS_1 (xs : List Int32) : ∀ k, k ≤ 100 → (meS xs k).1.length ≤ k ∧ (∀ j, j < k → (meS xs (j + 1)).1 = xs.getD j (-1) :: (meS xs j).1.erase (xs.getD j (-1)))
  | 0, _ => ⟨Nat.le_refl _, fun j hj => by omega⟩
  | k + 1, hk => by
    obtain ⟨i1, i2⟩ := meS_1 xs k (by omega)
    have le : ((meS xs k).1.erase (xs.getD k (-1))).length ≤ k := Nat.le_trans List.length_erase_le i1
    have e : (meS xs (k + 1)).1 = xs.getD k (-1) :: (meS xs k).1.erase (xs.getD k (-1)) := by
      rw [meS_s]
      show ins0 _ _ 100 = _
      unfold ins0
      rw [List.take_of_length_le (by rw [List.length_cons]; omega)]
    refine ⟨?_, fun j hj => ?_⟩
    · rw [e, List.length_cons]
      omega
    · by_cases c : j = k
      · rw [c]
        exact e
      · exact i2 j (by omega)
/-- a depth below the room is a hit -/
theorem pl_hit {S : List Int32} {r : Nat} (hS : S.length ≤ 100) (hr : r ≤ 100) (x : Int32) : plP (nI r) (rw_fnd S x) = true ↔ (S.take r).idxOf x < (S.take r).length := by
  rw [ix_lt]
  unfold plP rw_fnd
  rw [decide_eq_true_eq]
  by_cases hs : x ∈ S
  · have il := (ix_lt S x).mpr hs
    rw [if_pos hs]
    have n1 : nI (S.idxOf x) ≠ -1 := nI_ne1 (by omega)
    rw [nI_ltI (by omega) (by omega)]
    refine ⟨fun z => ?_, fun z => ⟨n1, ?_⟩⟩
    · refine List.mem_iff_getElem?.mpr ⟨S.idxOf x, ?_⟩
      rw [List.getElem?_take, if_pos z.2, List.getElem?_eq_getElem il]
      congr 1
      exact List.getElem_idxOf il
    · have : S = S.take r ++ S.drop r := (List.take_append_drop _ _).symm
      rw [show S.idxOf x = (S.take r ++ S.drop r).idxOf x from congrArg (fun z => List.idxOf x z) this, List.idxOf_append, if_pos z]
      have := (ix_lt (S.take r) x).mpr z
      rw [List.length_take] at this
      omega
  · rw [if_neg hs]
    exact ⟨fun z => absurd rfl z.1, fun z => absurd (List.mem_of_mem_take z) hs⟩
set_option maxHeartbeats 1000000 in
theorem c_M_plainBy (C : mm_ h m o A K bs ws) (l5 : (li A 5).length ≤ 100) {r : Nat} (r1 : 1 ≤ r) (r2 : r ≤ 64) (d : Nat) : PM (d + 2) 233 [.ref m, .int (nI r)] h (fun v h' => v = some (.int (plnF A (nI r))) ∧ mm_ h' m o A K bs ws ∧ frM h h' m) := by
  have H0 := C.ob
  unfold mO at H0
  obtain ⟨rf, hr⟩ := C.rw
  refine en_X12_plainBy rfl rfl ?_
  -- the state ahead of ask k: the row's first ones
  have loop : ∀ z k, (li A 5).length - k = z → k ≤ (li A 5).length → ∀ (g : pmH) (gf : Nat → Int32) (x5 x6 : Option Value), g[m + 9]? = some (.inl (0, 66, .inl gf)) → (∀ j, j < ((meS (li A 5) k).1.take r).length → gf j = ((meS (li A 5) k).1.take r).getD j (-1)) → g.length = h.length → fr1 h g (m + 9) → W_X12_plainBy (d + 1) (h.length + 0) 0 (fun v h' => v = some (.int (plnF A (nI r))) ∧ mm_ h' m o A K bs ws ∧ frM h h' m) 7 [some (.ref m), some (.int (nI r)), some (.int (nI ((meS (li A 5) k).1.take r).length)), some (.int (nI ((meS (li A 5) k).2.countP (plP (nI r))))), some (.int (nI k)), x5, x6] [] g 0 := by
    intro z
    induction z with
    | zero =>
      intro k hz hk g gf x5 x6 q1 q2 q3 q4
      have : k = (li A 5).length := by omega
      subst this
      obtain ⟨C1, F1⟩ := C.ur ⟨gf, q1⟩ q4
      have H1 := C1.ob
      unfold mO at H1
      have e1 : ¬ nI (li A 5).length < nI (li A 5).length := nI_nlt (Nat.le_refl _) (by omega)
      rw [w_X12_plainBy_7]
      simp only [w_X12_plainBy_9, w_X12_plainBy_10, pm_1i_c, pm_2i_c, pm_1l_c, pm_2l_c, pm_1a_c, pm_ia_c, pm_iia_c, pm_va_c, pm_cp_c, pm_k0_c, pm_k1_c, pm_k2_c, pm_k3_c, pm_s1_c, pm_s2_c, pm_s3_c, pm_s4_c, pm_ri_c, pm_ra_c, pm_rn_c, pm_rk_i, pm_rk_z, pm_rk_a, pm_vk_i, pm_vk_z, pm_vk_a, pm_cti, pm_ctr, pm_ldi_z, pm_ldi_s, pm_lda_z, pm_lda_s, pm_cat_n, pm_cat_i, pm_cat_r, pm_cat_l, pm_obj, pm_arr, pm_opt, pm_ird, pm_aln, List.getElem?_cons_zero, List.getElem?_cons_succ, List.set_cons_zero, List.set_cons_succ, List.length_cons, List.length_nil, List.length_set, true_and, and_true, Nat.add_zero, Nat.zero_add, Nat.le_refl, Nat.reduceAdd, Nat.reduceLT, Nat.reduceLeDiff, Nat.zero_le, not_false_eq_true, not_true_eq_false, false_implies, implies_true, true_implies, Nat.zero_lt_succ, Nat.lt_add_one, H1, q3]
      refine PM_use (c_M_pastMany C1.md d) ?_
      rintro v g2 k2 ⟨rfl, rfl⟩
      show W_X12_plainBy _ _ _ _ _ _ _ _ _
      simp only [w_X12_plainBy_13, w_X12_plainBy_124, w_X12_plainBy_125, pm_1i_c, pm_2i_c, pm_1l_c, pm_2l_c, pm_1a_c, pm_ia_c, pm_iia_c, pm_va_c, pm_cp_c, pm_k0_c, pm_k1_c, pm_k2_c, pm_k3_c, pm_s1_c, pm_s2_c, pm_s3_c, pm_s4_c, pm_ri_c, pm_ra_c, pm_rn_c, pm_rk_i, pm_rk_z, pm_rk_a, pm_vk_i, pm_vk_z, pm_vk_a, pm_cti, pm_ctr, pm_ldi_z, pm_ldi_s, pm_lda_z, pm_lda_s, pm_cat_n, pm_cat_i, pm_cat_r, pm_cat_l, pm_obj, pm_arr, pm_opt, pm_ird, pm_aln, List.getElem?_cons_zero, List.getElem?_cons_succ, List.set_cons_zero, List.set_cons_succ, List.length_cons, List.length_nil, List.length_set, true_and, and_true, Nat.add_zero, Nat.zero_add, Nat.le_refl, Nat.reduceAdd, Nat.reduceLT, Nat.reduceLeDiff, Nat.zero_le, not_false_eq_true, not_true_eq_false, false_implies, implies_true, true_implies, Nat.zero_lt_succ, Nat.lt_add_one, pm_tl_n, pm_tl_s, sc_uL, e1, q3]
      exact ⟨rfl, C1, F1⟩
    | succ z ih =>
      intro k hz hk g gf x5 x6 q1 q2 q3 q4
      have hk2 : k < (li A 5).length := by omega
      obtain ⟨m1, m2⟩ := meS_1 (li A 5) (k + 1) (by omega)
      obtain ⟨m3, -⟩ := meS_1 (li A 5) k (by omega)
      have mE := m2 k (by omega)
      obtain ⟨x, hx⟩ : ∃ x, x = (li A 5).getD k (-1) := ⟨_, rfl⟩
      obtain ⟨S, hS⟩ : ∃ S, S = (meS (li A 5) k).1 := ⟨_, rfl⟩
      obtain ⟨L, hL⟩ : ∃ L, L = S.take r := ⟨_, rfl⟩
      rw [← hS] at q2 mE m3
      rw [← hx] at mE
      rw [← hL] at q2
      have eL : (meS (li A 5) (k + 1)).1.take r = plL L r x := by
        rw [mE, hL, pl_take r1]
      have lL : L.length ≤ r := by rw [hL, List.length_take]; omega
      obtain ⟨b1, b2, b3, b4⟩ := plL_len r1 lL x
      have eH : (meS (li A 5) (k + 1)).2.countP (plP (nI r)) = (meS (li A 5) k).2.countP (plP (nI r)) + if L.idxOf x < L.length then 1 else 0 := by
        have e : (meS (li A 5) (k + 1)).2 = (meS (li A 5) k).2 ++ [rw_fnd S x] := by rw [meS_s, ← hS, ← hx]
        rw [e, List.countP_append, List.countP_singleton]
        congr 1
        have ph := pl_hit (S := S) (r := r) (by omega) (by omega) x
        rw [← hL] at ph
        by_cases c : L.idxOf x < L.length
        · rw [if_pos c, if_pos (ph.mpr c)]
        · rw [if_neg c, if_neg (fun y => c (ph.mp y))]
      have cH : (meS (li A 5) k).2.countP (plP (nI r)) ≤ 100 := by
        have := List.countP_le_length (p := plP (nI r)) (l := (meS (li A 5) k).2)
        rw [meS_len] at this
        omega
      obtain ⟨C1, F1⟩ := C.ur ⟨gf, q1⟩ q4
      have H1 := C1.ob
      unfold mO at H1
      have e1 : nI k < nI (li A 5).length := nI_lt hk2 (by omega)
      have N := ih (k + 1) (by omega) (by omega)
      rw [eL, eH] at N
      rw [← hS, ← hL]
      -- the shift, and the next ask
      have shift : ∀ (at_ : Nat) (g2 : pmH) (hits : Nat) (many : Nat) (g2f : Nat → Int32), at_ = plA_ L r x → hits = (meS (li A 5) k).2.countP (plP (nI r)) + (if L.idxOf x < L.length then 1 else 0) → many = (plL L r x).length → ∀ j, j ≤ at_ → g2[m + 9]? = some (.inl (0, 66, .inl g2f)) → (∀ i, i < L.length + 1 → g2f i = if j < i ∧ i ≤ at_ then gf (i - 1) else gf i) → g2.length = h.length → fr1 h g2 (m + 9) → W_X12_plainBy (d + 1) h.length 0 (fun v h' => v = some (.int (plnF A (nI r))) ∧ mm_ h' m o A K bs ws ∧ frM h h' m) 79 [some (.ref m), some (.int (nI r)), some (.int (nI many)), some (.int (nI hits)), some (.int (nI k)), some (.int (nI at_)), some (.int (nI j))] [] g2 0 := by
        intro at_ g2 hits many g2f ha hh hmn j
        induction j generalizing g2 g2f with
        | zero =>
          intro hj p1 p2 p3 p4
          obtain ⟨C2, F2⟩ := C.ur ⟨g2f, p1⟩ p4
          have H2 := C2.ob
          unfold mO at H2
          have w0 : vp_in 0 66 := vp_in_nI (n := 0) (by omega) (by omega)
          have y0 : (0 : Int32).toNatClampNeg = 0 := rfl
          rw [w_X12_plainBy_79]
          simp only [w_X12_plainBy_81, w_X12_plainBy_106, w_X12_plainBy_107, w_X12_plainBy_110, w_X12_plainBy_111, w_X12_plainBy_112, w_X12_plainBy_114, pm_1i_c, pm_2i_c, pm_1l_c, pm_2l_c, pm_1a_c, pm_ia_c, pm_iia_c, pm_va_c, pm_cp_c, pm_k0_c, pm_k1_c, pm_k2_c, pm_k3_c, pm_s1_c, pm_s2_c, pm_s3_c, pm_s4_c, pm_ri_c, pm_ra_c, pm_rn_c, pm_rk_i, pm_rk_z, pm_rk_a, pm_vk_i, pm_vk_z, pm_vk_a, pm_cti, pm_ctr, pm_ldi_z, pm_ldi_s, pm_lda_z, pm_lda_s, pm_cat_n, pm_cat_i, pm_cat_r, pm_cat_l, pm_obj, pm_arr, pm_opt, pm_ird, pm_aln, List.getElem?_cons_zero, List.getElem?_cons_succ, List.set_cons_zero, List.set_cons_succ, List.length_cons, List.length_nil, List.length_set, true_and, and_true, Nat.add_zero, Nat.zero_add, Nat.le_refl, Nat.reduceAdd, Nat.reduceLT, Nat.reduceLeDiff, Nat.zero_le, not_false_eq_true, not_true_eq_false, false_implies, implies_true, true_implies, Nat.zero_lt_succ, Nat.lt_add_one, show ¬ (0 : Int32) < nI 0 by decide, H2, p3]
          refine PM_use (c_M_pastAt C2.md hk2 d) ?_
          rintro v g3 k3 ⟨rfl, rfl⟩
          rw [← hx]
          show W_X12_plainBy _ _ _ _ _ _ _ _ _
          simp only [w_X12_plainBy_117, w_X12_plainBy_118, w_X12_plainBy_121, pm_1i_c, pm_2i_c, pm_1l_c, pm_2l_c, pm_1a_c, pm_ia_c, pm_iia_c, pm_va_c, pm_cp_c, pm_k0_c, pm_k1_c, pm_k2_c, pm_k3_c, pm_s1_c, pm_s2_c, pm_s3_c, pm_s4_c, pm_ri_c, pm_ra_c, pm_rn_c, pm_rk_i, pm_rk_z, pm_rk_a, pm_vk_i, pm_vk_z, pm_vk_a, pm_cti, pm_ctr, pm_ldi_z, pm_ldi_s, pm_lda_z, pm_lda_s, pm_cat_n, pm_cat_i, pm_cat_r, pm_cat_l, pm_obj, pm_arr, pm_opt, pm_ird, pm_aln, List.getElem?_cons_zero, List.getElem?_cons_succ, List.set_cons_zero, List.set_cons_succ, List.length_cons, List.length_nil, List.length_set, true_and, and_true, Nat.add_zero, Nat.zero_add, Nat.le_refl, Nat.reduceAdd, Nat.reduceLT, Nat.reduceLeDiff, Nat.zero_le, not_false_eq_true, not_true_eq_false, false_implies, implies_true, true_implies, Nat.zero_lt_succ, Nat.lt_add_one, pm_tl_n, pm_tl_s, sc_uL, p1, w0, y0, p3, nI_1]
          rw [hh, hmn]
          refine N _ (upd g2f 0 x) _ _ (by rw [hset_s, p1]; rfl) (fun i hi => ?_) (by rw [List.length_set]; exact p3) (p4.tr (fun i hi => hset_n (Ne.symm hi)))
          cases i with
          | zero => exact upd_e
          | succ i =>
            rw [b4] at hi
            have hi2 : i + 1 < L.length + 1 := by
              split at hi <;> omega
            rw [upd_n (by omega), p2 (i + 1) hi2]
            unfold plL
            rw [getD_cons_s, List.getD_eq_getElem?_getD, List.getElem?_eraseIdx]
            by_cases c : i < at_
            · rw [if_pos ⟨by omega, by omega⟩, if_pos (by omega), ← List.getD_eq_getElem?_getD]
              exact q2 i (by omega)
            · rw [if_neg (by omega), if_neg (by omega), ← List.getD_eq_getElem?_getD]
              refine q2 (i + 1) ?_
              split at hi <;> omega
        | succ j ihj =>
          intro hj p1 p2 p3 p4
          have hm : g2[m]? = h[m]? := p4 m (by omega)
          have e5 : (0 : Int32) < nI (j + 1) := nI_lt (a := 0) (by omega) (by omega)
          have vj : vp_in (nI (j + 1)) 66 := vp_in_nI (by omega) (by omega)
          have cj : (nI (j + 1)).toNatClampNeg = j + 1 := nI_clamp (by omega)
          have ej : nI (j + 1) - 1 = nI j := nI_pred j
          have ej2 : nI (j + 1) + -1 = nI j := by rw [nIinc, nI_pred]
          have vj2 : vp_in (nI j) 66 := vp_in_nI (by omega) (by omega)
          have cj2 : (nI j).toNatClampNeg = j := nI_clamp (by omega)
          rw [w_X12_plainBy_79]
          simp only [w_X12_plainBy_81, w_X12_plainBy_84, w_X12_plainBy_85, w_X12_plainBy_88, w_X12_plainBy_90, w_X12_plainBy_91, w_X12_plainBy_94, w_X12_plainBy_96, w_X12_plainBy_97, w_X12_plainBy_98, w_X12_plainBy_99, w_X12_plainBy_100, w_X12_plainBy_103, pm_1i_c, pm_2i_c, pm_1l_c, pm_2l_c, pm_1a_c, pm_ia_c, pm_iia_c, pm_va_c, pm_cp_c, pm_k0_c, pm_k1_c, pm_k2_c, pm_k3_c, pm_s1_c, pm_s2_c, pm_s3_c, pm_s4_c, pm_ri_c, pm_ra_c, pm_rn_c, pm_rk_i, pm_rk_z, pm_rk_a, pm_vk_i, pm_vk_z, pm_vk_a, pm_cti, pm_ctr, pm_ldi_z, pm_ldi_s, pm_lda_z, pm_lda_s, pm_cat_n, pm_cat_i, pm_cat_r, pm_cat_l, pm_obj, pm_arr, pm_opt, pm_ird, pm_aln, List.getElem?_cons_zero, List.getElem?_cons_succ, List.set_cons_zero, List.set_cons_succ, List.length_cons, List.length_nil, List.length_set, true_and, and_true, Nat.add_zero, Nat.zero_add, Nat.le_refl, Nat.reduceAdd, Nat.reduceLT, Nat.reduceLeDiff, Nat.zero_le, not_false_eq_true, not_true_eq_false, false_implies, implies_true, true_implies, Nat.zero_lt_succ, Nat.lt_add_one, e5, hm, H0, p1, vj, cj, ej, vj2, cj2, ej2]
          refine ihj _ _ (by omega) (by rw [hset_s, p1]; rfl) (fun i hi => ?_) (by rw [List.length_set]; exact p3) (p4.tr (fun i hi => hset_n (Ne.symm hi)))
          by_cases c : i = j + 1
          · rw [c, upd_e, p2 j (by omega), if_neg (by omega), if_pos ⟨by omega, by omega⟩]
            congr 1
          · rw [upd_n c, p2 i hi]
            by_cases c2 : j + 1 < i ∧ i ≤ at_
            · rw [if_pos c2, if_pos (by omega)]
            · rw [if_neg c2, if_neg (by omega)]
      -- where the key lies
      have seek : ∀ y j, L.length - j = y → j ≤ L.idxOf x → (∀ x6 : Option Value, W_X12_plainBy (d + 1) h.length 0 (fun v h' => v = some (.int (plnF A (nI r))) ∧ mm_ h' m o A K bs ws ∧ frM h h' m) 47 [some (.ref m), some (.int (nI r)), some (.int (nI L.length)), some (.int (nI ((meS (li A 5) k).2.countP (plP (nI r))))), some (.int (nI k)), some (.int (nI (L.idxOf x))), x6] [] g 0) → ∀ x6 : Option Value, W_X12_plainBy (d + 1) h.length 0 (fun v h' => v = some (.int (plnF A (nI r))) ∧ mm_ h' m o A K bs ws ∧ frM h h' m) 19 [some (.ref m), some (.int (nI r)), some (.int (nI L.length)), some (.int (nI ((meS (li A 5) k).2.countP (plP (nI r))))), some (.int (nI k)), some (.int (nI j)), x6] [] g 0 := by
        intro y
        induction y with
        | zero =>
          intro j hy hj kont x6
          have il := ix_le L x
          have : j = L.length := by omega
          subst this
          have ej : L.idxOf x = L.length := by omega
          have K1 := kont x6
          rw [ej] at K1
          rw [w_X12_plainBy_19]
          simp only [w_X12_plainBy_21, w_X12_plainBy_22, pm_1i_c, pm_2i_c, pm_1l_c, pm_2l_c, pm_1a_c, pm_ia_c, pm_iia_c, pm_va_c, pm_cp_c, pm_k0_c, pm_k1_c, pm_k2_c, pm_k3_c, pm_s1_c, pm_s2_c, pm_s3_c, pm_s4_c, pm_ri_c, pm_ra_c, pm_rn_c, pm_rk_i, pm_rk_z, pm_rk_a, pm_vk_i, pm_vk_z, pm_vk_a, pm_cti, pm_ctr, pm_ldi_z, pm_ldi_s, pm_lda_z, pm_lda_s, pm_cat_n, pm_cat_i, pm_cat_r, pm_cat_l, pm_obj, pm_arr, pm_opt, pm_ird, pm_aln, List.getElem?_cons_zero, List.getElem?_cons_succ, List.set_cons_zero, List.set_cons_succ, List.length_cons, List.length_nil, List.length_set, true_and, and_true, Nat.add_zero, Nat.zero_add, Nat.le_refl, Nat.reduceAdd, Nat.reduceLT, Nat.reduceLeDiff, Nat.zero_le, not_false_eq_true, not_true_eq_false, false_implies, implies_true, true_implies, Nat.zero_lt_succ, Nat.lt_add_one, show ¬ nI L.length < nI L.length from nI_nlt (Nat.le_refl _) (by omega)]
          exact K1
        | succ y ihy =>
          intro j hy hj kont x6
          have hj2 : j < L.length := by omega
          have vj : vp_in (nI j) 66 := vp_in_nI (by omega) (by omega)
          have cj : (nI j).toNatClampNeg = j := nI_clamp (by omega)
          have gj := q2 j hj2
          rw [w_X12_plainBy_19]
          simp only [w_X12_plainBy_21, w_X12_plainBy_22, w_X12_plainBy_25, w_X12_plainBy_26, w_X12_plainBy_29, w_X12_plainBy_31, w_X12_plainBy_32, w_X12_plainBy_33, w_X12_plainBy_35, pm_1i_c, pm_2i_c, pm_1l_c, pm_2l_c, pm_1a_c, pm_ia_c, pm_iia_c, pm_va_c, pm_cp_c, pm_k0_c, pm_k1_c, pm_k2_c, pm_k3_c, pm_s1_c, pm_s2_c, pm_s3_c, pm_s4_c, pm_ri_c, pm_ra_c, pm_rn_c, pm_rk_i, pm_rk_z, pm_rk_a, pm_vk_i, pm_vk_z, pm_vk_a, pm_cti, pm_ctr, pm_ldi_z, pm_ldi_s, pm_lda_z, pm_lda_s, pm_cat_n, pm_cat_i, pm_cat_r, pm_cat_l, pm_obj, pm_arr, pm_opt, pm_ird, pm_aln, List.getElem?_cons_zero, List.getElem?_cons_succ, List.set_cons_zero, List.set_cons_succ, List.length_cons, List.length_nil, List.length_set, true_and, and_true, Nat.add_zero, Nat.zero_add, Nat.le_refl, Nat.reduceAdd, Nat.reduceLT, Nat.reduceLeDiff, Nat.zero_le, not_false_eq_true, not_true_eq_false, false_implies, implies_true, true_implies, Nat.zero_lt_succ, Nat.lt_add_one, show nI j < nI L.length from nI_lt hj2 (by omega), H1, q1, vj, cj, gj, q3]
          refine PM_use (c_M_pastAt C1.md hk2 d) ?_
          rintro v g3 k3 ⟨rfl, rfl⟩
          rw [← hx]
          by_cases c : L.getD j (-1) = x
          · have ej : L.idxOf x = j := by
              have hge : L[j]'hj2 = x := by
                rw [List.getD_eq_getElem?_getD, List.getElem?_eq_getElem hj2] at c
                exact c
              rcases Nat.lt_or_ge j (L.idxOf x) with z | z
              · exact absurd (List.not_of_lt_findIdx (p := (· == x)) z) (by simp [hge])
              · omega
            have K1 := kont x6
            rw [ej] at K1
            show W_X12_plainBy _ _ _ _ _ _ _ _ _
            simp only [w_X12_plainBy_38, pm_1i_c, pm_2i_c, pm_1l_c, pm_2l_c, pm_1a_c, pm_ia_c, pm_iia_c, pm_va_c, pm_cp_c, pm_k0_c, pm_k1_c, pm_k2_c, pm_k3_c, pm_s1_c, pm_s2_c, pm_s3_c, pm_s4_c, pm_ri_c, pm_ra_c, pm_rn_c, pm_rk_i, pm_rk_z, pm_rk_a, pm_vk_i, pm_vk_z, pm_vk_a, pm_cti, pm_ctr, pm_ldi_z, pm_ldi_s, pm_lda_z, pm_lda_s, pm_cat_n, pm_cat_i, pm_cat_r, pm_cat_l, pm_obj, pm_arr, pm_opt, pm_ird, pm_aln, List.getElem?_cons_zero, List.getElem?_cons_succ, List.set_cons_zero, List.set_cons_succ, List.length_cons, List.length_nil, List.length_set, true_and, and_true, Nat.add_zero, Nat.zero_add, Nat.le_refl, Nat.reduceAdd, Nat.reduceLT, Nat.reduceLeDiff, Nat.zero_le, not_false_eq_true, not_true_eq_false, false_implies, implies_true, true_implies, Nat.zero_lt_succ, Nat.lt_add_one, pm_tl_n, pm_tl_s, sc_uL, c]
            exact K1
          · have ne : j ≠ L.idxOf x := fun e => by
              have il : L.idxOf x < L.length := by omega
              refine c ?_
              rw [e, List.getD_eq_getElem?_getD, List.getElem?_eq_getElem il]
              exact List.getElem_idxOf il
            show W_X12_plainBy _ _ _ _ _ _ _ _ _
            simp only [w_X12_plainBy_38, w_X12_plainBy_41, w_X12_plainBy_44, pm_1i_c, pm_2i_c, pm_1l_c, pm_2l_c, pm_1a_c, pm_ia_c, pm_iia_c, pm_va_c, pm_cp_c, pm_k0_c, pm_k1_c, pm_k2_c, pm_k3_c, pm_s1_c, pm_s2_c, pm_s3_c, pm_s4_c, pm_ri_c, pm_ra_c, pm_rn_c, pm_rk_i, pm_rk_z, pm_rk_a, pm_vk_i, pm_vk_z, pm_vk_a, pm_cti, pm_ctr, pm_ldi_z, pm_ldi_s, pm_lda_z, pm_lda_s, pm_cat_n, pm_cat_i, pm_cat_r, pm_cat_l, pm_obj, pm_arr, pm_opt, pm_ird, pm_aln, List.getElem?_cons_zero, List.getElem?_cons_succ, List.set_cons_zero, List.set_cons_succ, List.length_cons, List.length_nil, List.length_set, true_and, and_true, Nat.add_zero, Nat.zero_add, Nat.le_refl, Nat.reduceAdd, Nat.reduceLT, Nat.reduceLeDiff, Nat.zero_le, not_false_eq_true, not_true_eq_false, false_implies, implies_true, true_implies, Nat.zero_lt_succ, Nat.lt_add_one, pm_tl_n, pm_tl_s, sc_uL, c, nI_1]
            exact ihy (j + 1) (by omega) (by omega) kont x6
      rw [w_X12_plainBy_7]
      simp only [w_X12_plainBy_9, w_X12_plainBy_10, pm_1i_c, pm_2i_c, pm_1l_c, pm_2l_c, pm_1a_c, pm_ia_c, pm_iia_c, pm_va_c, pm_cp_c, pm_k0_c, pm_k1_c, pm_k2_c, pm_k3_c, pm_s1_c, pm_s2_c, pm_s3_c, pm_s4_c, pm_ri_c, pm_ra_c, pm_rn_c, pm_rk_i, pm_rk_z, pm_rk_a, pm_vk_i, pm_vk_z, pm_vk_a, pm_cti, pm_ctr, pm_ldi_z, pm_ldi_s, pm_lda_z, pm_lda_s, pm_cat_n, pm_cat_i, pm_cat_r, pm_cat_l, pm_obj, pm_arr, pm_opt, pm_ird, pm_aln, List.getElem?_cons_zero, List.getElem?_cons_succ, List.set_cons_zero, List.set_cons_succ, List.length_cons, List.length_nil, List.length_set, true_and, and_true, Nat.add_zero, Nat.zero_add, Nat.le_refl, Nat.reduceAdd, Nat.reduceLT, Nat.reduceLeDiff, Nat.zero_le, not_false_eq_true, not_true_eq_false, false_implies, implies_true, true_implies, Nat.zero_lt_succ, Nat.lt_add_one, H1, q3]
      refine PM_use (c_M_pastMany C1.md d) ?_
      rintro v g2 k2 ⟨rfl, rfl⟩
      show W_X12_plainBy _ _ _ _ _ _ _ _ _
      simp only [w_X12_plainBy_13, w_X12_plainBy_16, w_X12_plainBy_17, pm_1i_c, pm_2i_c, pm_1l_c, pm_2l_c, pm_1a_c, pm_ia_c, pm_iia_c, pm_va_c, pm_cp_c, pm_k0_c, pm_k1_c, pm_k2_c, pm_k3_c, pm_s1_c, pm_s2_c, pm_s3_c, pm_s4_c, pm_ri_c, pm_ra_c, pm_rn_c, pm_rk_i, pm_rk_z, pm_rk_a, pm_vk_i, pm_vk_z, pm_vk_a, pm_cti, pm_ctr, pm_ldi_z, pm_ldi_s, pm_lda_z, pm_lda_s, pm_cat_n, pm_cat_i, pm_cat_r, pm_cat_l, pm_obj, pm_arr, pm_opt, pm_ird, pm_aln, List.getElem?_cons_zero, List.getElem?_cons_succ, List.set_cons_zero, List.set_cons_succ, List.length_cons, List.length_nil, List.length_set, true_and, and_true, Nat.add_zero, Nat.zero_add, Nat.le_refl, Nat.reduceAdd, Nat.reduceLT, Nat.reduceLeDiff, Nat.zero_le, not_false_eq_true, not_true_eq_false, false_implies, implies_true, true_implies, Nat.zero_lt_succ, Nat.lt_add_one, pm_tl_n, pm_tl_s, sc_uL, e1, q3]
      refine seek L.length 0 (by omega) (Nat.zero_le _) (fun x6 => ?_) x6
      have il := ix_le L x
      by_cases c1 : L.idxOf x < L.length
      · have c1' : nI (L.idxOf x) < nI L.length := nI_lt c1 (by omega)
        have ea : L.idxOf x = plA_ L r x := (if_pos c1).symm
        have bm : L.length = (plL L r x).length := by rw [b4, if_pos (by omega)]
        simp only [w_X12_plainBy_47, w_X12_plainBy_49, w_X12_plainBy_50, w_X12_plainBy_53, w_X12_plainBy_56, w_X12_plainBy_75, w_X12_plainBy_77, pm_1i_c, pm_2i_c, pm_1l_c, pm_2l_c, pm_1a_c, pm_ia_c, pm_iia_c, pm_va_c, pm_cp_c, pm_k0_c, pm_k1_c, pm_k2_c, pm_k3_c, pm_s1_c, pm_s2_c, pm_s3_c, pm_s4_c, pm_ri_c, pm_ra_c, pm_rn_c, pm_rk_i, pm_rk_z, pm_rk_a, pm_vk_i, pm_vk_z, pm_vk_a, pm_cti, pm_ctr, pm_ldi_z, pm_ldi_s, pm_lda_z, pm_lda_s, pm_cat_n, pm_cat_i, pm_cat_r, pm_cat_l, pm_obj, pm_arr, pm_opt, pm_ird, pm_aln, List.getElem?_cons_zero, List.getElem?_cons_succ, List.set_cons_zero, List.set_cons_succ, List.length_cons, List.length_nil, List.length_set, true_and, and_true, Nat.add_zero, Nat.zero_add, Nat.le_refl, Nat.reduceAdd, Nat.reduceLT, Nat.reduceLeDiff, Nat.zero_le, not_false_eq_true, not_true_eq_false, false_implies, implies_true, true_implies, Nat.zero_lt_succ, Nat.lt_add_one, c1', nI_1]
        exact shift (L.idxOf x) g2 _ _ gf ea (by rw [if_pos c1]) bm (L.idxOf x) (Nat.le_refl _) q1 (fun i hi => by rw [if_neg (by omega)]) q3 q4
      · have c1' : ¬ nI (L.idxOf x) < nI L.length := nI_nlt (by omega) (by omega)
        have ei : L.idxOf x = L.length := by omega
        by_cases c2 : L.length < r
        · have c2' : nI L.length < nI r := nI_lt c2 (by omega)
          have ea : L.idxOf x = plA_ L r x := by
            unfold plA_
            rw [if_neg c1, if_pos c2, ei]
          have bm : L.length + 1 = (plL L r x).length := by rw [b4, if_neg (by omega)]
          simp only [w_X12_plainBy_47, w_X12_plainBy_49, w_X12_plainBy_50, w_X12_plainBy_59, w_X12_plainBy_60, w_X12_plainBy_61, w_X12_plainBy_64, w_X12_plainBy_67, w_X12_plainBy_75, w_X12_plainBy_77, pm_1i_c, pm_2i_c, pm_1l_c, pm_2l_c, pm_1a_c, pm_ia_c, pm_iia_c, pm_va_c, pm_cp_c, pm_k0_c, pm_k1_c, pm_k2_c, pm_k3_c, pm_s1_c, pm_s2_c, pm_s3_c, pm_s4_c, pm_ri_c, pm_ra_c, pm_rn_c, pm_rk_i, pm_rk_z, pm_rk_a, pm_vk_i, pm_vk_z, pm_vk_a, pm_cti, pm_ctr, pm_ldi_z, pm_ldi_s, pm_lda_z, pm_lda_s, pm_cat_n, pm_cat_i, pm_cat_r, pm_cat_l, pm_obj, pm_arr, pm_opt, pm_ird, pm_aln, List.getElem?_cons_zero, List.getElem?_cons_succ, List.set_cons_zero, List.set_cons_succ, List.length_cons, List.length_nil, List.length_set, true_and, and_true, Nat.add_zero, Nat.zero_add, Nat.le_refl, Nat.reduceAdd, Nat.reduceLT, Nat.reduceLeDiff, Nat.zero_le, not_false_eq_true, not_true_eq_false, false_implies, implies_true, true_implies, Nat.zero_lt_succ, Nat.lt_add_one, c1', c2', nI_1]
          exact shift (L.idxOf x) g2 _ _ gf ea (by rw [if_neg c1, Nat.add_zero]) bm (L.idxOf x) (Nat.le_refl _) q1 (fun i hi => by rw [if_neg (by omega)]) q3 q4
        · have c2' : ¬ nI L.length < nI r := nI_nlt (by omega) (by omega)
          have ea : L.length - 1 = plA_ L r x := by
            unfold plA_
            rw [if_neg c1, if_neg c2]
          have bm : L.length = (plL L r x).length := by rw [b4, if_pos (by omega)]
          have e1' : nI L.length - 1 = nI (L.length - 1) := by rw [nI_one, pk_sub (by omega)]
          simp only [w_X12_plainBy_47, w_X12_plainBy_49, w_X12_plainBy_50, w_X12_plainBy_59, w_X12_plainBy_60, w_X12_plainBy_61, w_X12_plainBy_70, w_X12_plainBy_71, w_X12_plainBy_72, w_X12_plainBy_73, w_X12_plainBy_75, w_X12_plainBy_77, pm_1i_c, pm_2i_c, pm_1l_c, pm_2l_c, pm_1a_c, pm_ia_c, pm_iia_c, pm_va_c, pm_cp_c, pm_k0_c, pm_k1_c, pm_k2_c, pm_k3_c, pm_s1_c, pm_s2_c, pm_s3_c, pm_s4_c, pm_ri_c, pm_ra_c, pm_rn_c, pm_rk_i, pm_rk_z, pm_rk_a, pm_vk_i, pm_vk_z, pm_vk_a, pm_cti, pm_ctr, pm_ldi_z, pm_ldi_s, pm_lda_z, pm_lda_s, pm_cat_n, pm_cat_i, pm_cat_r, pm_cat_l, pm_obj, pm_arr, pm_opt, pm_ird, pm_aln, List.getElem?_cons_zero, List.getElem?_cons_succ, List.set_cons_zero, List.set_cons_succ, List.length_cons, List.length_nil, List.length_set, true_and, and_true, Nat.add_zero, Nat.zero_add, Nat.le_refl, Nat.reduceAdd, Nat.reduceLT, Nat.reduceLeDiff, Nat.zero_le, not_false_eq_true, not_true_eq_false, false_implies, implies_true, true_implies, Nat.zero_lt_succ, Nat.lt_add_one, c1', c2', e1']
          exact shift (L.length - 1) g2 _ _ gf ea (by rw [if_neg c1, Nat.add_zero]) bm (L.length - 1) (Nat.le_refl _) q1 (fun i hi => by rw [if_neg (by omega)]) q3 q4
  simp only [w_X12_plainBy_0, w_X12_plainBy_1, w_X12_plainBy_2, w_X12_plainBy_3, w_X12_plainBy_4, w_X12_plainBy_5, pm_1i_c, pm_2i_c, pm_1l_c, pm_2l_c, pm_1a_c, pm_ia_c, pm_iia_c, pm_va_c, pm_cp_c, pm_k0_c, pm_k1_c, pm_k2_c, pm_k3_c, pm_s1_c, pm_s2_c, pm_s3_c, pm_s4_c, pm_ri_c, pm_ra_c, pm_rn_c, pm_rk_i, pm_rk_z, pm_rk_a, pm_vk_i, pm_vk_z, pm_vk_a, pm_cti, pm_ctr, pm_ldi_z, pm_ldi_s, pm_lda_z, pm_lda_s, pm_cat_n, pm_cat_i, pm_cat_r, pm_cat_l, pm_obj, pm_arr, pm_opt, pm_ird, pm_aln, List.getElem?_cons_zero, List.getElem?_cons_succ, List.set_cons_zero, List.set_cons_succ, List.length_cons, List.length_nil, List.length_set, true_and, and_true, Nat.add_zero, Nat.zero_add, Nat.le_refl, Nat.reduceAdd, Nat.reduceLT, Nat.reduceLeDiff, Nat.zero_le, not_false_eq_true, not_true_eq_false, false_implies, implies_true, true_implies, Nat.zero_lt_succ, Nat.lt_add_one]
  have m0 : (meS (li A 5) 0).1 = [] := rfl
  have L0 := loop _ 0 rfl (Nat.zero_le _) h rf none none hr (fun j hj => absurd hj (by
    rw [m0, List.take_nil]
    exact Nat.not_lt_zero _)) rfl fr1.rf
  rw [m0, List.take_nil] at L0
  exact L0
theorem rmB_of {x : Int32} (c : rmB x = true) : ∃ n, 1 ≤ n ∧ n ≤ 64 ∧ x = nI n := inB_nI (a := 1) (b := 64) (by omega) (by omega) (v := x) c
theorem c_P_plain (C : mm_ h m o A K bs ws) (l5 : (li A 5).length ≤ 100) (x : Int32) (d : Nat) : PM (d + 3) 234 [.ref m, .int x] h (rq_ h m A K bs ws (o 0) (o 7) (rmB x) (plnF A x)) := by
  have H0 := C.ob
  unfold mO at H0
  obtain ⟨h1, e1, l1, F1, C1, H1⟩ := C.th 0
  have ed : inB x 1 64 = rmB x := rfl
  refine en_X12_plain rfl rfl ?_
  simp only [w_X12_plain_0, w_X12_plain_1, w_X12_plain_2, w_X12_plain_5, w_X12_plain_6, w_X12_plain_7, w_X12_plain_8, w_X12_plain_10, pm_1i_c, pm_2i_c, pm_1l_c, pm_2l_c, pm_1a_c, pm_ia_c, pm_iia_c, pm_va_c, pm_cp_c, pm_k0_c, pm_k1_c, pm_k2_c, pm_k3_c, pm_s1_c, pm_s2_c, pm_s3_c, pm_s4_c, pm_ri_c, pm_ra_c, pm_rn_c, pm_rk_i, pm_rk_z, pm_rk_a, pm_vk_i, pm_vk_z, pm_vk_a, pm_cti, pm_ctr, pm_ldi_z, pm_ldi_s, pm_lda_z, pm_lda_s, pm_cat_n, pm_cat_i, pm_cat_r, pm_cat_l, pm_obj, pm_arr, pm_opt, pm_ird, pm_aln, List.getElem?_cons_zero, List.getElem?_cons_succ, List.set_cons_zero, List.set_cons_succ, List.length_cons, List.length_nil, List.length_set, true_and, and_true, Nat.add_zero, Nat.zero_add, Nat.le_refl, Nat.reduceAdd, Nat.reduceLT, Nat.reduceLeDiff, Nat.zero_le, not_false_eq_true, not_true_eq_false, false_implies, implies_true, true_implies, Nat.zero_lt_succ, Nat.lt_add_one, H0, e1, H1, l1]
  refine PM_use (c_M_in x 1 64 (d + 1)) ?_
  rintro v g1 k1 ⟨rfl, rfl⟩
  rw [ed]
  cases hx : rmB x with
  | false =>
    show W_X12_plain _ _ _ _ _ _ _ _ _
    simp only [w_X12_plain_13, w_X12_plain_16, w_X12_plain_17, w_X12_plain_20, w_X12_plain_21, w_X12_plain_22, pm_1i_c, pm_2i_c, pm_1l_c, pm_2l_c, pm_1a_c, pm_ia_c, pm_iia_c, pm_va_c, pm_cp_c, pm_k0_c, pm_k1_c, pm_k2_c, pm_k3_c, pm_s1_c, pm_s2_c, pm_s3_c, pm_s4_c, pm_ri_c, pm_ra_c, pm_rn_c, pm_rk_i, pm_rk_z, pm_rk_a, pm_vk_i, pm_vk_z, pm_vk_a, pm_cti, pm_ctr, pm_ldi_z, pm_ldi_s, pm_lda_z, pm_lda_s, pm_cat_n, pm_cat_i, pm_cat_r, pm_cat_l, pm_obj, pm_arr, pm_opt, pm_ird, pm_aln, List.getElem?_cons_zero, List.getElem?_cons_succ, List.set_cons_zero, List.set_cons_succ, List.length_cons, List.length_nil, List.length_set, true_and, and_true, Nat.add_zero, Nat.zero_add, Nat.le_refl, Nat.reduceAdd, Nat.reduceLT, Nat.reduceLeDiff, Nat.zero_le, not_false_eq_true, not_true_eq_false, false_implies, implies_true, true_implies, Nat.zero_lt_succ, Nat.lt_add_one, pm_tl_n, pm_tl_s, sc_uL, Bool.false_eq_true, if_false, H1, l1]
    refine PM_use (c_P_throwsIf1 C1 1 (d + 1)) ?_
    rintro v g1 k1 ⟨rfl, K1, K2⟩
    show W_X12_plain _ _ _ _ _ _ _ _ _
    simp only [w_X12_plain_25, w_X12_plain_28, w_X12_plain_29, w_X12_plain_37, pm_1i_c, pm_2i_c, pm_1l_c, pm_2l_c, pm_1a_c, pm_ia_c, pm_iia_c, pm_va_c, pm_cp_c, pm_k0_c, pm_k1_c, pm_k2_c, pm_k3_c, pm_s1_c, pm_s2_c, pm_s3_c, pm_s4_c, pm_ri_c, pm_ra_c, pm_rn_c, pm_rk_i, pm_rk_z, pm_rk_a, pm_vk_i, pm_vk_z, pm_vk_a, pm_cti, pm_ctr, pm_ldi_z, pm_ldi_s, pm_lda_z, pm_lda_s, pm_cat_n, pm_cat_i, pm_cat_r, pm_cat_l, pm_obj, pm_arr, pm_opt, pm_ird, pm_aln, List.getElem?_cons_zero, List.getElem?_cons_succ, List.set_cons_zero, List.set_cons_succ, List.length_cons, List.length_nil, List.length_set, true_and, and_true, Nat.add_zero, Nat.zero_add, Nat.le_refl, Nat.reduceAdd, Nat.reduceLT, Nat.reduceLeDiff, Nat.zero_le, not_false_eq_true, not_true_eq_false, false_implies, implies_true, true_implies, Nat.zero_lt_succ, Nat.lt_add_one, pm_tl_n, pm_tl_s, sc_uL, one0, l1, k1]
    rw [upd_upd] at K1
    exact rq_F (K1.q (F1.tr K2))
  | true =>
    obtain ⟨n, n1, n2, rfl⟩ := rmB_of hx
    show W_X12_plain _ _ _ _ _ _ _ _ _
    simp only [w_X12_plain_13, w_X12_plain_20, w_X12_plain_21, w_X12_plain_22, pm_1i_c, pm_2i_c, pm_1l_c, pm_2l_c, pm_1a_c, pm_ia_c, pm_iia_c, pm_va_c, pm_cp_c, pm_k0_c, pm_k1_c, pm_k2_c, pm_k3_c, pm_s1_c, pm_s2_c, pm_s3_c, pm_s4_c, pm_ri_c, pm_ra_c, pm_rn_c, pm_rk_i, pm_rk_z, pm_rk_a, pm_vk_i, pm_vk_z, pm_vk_a, pm_cti, pm_ctr, pm_ldi_z, pm_ldi_s, pm_lda_z, pm_lda_s, pm_cat_n, pm_cat_i, pm_cat_r, pm_cat_l, pm_obj, pm_arr, pm_opt, pm_ird, pm_aln, List.getElem?_cons_zero, List.getElem?_cons_succ, List.set_cons_zero, List.set_cons_succ, List.length_cons, List.length_nil, List.length_set, true_and, and_true, Nat.add_zero, Nat.zero_add, Nat.le_refl, Nat.reduceAdd, Nat.reduceLT, Nat.reduceLeDiff, Nat.zero_le, not_false_eq_true, not_true_eq_false, false_implies, implies_true, true_implies, Nat.zero_lt_succ, Nat.lt_add_one, pm_tl_n, pm_tl_s, sc_uL, if_true, one0, H1, l1]
    refine PM_use (c_P_throwsIf0 C1 1 (d + 1)) ?_
    rintro v g1 k1 ⟨rfl, rfl⟩
    show W_X12_plain _ _ _ _ _ _ _ _ _
    simp only [w_X12_plain_25, w_X12_plain_32, w_X12_plain_33, w_X12_plain_34, pm_1i_c, pm_2i_c, pm_1l_c, pm_2l_c, pm_1a_c, pm_ia_c, pm_iia_c, pm_va_c, pm_cp_c, pm_k0_c, pm_k1_c, pm_k2_c, pm_k3_c, pm_s1_c, pm_s2_c, pm_s3_c, pm_s4_c, pm_ri_c, pm_ra_c, pm_rn_c, pm_rk_i, pm_rk_z, pm_rk_a, pm_vk_i, pm_vk_z, pm_vk_a, pm_cti, pm_ctr, pm_ldi_z, pm_ldi_s, pm_lda_z, pm_lda_s, pm_cat_n, pm_cat_i, pm_cat_r, pm_cat_l, pm_obj, pm_arr, pm_opt, pm_ird, pm_aln, List.getElem?_cons_zero, List.getElem?_cons_succ, List.set_cons_zero, List.set_cons_succ, List.length_cons, List.length_nil, List.length_set, true_and, and_true, Nat.add_zero, Nat.zero_add, Nat.le_refl, Nat.reduceAdd, Nat.reduceLT, Nat.reduceLeDiff, Nat.zero_le, not_false_eq_true, not_true_eq_false, false_implies, implies_true, true_implies, Nat.zero_lt_succ, Nat.lt_add_one, pm_tl_n, pm_tl_s, sc_uL, H1, l1]
    refine PM_use (c_M_plainBy C1 l5 n1 n2 d) ?_
    rintro v g2 k2 ⟨rfl, K1, K2⟩
    show W_X12_plain _ _ _ _ _ _ _ _ _
    simp only [w_X12_plain_37, pm_1i_c, pm_2i_c, pm_1l_c, pm_2l_c, pm_1a_c, pm_ia_c, pm_iia_c, pm_va_c, pm_cp_c, pm_k0_c, pm_k1_c, pm_k2_c, pm_k3_c, pm_s1_c, pm_s2_c, pm_s3_c, pm_s4_c, pm_ri_c, pm_ra_c, pm_rn_c, pm_rk_i, pm_rk_z, pm_rk_a, pm_vk_i, pm_vk_z, pm_vk_a, pm_cti, pm_ctr, pm_ldi_z, pm_ldi_s, pm_lda_z, pm_lda_s, pm_cat_n, pm_cat_i, pm_cat_r, pm_cat_l, pm_obj, pm_arr, pm_opt, pm_ird, pm_aln, List.getElem?_cons_zero, List.getElem?_cons_succ, List.set_cons_zero, List.set_cons_succ, List.length_cons, List.length_nil, List.length_set, true_and, and_true, Nat.add_zero, Nat.zero_add, Nat.le_refl, Nat.reduceAdd, Nat.reduceLT, Nat.reduceLeDiff, Nat.zero_le, not_false_eq_true, not_true_eq_false, false_implies, implies_true, true_implies, Nat.zero_lt_succ, Nat.lt_add_one, pm_tl_n, pm_tl_s, sc_uL, l1, k2]
    exact rq_T (K1.q (F1.tr K2))
theorem c_P_enough (C : mm_ h m o A K bs ws) (l5 : (li A 5).length ≤ 100) (n : Int32) (d : Nat) : PM (d + 3) 237 [.ref m, .int n] h (rq_ h m A K bs ws (o 0) (o 7) true (enS A n 64 1)) := by
  have H0 := C.ob
  unfold mO at H0
  obtain ⟨h1, e1, l1, F1, C1, H1⟩ := C.th 0
  refine en_X12_enough rfl rfl ?_
  have loop : ∀ j r, r + j = 65 → 1 ≤ r → ∀ (g : pmH), mm_ g m (upd o 1 0) A K bs ws → frM h g m → g.length = h.length → enS A n j r = enS A n 64 1 → W_X12_enough (d + 2) (h.length + 0) 0 (rq_ h m A K bs ws (o 0) (o 7) true (enS A n 64 1)) 7 [some (.ref m), some (.int n), some (.int (nI r))] [] g 0 := by
    intro j
    induction j with
    | zero =>
      intro r hr r1 g M F l e
      have : r = 65 := by omega
      subst this
      rw [w_X12_enough_7]
      simp only [w_X12_enough_8, w_X12_enough_10, w_X12_enough_30, w_X12_enough_31, pm_1i_c, pm_2i_c, pm_1l_c, pm_2l_c, pm_1a_c, pm_ia_c, pm_iia_c, pm_va_c, pm_cp_c, pm_k0_c, pm_k1_c, pm_k2_c, pm_k3_c, pm_s1_c, pm_s2_c, pm_s3_c, pm_s4_c, pm_ri_c, pm_ra_c, pm_rn_c, pm_rk_i, pm_rk_z, pm_rk_a, pm_vk_i, pm_vk_z, pm_vk_a, pm_cti, pm_ctr, pm_ldi_z, pm_ldi_s, pm_lda_z, pm_lda_s, pm_cat_n, pm_cat_i, pm_cat_r, pm_cat_l, pm_obj, pm_arr, pm_opt, pm_ird, pm_aln, List.getElem?_cons_zero, List.getElem?_cons_succ, List.set_cons_zero, List.set_cons_succ, List.length_cons, List.length_nil, List.length_set, true_and, and_true, Nat.add_zero, Nat.zero_add, Nat.le_refl, Nat.reduceAdd, Nat.reduceLT, Nat.reduceLeDiff, Nat.zero_le, not_false_eq_true, not_true_eq_false, false_implies, implies_true, true_implies, Nat.zero_lt_succ, Nat.lt_add_one, show (64 : Int32) < nI 65 by decide, l]
      have e' : enS A n 64 1 = -1 := e.symm
      rw [e']
      exact rq_T (M.q F)
    | succ j ih =>
      intro r hr r1 g M F l e
      rw [enS_s] at e
      have M0 : g[m]? = some (.inr (12, [.ref (m + 1), .ref (m + 2), .ref (m + 3), .int (o 0), .int 0, .ref (m + 4), .int (o 2), .ref (m + 5), .int (o 3), .int (o 4), .int (o 5), .int (o 6), .int (o 7), .int (o 8), .int (o 9), .int (o 10), .ref (m + 6), .ref (m + 7), .ref (m + 8), .int (o 11), .ref (m + 9), .ref (m + 10), .int (o 12)])) := M.1
      have e4 : ¬ (64 : Int32) < nI r := nI_nlt (b := r) (a := 64) (by omega) (by omega)
      rw [w_X12_enough_7]
      simp only [w_X12_enough_8, w_X12_enough_10, w_X12_enough_13, w_X12_enough_14, w_X12_enough_15, pm_1i_c, pm_2i_c, pm_1l_c, pm_2l_c, pm_1a_c, pm_ia_c, pm_iia_c, pm_va_c, pm_cp_c, pm_k0_c, pm_k1_c, pm_k2_c, pm_k3_c, pm_s1_c, pm_s2_c, pm_s3_c, pm_s4_c, pm_ri_c, pm_ra_c, pm_rn_c, pm_rk_i, pm_rk_z, pm_rk_a, pm_vk_i, pm_vk_z, pm_vk_a, pm_cti, pm_ctr, pm_ldi_z, pm_ldi_s, pm_lda_z, pm_lda_s, pm_cat_n, pm_cat_i, pm_cat_r, pm_cat_l, pm_obj, pm_arr, pm_opt, pm_ird, pm_aln, List.getElem?_cons_zero, List.getElem?_cons_succ, List.set_cons_zero, List.set_cons_succ, List.length_cons, List.length_nil, List.length_set, true_and, and_true, Nat.add_zero, Nat.zero_add, Nat.le_refl, Nat.reduceAdd, Nat.reduceLT, Nat.reduceLeDiff, Nat.zero_le, not_false_eq_true, not_true_eq_false, false_implies, implies_true, true_implies, Nat.zero_lt_succ, Nat.lt_add_one, e4, M0, l]
      refine PM_use (c_M_plainBy M l5 r1 (by omega) d) ?_
      rintro v g2 k2 ⟨rfl, K1, K2⟩
      by_cases c : plnF A (nI r) < n
      · rw [if_pos c] at e
        show W_X12_enough _ _ _ _ _ _ _ _ _
        simp only [w_X12_enough_18, w_X12_enough_19, w_X12_enough_22, w_X12_enough_23, w_X12_enough_24, w_X12_enough_27, pm_1i_c, pm_2i_c, pm_1l_c, pm_2l_c, pm_1a_c, pm_ia_c, pm_iia_c, pm_va_c, pm_cp_c, pm_k0_c, pm_k1_c, pm_k2_c, pm_k3_c, pm_s1_c, pm_s2_c, pm_s3_c, pm_s4_c, pm_ri_c, pm_ra_c, pm_rn_c, pm_rk_i, pm_rk_z, pm_rk_a, pm_vk_i, pm_vk_z, pm_vk_a, pm_cti, pm_ctr, pm_ldi_z, pm_ldi_s, pm_lda_z, pm_lda_s, pm_cat_n, pm_cat_i, pm_cat_r, pm_cat_l, pm_obj, pm_arr, pm_opt, pm_ird, pm_aln, List.getElem?_cons_zero, List.getElem?_cons_succ, List.set_cons_zero, List.set_cons_succ, List.length_cons, List.length_nil, List.length_set, true_and, and_true, Nat.add_zero, Nat.zero_add, Nat.le_refl, Nat.reduceAdd, Nat.reduceLT, Nat.reduceLeDiff, Nat.zero_le, not_false_eq_true, not_true_eq_false, false_implies, implies_true, true_implies, Nat.zero_lt_succ, Nat.lt_add_one, pm_tl_n, pm_tl_s, sc_uL, c, nI_1]
        exact ih (r + 1) (by omega) (by omega) g2 K1 (F.tr K2) (by omega) e
      · rw [if_neg c] at e
        show W_X12_enough _ _ _ _ _ _ _ _ _
        simp only [w_X12_enough_18, w_X12_enough_19, w_X12_enough_22, w_X12_enough_23, pm_1i_c, pm_2i_c, pm_1l_c, pm_2l_c, pm_1a_c, pm_ia_c, pm_iia_c, pm_va_c, pm_cp_c, pm_k0_c, pm_k1_c, pm_k2_c, pm_k3_c, pm_s1_c, pm_s2_c, pm_s3_c, pm_s4_c, pm_ri_c, pm_ra_c, pm_rn_c, pm_rk_i, pm_rk_z, pm_rk_a, pm_vk_i, pm_vk_z, pm_vk_a, pm_cti, pm_ctr, pm_ldi_z, pm_ldi_s, pm_lda_z, pm_lda_s, pm_cat_n, pm_cat_i, pm_cat_r, pm_cat_l, pm_obj, pm_arr, pm_opt, pm_ird, pm_aln, List.getElem?_cons_zero, List.getElem?_cons_succ, List.set_cons_zero, List.set_cons_succ, List.length_cons, List.length_nil, List.length_set, true_and, and_true, Nat.add_zero, Nat.zero_add, Nat.le_refl, Nat.reduceAdd, Nat.reduceLT, Nat.reduceLeDiff, Nat.zero_le, not_false_eq_true, not_true_eq_false, false_implies, implies_true, true_implies, Nat.zero_lt_succ, Nat.lt_add_one, pm_tl_n, pm_tl_s, sc_uL, c, l, k2]
        rw [← e]
        exact rq_T (K1.q (F.tr K2))
  simp only [w_X12_enough_0, w_X12_enough_1, w_X12_enough_2, w_X12_enough_5, w_X12_enough_6, pm_1i_c, pm_2i_c, pm_1l_c, pm_2l_c, pm_1a_c, pm_ia_c, pm_iia_c, pm_va_c, pm_cp_c, pm_k0_c, pm_k1_c, pm_k2_c, pm_k3_c, pm_s1_c, pm_s2_c, pm_s3_c, pm_s4_c, pm_ri_c, pm_ra_c, pm_rn_c, pm_rk_i, pm_rk_z, pm_rk_a, pm_vk_i, pm_vk_z, pm_vk_a, pm_cti, pm_ctr, pm_ldi_z, pm_ldi_s, pm_lda_z, pm_lda_s, pm_cat_n, pm_cat_i, pm_cat_r, pm_cat_l, pm_obj, pm_arr, pm_opt, pm_ird, pm_aln, List.getElem?_cons_zero, List.getElem?_cons_succ, List.set_cons_zero, List.set_cons_succ, List.length_cons, List.length_nil, List.length_set, true_and, and_true, Nat.add_zero, Nat.zero_add, Nat.le_refl, Nat.reduceAdd, Nat.reduceLT, Nat.reduceLeDiff, Nat.zero_le, not_false_eq_true, not_true_eq_false, false_implies, implies_true, true_implies, Nat.zero_lt_succ, Nat.lt_add_one, H0, e1, l1]
  exact loop 64 1 rfl (by omega) h1 C1 F1 l1 rfl
end MW
