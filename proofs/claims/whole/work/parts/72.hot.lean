/-! AdmissionDeskModel: hot. -/
section NA
variable {h h' : pmH} {m : Nat} {o : Nat → Int32} {A A' K K' B : AD} {bs ws bs' ws' xs : List Int32} {ik ft : Int32}
theorem estL_N (W : wdV A) (C : cV A) (key : Int32) : ∀ r, r ≤ 4 → ∃ n, n ≤ 15 ∧ estL A key r = nI n
  | 0, _ => ⟨15, Nat.le_refl _, rfl⟩
  | r + 1, hr => by
    obtain ⟨n, n1, n2⟩ := estL_N W C key r (by omega)
    have es : estL A key (r + 1) = if cn A (cix A key r) < estL A key r then cn A (cix A key r) else estL A key r := rfl
    rw [es]
    split
    · exact C _ (cix_lt W key (by omega))
    · exact ⟨n, n1, n2⟩
theorem est_N (W : wdV A) (C : cV A) (key : Int32) : ∃ n, n ≤ 16 ∧ estF A key = nI n := by
  obtain ⟨n, n1, n2⟩ := estL_N W C key 4 (Nat.le_refl _)
  unfold estF
  rw [n2]
  split
  · exact ⟨n + 1, by omega, nI_1 n⟩
  · exact ⟨n, by omega, rfl⟩
def bkt (A : AD) (e : Nat) (l : List Int32) : List Int32 := l.filter (fun y => decide (estF A y = nI e))
def sb (A : AD) : Nat → List Int32 → List Int32
  | 0, _ => []
  | n + 1, l => bkt A n l ++ sb A n l
theorem sb_s (n : Nat) (l : List Int32) : sb A (n + 1) l = bkt A n l ++ sb A n l := rfl
theorem bkt_app (e : Nat) (l l2 : List Int32) : bkt A e (l ++ l2) = bkt A e l ++ bkt A e l2 := List.filter_append ..
theorem bkt_in {e : Nat} {x : Int32} (hx : estF A x = nI e) : bkt A e [x] = [x] := by
  unfold bkt
  rw [List.filter_cons_of_pos (by rw [decide_eq_true_eq]; exact hx)]
  rfl
theorem bkt_out {e : Nat} {x : Int32} (hx : estF A x ≠ nI e) : bkt A e [x] = [] := by
  unfold bkt
  rw [List.filter_cons_of_neg (by rw [decide_eq_true_eq]; exact hx)]
  rfl
theorem bkt_mem {e : Nat} {l : List Int32} {y : Int32} (hy : y ∈ bkt A e l) : estF A y = nI e := by
  unfold bkt at hy
  exact of_decide_eq_true (List.mem_filter.mp hy).2
theorem sb_mem : ∀ {n : Nat} {l : List Int32} {y : Int32}, y ∈ sb A n l → ∃ e, e < n ∧ estF A y = nI e
  | 0, _, _, hy => absurd hy List.not_mem_nil
  | n + 1, l, y, hy => by
    rw [sb_s, List.mem_append] at hy
    rcases hy with hy | hy
    · exact ⟨n, by omega, bkt_mem hy⟩
    · obtain ⟨e, e1, e2⟩ := sb_mem hy
      exact ⟨e, by omega, e2⟩
theorem sb_ge {x : Int32} {e : Nat} (he : e ≤ 16) (hx : estF A x = nI e) (l : List Int32) : ∀ n, n ≤ e → sb A n (l ++ [x]) = sb A n l
  | 0, _ => rfl
  | n + 1, hn => by
    have ne : estF A x ≠ nI n := fun z => by
      rw [hx] at z
      have := (nI_inj (by omega) (by omega)).mp z
      omega
    rw [sb_s, sb_s, bkt_app, bkt_out ne, List.append_nil, sb_ge he hx l n (by omega)]
theorem tw_pos {p : Int32 → Bool} : ∀ {l l2 : List Int32}, (∀ y ∈ l, p y = true) → (l ++ l2).takeWhile p = l ++ l2.takeWhile p ∧ (l ++ l2).dropWhile p = l2.dropWhile p
  | [], l2, _ => ⟨rfl, rfl⟩
  | y :: l, l2, hy => by
    obtain ⟨i1, i2⟩ := tw_pos (l := l) (l2 := l2) (fun z hz => hy z (List.mem_cons_of_mem _ hz))
    have py := hy y List.mem_cons_self
    refine ⟨?_, ?_⟩
    · rw [List.cons_append, List.takeWhile_cons_of_pos py, i1]
      rfl
    · rw [List.cons_append, List.dropWhile_cons_of_pos py, i2]
theorem tw_neg {p : Int32 → Bool} : ∀ {l : List Int32}, (∀ y ∈ l, p y = false) → l.takeWhile p = [] ∧ l.dropWhile p = l
  | [], _ => ⟨rfl, rfl⟩
  | y :: l, hy => by
    have py := hy y List.mem_cons_self
    refine ⟨?_, ?_⟩
    · rw [List.takeWhile_cons_of_neg (by rw [py]; decide)]
    · rw [List.dropWhile_cons_of_neg (by rw [py]; decide)]
theorem sb_ins {x : Int32} {e : Nat} (he : e ≤ 16) (hx : estF A x = nI e) (l : List Int32) : ∀ n, n ≤ 17 → e < n → srtI A (sb A n l) x = sb A n (l ++ [x])
  | 0, _, h => by omega
  | n + 1, hn, h => by
    have pos : ∀ y ∈ bkt A n l, srtP A x y = true := fun y hy => by
      unfold srtP
      rw [bkt_mem hy, hx]
      exact decide_eq_true (nI_nlt (by omega) (by omega))
    obtain ⟨t1, t2⟩ := tw_pos (p := srtP A x) (l := bkt A n l) (l2 := sb A n l) pos
    unfold srtI
    rw [sb_s, sb_s, t1, t2, bkt_app]
    by_cases c : e = n
    · have neg : ∀ y ∈ sb A n l, srtP A x y = false := fun y hy => by
        obtain ⟨e', e1, e2⟩ := sb_mem hy
        unfold srtP
        rw [e2, hx]
        exact decide_eq_false (fun z => z (nI_lt (by omega) (by omega)))
      obtain ⟨u1, u2⟩ := tw_neg neg
      rw [u1, u2, bkt_in (by rw [← c]; exact hx), sb_ge he hx l n (by omega)]
      simp
    · have ne : estF A x ≠ nI n := fun z => by
        rw [hx] at z
        have := (nI_inj (by omega) (by omega)).mp z
        omega
      have I := sb_ins he hx l n (by omega) (by omega)
      unfold srtI at I
      rw [bkt_out ne, List.append_nil, ← I, List.append_assoc]
theorem sb_fold (W : wdV A) (C : cV A) : ∀ (l2 l : List Int32), l2.foldl (srtI A) (sb A 17 l) = sb A 17 (l ++ l2)
  | [], l => by rw [List.append_nil]; rfl
  | x :: l2, l => by
    obtain ⟨e, e1, e2⟩ := est_N W C x
    show l2.foldl (srtI A) (srtI A (sb A 17 l) x) = _
    rw [sb_ins e1 e2 l 17 (Nat.le_refl _) (by omega), sb_fold W C l2 (l ++ [x]), List.append_assoc]
    rfl
theorem sb_nil : ∀ n, sb A n [] = []
  | 0 => rfl
  | n + 1 => by rw [sb_s, sb_nil n]; rfl
theorem hotL_sb (W : wdV A) (C : cV A) : hotL A = sb A 17 (li A 3 ++ (li A 2 ++ li A 1)) := by
  unfold hotL
  have e3 := sb_fold W C (li A 3) []
  rw [sb_nil, List.nil_append] at e3
  rw [e3, sb_fold W C, sb_fold W C, List.append_assoc]
set_option maxHeartbeats 1000000 in
theorem c_P_hot (C : mm_ h m o A K bs ws) (W : wdV A) (Cv : cV A) (k : Int32) (d : Nat) : PM (d + 5) 247 [.ref m, .int k] h (rq_ h m A K bs ws (o 0) (o 7) true (rw_get (hotL A) k)) := by
  have H0 := C.ob
  unfold mO at H0
  obtain ⟨h1, e1, l1, F1, C1, H1⟩ := C.th 0
  obtain ⟨f, Hf, Rf⟩ := C1.n
  have q1 := (Rf.p (p := 1) (by omega) (by omega)).1
  have q2 := (Rf.p (p := 2) (by omega) (by omega)).1
  have q3 := (Rf.p (p := 3) (by omega) (by omega)).1
  have eH := hotL_sb W Cv
  obtain ⟨L, hL⟩ : ∃ L, L = li A 3 ++ (li A 2 ++ li A 1) := ⟨_, rfl⟩
  rw [← hL] at eH
  have hlen : (hotL A).length ≤ 198 := by
    unfold hotL
    rw [fold_len, fold_len, fold_len, List.length_nil]
    omega
  refine en_X12_hot rfl rfl ?_
  -- one part at one heat
  have part : ∀ (e p : Nat) (tl : List Int32), e ≤ 16 → 1 ≤ p → p ≤ 3 → (∀ (pre : List Int32) (x5 : Option Value), hotL A = pre ++ (bkt A e tl ++ sb A e L) → (k < 0 ∨ ∃ j, j < 2 ^ 31 ∧ k = nI j ∧ pre.length ≤ j) → W_X12_hot (d + 4) (h.length + 0) 0 (rq_ h m A K bs ws (o 0) (o 7) true (rw_get (hotL A) k)) 17 [some (.ref m), some (.int k), some (.int (nI pre.length)), some (.int (nI e)), some (.int (nI p - 1)), x5] [] h1 0) → ∀ z i (pre : List Int32), (li A p).length - i = z → i ≤ (li A p).length → hotL A = pre ++ (bkt A e ((li A p).drop i ++ tl) ++ sb A e L) → (k < 0 ∨ ∃ j, j < 2 ^ 31 ∧ k = nI j ∧ pre.length ≤ j) → W_X12_hot (d + 4) (h.length + 0) 0 (rq_ h m A K bs ws (o 0) (o 7) true (rw_get (hotL A) k)) 26 [some (.ref m), some (.int k), some (.int (nI pre.length)), some (.int (nI e)), some (.int (nI p)), some (.int (nI i))] [] h1 0 := by
    intro e p tl he p1 p3 kont z
    have lp := (Rf.p p1 p3).1
    induction z with
    | zero =>
      intro i pre hz hi hh hk
      have : i = (li A p).length := by omega
      subst this
      rw [List.drop_length, List.nil_append] at hh
      rw [w_X12_hot_26]
      simp only [w_X12_hot_28, w_X12_hot_29, w_X12_hot_31, pm_1i_c, pm_2i_c, pm_1l_c, pm_2l_c, pm_1a_c, pm_ia_c, pm_iia_c, pm_va_c, pm_cp_c, pm_k0_c, pm_k1_c, pm_k2_c, pm_k3_c, pm_s1_c, pm_s2_c, pm_s3_c, pm_s4_c, pm_ri_c, pm_ra_c, pm_rn_c, pm_rk_i, pm_rk_z, pm_rk_a, pm_vk_i, pm_vk_z, pm_vk_a, pm_cti, pm_ctr, pm_ldi_z, pm_ldi_s, pm_lda_z, pm_lda_s, pm_cat_n, pm_cat_i, pm_cat_r, pm_cat_l, pm_obj, pm_arr, pm_opt, pm_ird, pm_aln, List.getElem?_cons_zero, List.getElem?_cons_succ, List.set_cons_zero, List.set_cons_succ, List.length_cons, List.length_nil, List.length_set, true_and, and_true, Nat.add_zero, Nat.zero_add, Nat.le_refl, Nat.reduceAdd, Nat.reduceLT, Nat.reduceLeDiff, Nat.zero_le, not_false_eq_true, not_true_eq_false, false_implies, implies_true, true_implies, Nat.zero_lt_succ, Nat.lt_add_one, H1, l1]
      refine PM_use (c_M_many C1.md p1 p3 (d + 2)) ?_
      rintro v g1 k1 ⟨rfl, rfl⟩
      show W_X12_hot _ _ _ _ _ _ _ _ _
      simp only [w_X12_hot_34, w_X12_hot_79, w_X12_hot_82, pm_1i_c, pm_2i_c, pm_1l_c, pm_2l_c, pm_1a_c, pm_ia_c, pm_iia_c, pm_va_c, pm_cp_c, pm_k0_c, pm_k1_c, pm_k2_c, pm_k3_c, pm_s1_c, pm_s2_c, pm_s3_c, pm_s4_c, pm_ri_c, pm_ra_c, pm_rn_c, pm_rk_i, pm_rk_z, pm_rk_a, pm_vk_i, pm_vk_z, pm_vk_a, pm_cti, pm_ctr, pm_ldi_z, pm_ldi_s, pm_lda_z, pm_lda_s, pm_cat_n, pm_cat_i, pm_cat_r, pm_cat_l, pm_obj, pm_arr, pm_opt, pm_ird, pm_aln, List.getElem?_cons_zero, List.getElem?_cons_succ, List.set_cons_zero, List.set_cons_succ, List.length_cons, List.length_nil, List.length_set, true_and, and_true, Nat.add_zero, Nat.zero_add, Nat.le_refl, Nat.reduceAdd, Nat.reduceLT, Nat.reduceLeDiff, Nat.zero_le, not_false_eq_true, not_true_eq_false, false_implies, implies_true, true_implies, Nat.zero_lt_succ, Nat.lt_add_one, pm_tl_n, pm_tl_s, sc_uL, show ¬ nI (li A p).length < nI (li A p).length from nI_nlt (Nat.le_refl _) (by omega), nIinc]
      exact kont pre _ hh hk
    | succ z ih =>
      intro i pre hz hi hh hk
      have hi2 : i < (li A p).length := by omega
      obtain ⟨y, hy⟩ : ∃ y, y = (li A p).getD i (-1) := ⟨_, rfl⟩
      rw [drop_at hi2, ← hy] at hh
      have pl : pre.length ≤ 198 := by
        rw [hh, List.length_append] at hlen
        omega
      rw [w_X12_hot_26]
      simp only [w_X12_hot_28, w_X12_hot_29, w_X12_hot_31, pm_1i_c, pm_2i_c, pm_1l_c, pm_2l_c, pm_1a_c, pm_ia_c, pm_iia_c, pm_va_c, pm_cp_c, pm_k0_c, pm_k1_c, pm_k2_c, pm_k3_c, pm_s1_c, pm_s2_c, pm_s3_c, pm_s4_c, pm_ri_c, pm_ra_c, pm_rn_c, pm_rk_i, pm_rk_z, pm_rk_a, pm_vk_i, pm_vk_z, pm_vk_a, pm_cti, pm_ctr, pm_ldi_z, pm_ldi_s, pm_lda_z, pm_lda_s, pm_cat_n, pm_cat_i, pm_cat_r, pm_cat_l, pm_obj, pm_arr, pm_opt, pm_ird, pm_aln, List.getElem?_cons_zero, List.getElem?_cons_succ, List.set_cons_zero, List.set_cons_succ, List.length_cons, List.length_nil, List.length_set, true_and, and_true, Nat.add_zero, Nat.zero_add, Nat.le_refl, Nat.reduceAdd, Nat.reduceLT, Nat.reduceLeDiff, Nat.zero_le, not_false_eq_true, not_true_eq_false, false_implies, implies_true, true_implies, Nat.zero_lt_succ, Nat.lt_add_one, H1, l1]
      refine PM_use (c_M_many C1.md p1 p3 (d + 2)) ?_
      rintro v g1 k1 ⟨rfl, rfl⟩
      show W_X12_hot _ _ _ _ _ _ _ _ _
      simp only [w_X12_hot_34, w_X12_hot_37, w_X12_hot_38, w_X12_hot_39, w_X12_hot_41, w_X12_hot_43, pm_1i_c, pm_2i_c, pm_1l_c, pm_2l_c, pm_1a_c, pm_ia_c, pm_iia_c, pm_va_c, pm_cp_c, pm_k0_c, pm_k1_c, pm_k2_c, pm_k3_c, pm_s1_c, pm_s2_c, pm_s3_c, pm_s4_c, pm_ri_c, pm_ra_c, pm_rn_c, pm_rk_i, pm_rk_z, pm_rk_a, pm_vk_i, pm_vk_z, pm_vk_a, pm_cti, pm_ctr, pm_ldi_z, pm_ldi_s, pm_lda_z, pm_lda_s, pm_cat_n, pm_cat_i, pm_cat_r, pm_cat_l, pm_obj, pm_arr, pm_opt, pm_ird, pm_aln, List.getElem?_cons_zero, List.getElem?_cons_succ, List.set_cons_zero, List.set_cons_succ, List.length_cons, List.length_nil, List.length_set, true_and, and_true, Nat.add_zero, Nat.zero_add, Nat.le_refl, Nat.reduceAdd, Nat.reduceLT, Nat.reduceLeDiff, Nat.zero_le, not_false_eq_true, not_true_eq_false, false_implies, implies_true, true_implies, Nat.zero_lt_succ, Nat.lt_add_one, pm_tl_n, pm_tl_s, sc_uL, show nI i < nI (li A p).length from nI_lt hi2 (by omega), H1, l1]
      refine PM_use (c_M_keyAt C1.md p1 p3 hi2 (d + 2)) ?_
      rintro v g1 k1 ⟨rfl, rfl⟩
      rw [← hy]
      show W_X12_hot _ _ _ _ _ _ _ _ _
      simp only [w_X12_hot_46, pm_1i_c, pm_2i_c, pm_1l_c, pm_2l_c, pm_1a_c, pm_ia_c, pm_iia_c, pm_va_c, pm_cp_c, pm_k0_c, pm_k1_c, pm_k2_c, pm_k3_c, pm_s1_c, pm_s2_c, pm_s3_c, pm_s4_c, pm_ri_c, pm_ra_c, pm_rn_c, pm_rk_i, pm_rk_z, pm_rk_a, pm_vk_i, pm_vk_z, pm_vk_a, pm_cti, pm_ctr, pm_ldi_z, pm_ldi_s, pm_lda_z, pm_lda_s, pm_cat_n, pm_cat_i, pm_cat_r, pm_cat_l, pm_obj, pm_arr, pm_opt, pm_ird, pm_aln, List.getElem?_cons_zero, List.getElem?_cons_succ, List.set_cons_zero, List.set_cons_succ, List.length_cons, List.length_nil, List.length_set, true_and, and_true, Nat.add_zero, Nat.zero_add, Nat.le_refl, Nat.reduceAdd, Nat.reduceLT, Nat.reduceLeDiff, Nat.zero_le, not_false_eq_true, not_true_eq_false, false_implies, implies_true, true_implies, Nat.zero_lt_succ, Nat.lt_add_one, pm_tl_n, pm_tl_s, sc_uL, H1, l1]
      refine PM_use (c_M_estimateOf C1.md W y d) ?_
      rintro v g1 k1 ⟨rfl, rfl⟩
      by_cases c : estF A y = nI e
      · have hh2 : hotL A = pre ++ (y :: (bkt A e ((li A p).drop (i + 1) ++ tl) ++ sb A e L)) := by
          rw [hh, List.cons_append, show (y :: ((li A p).drop (i + 1) ++ tl)) = [y] ++ ((li A p).drop (i + 1) ++ tl) from rfl, bkt_app, bkt_in c]
          rfl
        by_cases c2 : nI pre.length = k
        · have gk : rw_get (hotL A) k = y := by
            rw [← c2, rw_getN (by omega), hh2, List.getD_eq_getElem?_getD, List.getElem?_append_right (Nat.le_refl _), Nat.sub_self]
            rfl
          rw [gk]
          show W_X12_hot _ _ _ _ _ _ _ _ _
          simp only [w_X12_hot_49, w_X12_hot_50, w_X12_hot_53, w_X12_hot_56, w_X12_hot_57, w_X12_hot_58, w_X12_hot_61, w_X12_hot_62, w_X12_hot_64, w_X12_hot_66, pm_1i_c, pm_2i_c, pm_1l_c, pm_2l_c, pm_1a_c, pm_ia_c, pm_iia_c, pm_va_c, pm_cp_c, pm_k0_c, pm_k1_c, pm_k2_c, pm_k3_c, pm_s1_c, pm_s2_c, pm_s3_c, pm_s4_c, pm_ri_c, pm_ra_c, pm_rn_c, pm_rk_i, pm_rk_z, pm_rk_a, pm_vk_i, pm_vk_z, pm_vk_a, pm_cti, pm_ctr, pm_ldi_z, pm_ldi_s, pm_lda_z, pm_lda_s, pm_cat_n, pm_cat_i, pm_cat_r, pm_cat_l, pm_obj, pm_arr, pm_opt, pm_ird, pm_aln, List.getElem?_cons_zero, List.getElem?_cons_succ, List.set_cons_zero, List.set_cons_succ, List.length_cons, List.length_nil, List.length_set, true_and, and_true, Nat.add_zero, Nat.zero_add, Nat.le_refl, Nat.reduceAdd, Nat.reduceLT, Nat.reduceLeDiff, Nat.zero_le, not_false_eq_true, not_true_eq_false, false_implies, implies_true, true_implies, Nat.zero_lt_succ, Nat.lt_add_one, pm_tl_n, pm_tl_s, sc_uL, c, c2, H1, l1]
          refine PM_use (c_M_keyAt C1.md p1 p3 hi2 (d + 2)) ?_
          rintro v g1 k1 ⟨rfl, rfl⟩
          rw [← hy]
          show W_X12_hot _ _ _ _ _ _ _ _ _
          simp only [w_X12_hot_69, pm_1i_c, pm_2i_c, pm_1l_c, pm_2l_c, pm_1a_c, pm_ia_c, pm_iia_c, pm_va_c, pm_cp_c, pm_k0_c, pm_k1_c, pm_k2_c, pm_k3_c, pm_s1_c, pm_s2_c, pm_s3_c, pm_s4_c, pm_ri_c, pm_ra_c, pm_rn_c, pm_rk_i, pm_rk_z, pm_rk_a, pm_vk_i, pm_vk_z, pm_vk_a, pm_cti, pm_ctr, pm_ldi_z, pm_ldi_s, pm_lda_z, pm_lda_s, pm_cat_n, pm_cat_i, pm_cat_r, pm_cat_l, pm_obj, pm_arr, pm_opt, pm_ird, pm_aln, List.getElem?_cons_zero, List.getElem?_cons_succ, List.set_cons_zero, List.set_cons_succ, List.length_cons, List.length_nil, List.length_set, true_and, and_true, Nat.add_zero, Nat.zero_add, Nat.le_refl, Nat.reduceAdd, Nat.reduceLT, Nat.reduceLeDiff, Nat.zero_le, not_false_eq_true, not_true_eq_false, false_implies, implies_true, true_implies, Nat.zero_lt_succ, Nat.lt_add_one, pm_tl_n, pm_tl_s, sc_uL, l1]
          exact rq_T (C1.q F1)
        · have N := ih (i + 1) (pre ++ [y]) (by omega) (by omega) (by rw [hh2, List.append_assoc]; rfl) (by
            rcases hk with w | ⟨j, j0, j1, j2⟩
            · exact Or.inl w
            · refine Or.inr ⟨j, j0, j1, ?_⟩
              rw [List.length_append, List.length_singleton]
              rcases Nat.lt_or_ge pre.length j with w | w
              · omega
              · exact absurd (by rw [j1, show pre.length = j by omega]) c2)
          rw [List.length_append, List.length_singleton] at N
          show W_X12_hot _ _ _ _ _ _ _ _ _
          simp only [w_X12_hot_49, w_X12_hot_50, w_X12_hot_53, w_X12_hot_56, w_X12_hot_57, w_X12_hot_58, w_X12_hot_70, w_X12_hot_73, w_X12_hot_76, pm_1i_c, pm_2i_c, pm_1l_c, pm_2l_c, pm_1a_c, pm_ia_c, pm_iia_c, pm_va_c, pm_cp_c, pm_k0_c, pm_k1_c, pm_k2_c, pm_k3_c, pm_s1_c, pm_s2_c, pm_s3_c, pm_s4_c, pm_ri_c, pm_ra_c, pm_rn_c, pm_rk_i, pm_rk_z, pm_rk_a, pm_vk_i, pm_vk_z, pm_vk_a, pm_cti, pm_ctr, pm_ldi_z, pm_ldi_s, pm_lda_z, pm_lda_s, pm_cat_n, pm_cat_i, pm_cat_r, pm_cat_l, pm_obj, pm_arr, pm_opt, pm_ird, pm_aln, List.getElem?_cons_zero, List.getElem?_cons_succ, List.set_cons_zero, List.set_cons_succ, List.length_cons, List.length_nil, List.length_set, true_and, and_true, Nat.add_zero, Nat.zero_add, Nat.le_refl, Nat.reduceAdd, Nat.reduceLT, Nat.reduceLeDiff, Nat.zero_le, not_false_eq_true, not_true_eq_false, false_implies, implies_true, true_implies, Nat.zero_lt_succ, Nat.lt_add_one, pm_tl_n, pm_tl_s, sc_uL, c, c2, nI_1]
          exact N
      · have hh2 : hotL A = pre ++ (bkt A e ((li A p).drop (i + 1) ++ tl) ++ sb A e L) := by
          rw [hh, List.cons_append, show (y :: ((li A p).drop (i + 1) ++ tl)) = [y] ++ ((li A p).drop (i + 1) ++ tl) from rfl, bkt_app, bkt_out c]
          rfl
        show W_X12_hot _ _ _ _ _ _ _ _ _
        simp only [w_X12_hot_49, w_X12_hot_50, w_X12_hot_53, w_X12_hot_73, w_X12_hot_76, pm_1i_c, pm_2i_c, pm_1l_c, pm_2l_c, pm_1a_c, pm_ia_c, pm_iia_c, pm_va_c, pm_cp_c, pm_k0_c, pm_k1_c, pm_k2_c, pm_k3_c, pm_s1_c, pm_s2_c, pm_s3_c, pm_s4_c, pm_ri_c, pm_ra_c, pm_rn_c, pm_rk_i, pm_rk_z, pm_rk_a, pm_vk_i, pm_vk_z, pm_vk_a, pm_cti, pm_ctr, pm_ldi_z, pm_ldi_s, pm_lda_z, pm_lda_s, pm_cat_n, pm_cat_i, pm_cat_r, pm_cat_l, pm_obj, pm_arr, pm_opt, pm_ird, pm_aln, List.getElem?_cons_zero, List.getElem?_cons_succ, List.set_cons_zero, List.set_cons_succ, List.length_cons, List.length_nil, List.length_set, true_and, and_true, Nat.add_zero, Nat.zero_add, Nat.le_refl, Nat.reduceAdd, Nat.reduceLT, Nat.reduceLeDiff, Nat.zero_le, not_false_eq_true, not_true_eq_false, false_implies, implies_true, true_implies, Nat.zero_lt_succ, Nat.lt_add_one, pm_tl_n, pm_tl_s, sc_uL, c, nI_1]
        exact ih (i + 1) pre (by omega) (by omega) hh2 hk
  have heat : ∀ n, n ≤ 17 → ∀ (pre : List Int32) (x4 x5 : Option Value), hotL A = pre ++ sb A n L → (k < 0 ∨ ∃ j, j < 2 ^ 31 ∧ k = nI j ∧ pre.length ≤ j) → W_X12_hot (d + 4) (h.length + 0) 0 (rq_ h m A K bs ws (o 0) (o 7) true (rw_get (hotL A) k)) 10 [some (.ref m), some (.int k), some (.int (nI pre.length)), some (.int (nI n - 1)), x4, x5] [] h1 0 := by
    intro n
    induction n with
    | zero =>
      intro hn pre x4 x5 hh hk
      have e0 : sb A 0 L = [] := rfl
      rw [e0, List.append_nil] at hh
      have gk : rw_get (hotL A) k = -1 := by
        rcases hk with w | ⟨j, j0, j1, j2⟩
        · unfold rw_get
          rw [if_pos w]
        · rw [j1, rw_getN j0, List.getD_eq_getElem?_getD, List.getElem?_eq_none (by rw [hh]; exact j2)]
          rfl
      rw [gk]
      rw [w_X12_hot_10]
      simp only [w_X12_hot_11, w_X12_hot_91, w_X12_hot_92, pm_1i_c, pm_2i_c, pm_1l_c, pm_2l_c, pm_1a_c, pm_ia_c, pm_iia_c, pm_va_c, pm_cp_c, pm_k0_c, pm_k1_c, pm_k2_c, pm_k3_c, pm_s1_c, pm_s2_c, pm_s3_c, pm_s4_c, pm_ri_c, pm_ra_c, pm_rn_c, pm_rk_i, pm_rk_z, pm_rk_a, pm_vk_i, pm_vk_z, pm_vk_a, pm_cti, pm_ctr, pm_ldi_z, pm_ldi_s, pm_lda_z, pm_lda_s, pm_cat_n, pm_cat_i, pm_cat_r, pm_cat_l, pm_obj, pm_arr, pm_opt, pm_ird, pm_aln, List.getElem?_cons_zero, List.getElem?_cons_succ, List.set_cons_zero, List.set_cons_succ, List.length_cons, List.length_nil, List.length_set, true_and, and_true, Nat.add_zero, Nat.zero_add, Nat.le_refl, Nat.reduceAdd, Nat.reduceLT, Nat.reduceLeDiff, Nat.zero_le, not_false_eq_true, not_true_eq_false, false_implies, implies_true, true_implies, Nat.zero_lt_succ, Nat.lt_add_one, show nI 0 - 1 < 0 by decide, l1]
      exact rq_T (C1.q F1)
    | succ n ih =>
      intro hn pre x4 x5 hh hk
      rw [sb_s] at hh
      have hh3 : hotL A = pre ++ (bkt A n ((li A 3).drop 0 ++ (li A 2 ++ li A 1)) ++ sb A n L) := by
        rw [hh, List.drop_zero, ← hL]
      rw [w_X12_hot_10, nI_pred]
      simp only [w_X12_hot_11, w_X12_hot_14, w_X12_hot_15, pm_1i_c, pm_2i_c, pm_1l_c, pm_2l_c, pm_1a_c, pm_ia_c, pm_iia_c, pm_va_c, pm_cp_c, pm_k0_c, pm_k1_c, pm_k2_c, pm_k3_c, pm_s1_c, pm_s2_c, pm_s3_c, pm_s4_c, pm_ri_c, pm_ra_c, pm_rn_c, pm_rk_i, pm_rk_z, pm_rk_a, pm_vk_i, pm_vk_z, pm_vk_a, pm_cti, pm_ctr, pm_ldi_z, pm_ldi_s, pm_lda_z, pm_lda_s, pm_cat_n, pm_cat_i, pm_cat_r, pm_cat_l, pm_obj, pm_arr, pm_opt, pm_ird, pm_aln, List.getElem?_cons_zero, List.getElem?_cons_succ, List.set_cons_zero, List.set_cons_succ, List.length_cons, List.length_nil, List.length_set, true_and, and_true, Nat.add_zero, Nat.zero_add, Nat.le_refl, Nat.reduceAdd, Nat.reduceLT, Nat.reduceLeDiff, Nat.zero_le, not_false_eq_true, not_true_eq_false, false_implies, implies_true, true_implies, Nat.zero_lt_succ, Nat.lt_add_one, show ¬ nI n < 0 from nI_pos (by omega)]
      rw [w_X12_hot_17]
      simp only [w_X12_hot_19, w_X12_hot_20, w_X12_hot_23, w_X12_hot_24, pm_1i_c, pm_2i_c, pm_1l_c, pm_2l_c, pm_1a_c, pm_ia_c, pm_iia_c, pm_va_c, pm_cp_c, pm_k0_c, pm_k1_c, pm_k2_c, pm_k3_c, pm_s1_c, pm_s2_c, pm_s3_c, pm_s4_c, pm_ri_c, pm_ra_c, pm_rn_c, pm_rk_i, pm_rk_z, pm_rk_a, pm_vk_i, pm_vk_z, pm_vk_a, pm_cti, pm_ctr, pm_ldi_z, pm_ldi_s, pm_lda_z, pm_lda_s, pm_cat_n, pm_cat_i, pm_cat_r, pm_cat_l, pm_obj, pm_arr, pm_opt, pm_ird, pm_aln, List.getElem?_cons_zero, List.getElem?_cons_succ, List.set_cons_zero, List.set_cons_succ, List.length_cons, List.length_nil, List.length_set, true_and, and_true, Nat.add_zero, Nat.zero_add, Nat.le_refl, Nat.reduceAdd, Nat.reduceLT, Nat.reduceLeDiff, Nat.zero_le, not_false_eq_true, not_true_eq_false, false_implies, implies_true, true_implies, Nat.zero_lt_succ, Nat.lt_add_one, show ¬ (3 : Int32) < 1 by decide]
      refine part n 3 (li A 2 ++ li A 1) (by omega) (by omega) (by omega) (fun pre x5 hh hk => ?_) _ 0 pre rfl (Nat.zero_le _) hh3 hk
      rw [w_X12_hot_17]
      simp only [w_X12_hot_19, w_X12_hot_20, w_X12_hot_23, w_X12_hot_24, pm_1i_c, pm_2i_c, pm_1l_c, pm_2l_c, pm_1a_c, pm_ia_c, pm_iia_c, pm_va_c, pm_cp_c, pm_k0_c, pm_k1_c, pm_k2_c, pm_k3_c, pm_s1_c, pm_s2_c, pm_s3_c, pm_s4_c, pm_ri_c, pm_ra_c, pm_rn_c, pm_rk_i, pm_rk_z, pm_rk_a, pm_vk_i, pm_vk_z, pm_vk_a, pm_cti, pm_ctr, pm_ldi_z, pm_ldi_s, pm_lda_z, pm_lda_s, pm_cat_n, pm_cat_i, pm_cat_r, pm_cat_l, pm_obj, pm_arr, pm_opt, pm_ird, pm_aln, List.getElem?_cons_zero, List.getElem?_cons_succ, List.set_cons_zero, List.set_cons_succ, List.length_cons, List.length_nil, List.length_set, true_and, and_true, Nat.add_zero, Nat.zero_add, Nat.le_refl, Nat.reduceAdd, Nat.reduceLT, Nat.reduceLeDiff, Nat.zero_le, not_false_eq_true, not_true_eq_false, false_implies, implies_true, true_implies, Nat.zero_lt_succ, Nat.lt_add_one, show nI 3 - 1 = nI 2 from rfl, show ¬ nI 2 < 1 by decide]
      refine part n 2 (li A 1) (by omega) (by omega) (by omega) (fun pre x5 hh hk => ?_) _ 0 pre rfl (Nat.zero_le _) (by rw [List.drop_zero]; exact hh) hk
      rw [w_X12_hot_17]
      simp only [w_X12_hot_19, w_X12_hot_20, w_X12_hot_23, w_X12_hot_24, pm_1i_c, pm_2i_c, pm_1l_c, pm_2l_c, pm_1a_c, pm_ia_c, pm_iia_c, pm_va_c, pm_cp_c, pm_k0_c, pm_k1_c, pm_k2_c, pm_k3_c, pm_s1_c, pm_s2_c, pm_s3_c, pm_s4_c, pm_ri_c, pm_ra_c, pm_rn_c, pm_rk_i, pm_rk_z, pm_rk_a, pm_vk_i, pm_vk_z, pm_vk_a, pm_cti, pm_ctr, pm_ldi_z, pm_ldi_s, pm_lda_z, pm_lda_s, pm_cat_n, pm_cat_i, pm_cat_r, pm_cat_l, pm_obj, pm_arr, pm_opt, pm_ird, pm_aln, List.getElem?_cons_zero, List.getElem?_cons_succ, List.set_cons_zero, List.set_cons_succ, List.length_cons, List.length_nil, List.length_set, true_and, and_true, Nat.add_zero, Nat.zero_add, Nat.le_refl, Nat.reduceAdd, Nat.reduceLT, Nat.reduceLeDiff, Nat.zero_le, not_false_eq_true, not_true_eq_false, false_implies, implies_true, true_implies, Nat.zero_lt_succ, Nat.lt_add_one, show nI 2 - 1 = nI 1 from rfl, show ¬ nI 1 < 1 by decide]
      refine part n 1 [] (by omega) (by omega) (by omega) (fun pre x5 hh hk => ?_) _ 0 pre rfl (Nat.zero_le _) (by rw [List.drop_zero, List.append_nil]; exact hh) hk
      rw [w_X12_hot_17]
      simp only [w_X12_hot_19, w_X12_hot_20, w_X12_hot_85, w_X12_hot_88, pm_1i_c, pm_2i_c, pm_1l_c, pm_2l_c, pm_1a_c, pm_ia_c, pm_iia_c, pm_va_c, pm_cp_c, pm_k0_c, pm_k1_c, pm_k2_c, pm_k3_c, pm_s1_c, pm_s2_c, pm_s3_c, pm_s4_c, pm_ri_c, pm_ra_c, pm_rn_c, pm_rk_i, pm_rk_z, pm_rk_a, pm_vk_i, pm_vk_z, pm_vk_a, pm_cti, pm_ctr, pm_ldi_z, pm_ldi_s, pm_lda_z, pm_lda_s, pm_cat_n, pm_cat_i, pm_cat_r, pm_cat_l, pm_obj, pm_arr, pm_opt, pm_ird, pm_aln, List.getElem?_cons_zero, List.getElem?_cons_succ, List.set_cons_zero, List.set_cons_succ, List.length_cons, List.length_nil, List.length_set, true_and, and_true, Nat.add_zero, Nat.zero_add, Nat.le_refl, Nat.reduceAdd, Nat.reduceLT, Nat.reduceLeDiff, Nat.zero_le, not_false_eq_true, not_true_eq_false, false_implies, implies_true, true_implies, Nat.zero_lt_succ, Nat.lt_add_one, show nI 1 - 1 = 0 from rfl, show (0 : Int32) < 1 by decide, nIinc]
      exact ih (by omega) pre _ _ (by rw [hh]; rfl) hk
  have k0 : k < 0 ∨ ∃ j, j < 2 ^ 31 ∧ k = nI j ∧ ([] : List Int32).length ≤ j := by
    by_cases c : k < 0
    · exact Or.inl c
    · obtain ⟨j, j1, j2⟩ := nI_of c
      exact Or.inr ⟨j, j1, j2, Nat.zero_le _⟩
  simp only [w_X12_hot_0, w_X12_hot_1, w_X12_hot_2, w_X12_hot_5, w_X12_hot_6, w_X12_hot_7, w_X12_hot_9, pm_1i_c, pm_2i_c, pm_1l_c, pm_2l_c, pm_1a_c, pm_ia_c, pm_iia_c, pm_va_c, pm_cp_c, pm_k0_c, pm_k1_c, pm_k2_c, pm_k3_c, pm_s1_c, pm_s2_c, pm_s3_c, pm_s4_c, pm_ri_c, pm_ra_c, pm_rn_c, pm_rk_i, pm_rk_z, pm_rk_a, pm_vk_i, pm_vk_z, pm_vk_a, pm_cti, pm_ctr, pm_ldi_z, pm_ldi_s, pm_lda_z, pm_lda_s, pm_cat_n, pm_cat_i, pm_cat_r, pm_cat_l, pm_obj, pm_arr, pm_opt, pm_ird, pm_aln, List.getElem?_cons_zero, List.getElem?_cons_succ, List.set_cons_zero, List.set_cons_succ, List.length_cons, List.length_nil, List.length_set, true_and, and_true, Nat.add_zero, Nat.zero_add, Nat.le_refl, Nat.reduceAdd, Nat.reduceLT, Nat.reduceLeDiff, Nat.zero_le, not_false_eq_true, not_true_eq_false, false_implies, implies_true, true_implies, Nat.zero_lt_succ, Nat.lt_add_one, H0, e1, l1]
  exact heat 17 (Nat.le_refl _) [] _ _ eH k0
end NA
