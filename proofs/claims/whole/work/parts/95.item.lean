/-! AdmissionDeskModel: an item of a trace, against the class's. -/
/-- behind an item -/
def Xi (bs : List Int32) (s s1 : XZ) (p' : Nat) (fa' : Int32) (ks' : List Int32) : Prop := sm_ bs 5 s1.1 p' fa' ∧ ks'.length ≤ 500 ∧ (fa' = -1 → s.1.1 < s1.1.1 ∧ ks' = s1.2 ∧ (kyL s.2 → kyL s1.2))
/-- behind items: the class may not have looked at a number of too many digits yet -/
def Xm (bs : List Int32) (s : PS) (p : Nat) (fa : Int32) : Prop := sm_ bs 5 s p fa ∨ (p ≤ bs.length ∧ ¬ fa = -1 ∧ s.2 = -1 ∧ s.1 ≤ 400 ∧ (cuF bs 5).1.getD s.1 (-1) = 268 ∧ fa = fbF (cuF bs 5).2.1 (nI bs.length) (nI s.1))
def Xr (bs : List Int32) (s s1 : XZ) (p' : Nat) (fa' : Int32) (ks' : List Int32) : Prop := Xm bs s1.1 p' fa' ∧ ks'.length ≤ 500 ∧ (fa' = -1 → s.1.1 < s1.1.1 ∧ ks' = s1.2 ∧ (kyL s.2 → kyL s1.2))
section TR
variable {h0 h h' : pmH} {m : Nat} {o : Nat → Int32} {bs : List Int32} {p b dp n : Nat} {fa : Int32} {cs ks : List Int32} {s : XZ}
theorem Xm.pl {q : PS} (X : Xm bs q p fa) : p ≤ bs.length := by
  rcases X with x | x
  · exact x.1
  · exact x.1
/-- what is asked for isn't there -/
theorem Xm.nd {q : PS} (X : Xm bs q p fa) (hf : ¬ fa = -1) {k : Int32} (hk : k ≠ 268) : sm_ bs 5 (neF (cuF bs 5).1 k q) p fa := by
  rcases X with x | ⟨x1, x2, x3, x4, x5, x6⟩
  · have nf : ¬ q.2 = -1 := fun z => hf (x.ff.mp z)
    have e : neF (cuF bs 5).1 k q = q := by
      unfold neF
      rw [taB_ff nf, if_neg (by decide)]
      unfold faF
      rw [if_neg nf]
    rw [e]
    exact x
  · have nt : taB (cuF bs 5).1 k q = false := decide_eq_false (fun z => hk (by rw [← z.2, x5]))
    have e : neF (cuF bs 5).1 k q = (q.1, nI q.1) := by
      unfold neF
      rw [nt, if_neg (by decide)]
      unfold faF
      rw [if_pos x3]
    rw [e]
    exact ⟨x1, Or.inr ⟨nI_ne1 (by omega), hf, x6⟩⟩
theorem c_Y_asksSign_f (P : pr_ h0 h m o bs p b dp n fa cs ks) (hf : ¬ fa = -1) (v : Int32) (d : Nat) : PM (d + 2) 160 [.ref m, .int v] h (fun x h' => x = none ∧ h' = h) := by
  refine en_X12_asksSign rfl rfl ?_
  have H0 := P.c0
  simp only [w_X12_asksSign_0, w_X12_asksSign_1, pm_1i_c, pm_2i_c, pm_1l_c, pm_2l_c, pm_1a_c, pm_ia_c, pm_iia_c, pm_va_c, pm_cp_c, pm_k0_c, pm_k1_c, pm_k2_c, pm_k3_c, pm_s1_c, pm_s2_c, pm_s3_c, pm_s4_c, pm_ri_c, pm_ra_c, pm_rn_c, pm_rk_i, pm_rk_z, pm_rk_a, pm_vk_i, pm_vk_z, pm_vk_a, pm_cti, pm_ctr, pm_ldi_z, pm_ldi_s, pm_lda_z, pm_lda_s, pm_cat_n, pm_cat_i, pm_cat_r, pm_cat_l, pm_obj, pm_arr, pm_opt, pm_ird, pm_aln, List.getElem?_cons_zero, List.getElem?_cons_succ, List.set_cons_zero, List.set_cons_succ, List.length_cons, List.length_nil, List.length_set, true_and, and_true, Nat.add_zero, Nat.zero_add, Nat.le_refl, Nat.reduceAdd, Nat.reduceLT, Nat.reduceLeDiff, Nat.zero_le, not_false_eq_true, not_true_eq_false, false_implies, implies_true, true_implies, Nat.zero_lt_succ, Nat.lt_add_one, H0]
  refine PM_use (c_Y_hasFailed P d) ?_
  rintro x h1 l1 ⟨rfl, rfl⟩
  simp only [if_neg hf]
  show W_X12_asksSign _ _ _ _ _ _ _ _ _
  simp only [w_X12_asksSign_4, w_X12_asksSign_23, pm_1i_c, pm_2i_c, pm_1l_c, pm_2l_c, pm_1a_c, pm_ia_c, pm_iia_c, pm_va_c, pm_cp_c, pm_k0_c, pm_k1_c, pm_k2_c, pm_k3_c, pm_s1_c, pm_s2_c, pm_s3_c, pm_s4_c, pm_ri_c, pm_ra_c, pm_rn_c, pm_rk_i, pm_rk_z, pm_rk_a, pm_vk_i, pm_vk_z, pm_vk_a, pm_cti, pm_ctr, pm_ldi_z, pm_ldi_s, pm_lda_z, pm_lda_s, pm_cat_n, pm_cat_i, pm_cat_r, pm_cat_l, pm_obj, pm_arr, pm_opt, pm_ird, pm_aln, List.getElem?_cons_zero, List.getElem?_cons_succ, List.set_cons_zero, List.set_cons_succ, List.length_cons, List.length_nil, List.length_set, true_and, and_true, Nat.add_zero, Nat.zero_add, Nat.le_refl, Nat.reduceAdd, Nat.reduceLT, Nat.reduceLeDiff, Nat.zero_le, not_false_eq_true, not_true_eq_false, false_implies, implies_true, true_implies, Nat.zero_lt_succ, Nat.lt_add_one, pm_tl_n, pm_tl_s, sc_uL, show ¬ (1 : Int32) = 0 by decide]
/-- 'asksSign' behind items -/
theorem c_Z_asks (P : pr_ h0 h m o bs p b dp n fa cs ks) (T : tap_ h0 m bs) {q : PS} (X : Xm bs q p fa) {v : Nat} (hv : sgn v) (d : Nat) : PM (d + 5) 160 [.ref m, .int (nI v)] h (fun x h' => x = none ∧ ∃ p' b' fa', pr_ h0 h' m o bs p' b' dp n fa' cs ks ∧ sm_ bs 5 (neF (cuF bs 5).1 (nI v) q) p' fa' ∧ (fa' = -1 → fa = -1 ∧ neF (cuF bs 5).1 (nI v) q = (q.1 + 1, q.2))) := by
  by_cases hf : fa = -1
  · have S : sm_ bs 5 q p fa := by
      rcases X with x | x
      · exact x
      · exact absurd hf x.2.1
    refine PM_use (c_Y_asksSign P T S hv d) ?_
    rintro x h' - ⟨rfl, p', b', fa', P', S', -, -, -⟩
    refine ⟨rfl, p', b', fa', P', S', fun z => ⟨hf, ?_⟩⟩
    have z2 := S'.ff.mpr z
    unfold neF at z2 ⊢
    by_cases c : taB (cuF bs 5).1 (nI v) q = true
    · rw [if_pos c]
    · rw [if_neg c] at z2
      unfold faF at z2
      rw [if_pos (S.ff.mpr hf)] at z2
      have i2 := (S.rt hf).2.1
      have KL := cuF_kl1 (dm := 5) T.1
      exact absurd z2 (nI_ne1 (by omega))
  · refine PM_use (c_Y_asksSign_f P hf (nI v) (d + 3)) ?_
    rintro x h' - ⟨rfl, rfl⟩
    have v1 := hv.1
    refine ⟨rfl, p, b, fa, P, X.nd hf (k := nI v) (fun z => ?_), fun z => absurd z hf⟩
    have := (nI_inj (a := v) (b := 268) (by omega) (by omega)).mp z
    omega
set_option maxHeartbeats 4000000 in
theorem c_Z_item (T : tap_ h0 m bs) (V : NV (cuF bs 5).1 (cuF bs 5).2.2) (hdp : dp ≤ 6) {top : Bool} (ht : top = decide (6 ≤ dp)) {E : XZ → XZ} (hE : grw E) {D : Nat} (HE : dp < 6 → ∀ (h : pmH) (s : XZ) (p b : Nat) (fa : Int32) (ks : List Int32), pr_ h0 h m o bs p b (dp + 1) n fa cs ks → sm_ bs 5 s.1 p fa → fa = -1 → ks = s.2 → ks.length ≤ 500 → PM (D + 6) 206 [.ref m] h (fun x h' => x = none ∧ ∃ p' b' fa' ks', pr_ h0 h' m o bs p' b' (dp + 1) n fa' cs ks' ∧ Xr bs s (E s) p' fa' ks')) (P : pr_ h0 h m o bs p b dp n fa cs ks) (S : sm_ bs 5 s.1 p fa) (hf : fa = -1) (hk : ks = s.2) (hl : ks.length ≤ 500) : PM (D + 7) 207 [.ref m] h (fun x h' => x = none ∧ ∃ p' b' fa' ks', pr_ h0 h' m o bs p' b' dp n fa' cs ks' ∧ Xi bs s (itF (cuF bs 5).1 (cuF bs 5).2.2 top E s) p' fa' ks') := by
  have H0 := P.c0
  have L4 := T.1
  have KL := cuF_kl1 (dm := 5) L4
  have SL := cuF_sl0 (dm := 5) L4
  have kp := skp_le (bs := bs) S.1
  have kk := skp_skp (bs := bs) S.1
  have sf := S.ff.mpr hf
  have R := S.rt hf
  have i2 := R.2.1
  have ns : nI s.1.1 ≠ -1 := nI_ne1 (by omega)
  have hst : nI (skp bs p) = fbF (cuF bs 5).2.1 (nI bs.length) (nI s.1.1) := (RT_fb R KL (by omega)).symm
  have kiE : kiF (cuF bs 5).1 s.1 = (cuF bs 5).1.getD s.1.1 (-1) := if_pos sf
  have k40 : kiF (cuF bs 5).1 s.1 = 40 ↔ taB (cuF bs 5).1 40 s.1 = true := by
    rw [kiE]
    unfold taB
    rw [decide_eq_true_eq]
    exact ⟨fun z => ⟨sf, z⟩, fun z => z.2⟩
  obtain ⟨Z, hZ⟩ : ∃ Z, Z = itF (cuF bs 5).1 (cuF bs 5).2.2 top E s := ⟨_, rfl⟩
  rw [← hZ]
  unfold itF itB at hZ
  have Xz : ∀ p' fa' (ks' : List Int32), sm_ bs 5 Z.1 p' fa' → (fa' = -1 → s.1.1 < Z.1.1 ∧ ks' = Z.2 ∧ (kyL s.2 → kyL Z.2)) → ks'.length ≤ 500 → Xi bs s Z p' fa' ks' := fun p' fa' ks' a b c => ⟨a, c, b⟩
  refine en_X12_item rfl ?_
  simp only [w_X12_item_0, w_X12_item_1, pm_1i_c, pm_2i_c, pm_1l_c, pm_2l_c, pm_1a_c, pm_ia_c, pm_iia_c, pm_va_c, pm_cp_c, pm_k0_c, pm_k1_c, pm_k2_c, pm_k3_c, pm_s1_c, pm_s2_c, pm_s3_c, pm_s4_c, pm_ri_c, pm_ra_c, pm_rn_c, pm_rk_i, pm_rk_z, pm_rk_a, pm_vk_i, pm_vk_z, pm_vk_a, pm_cti, pm_ctr, pm_ldi_z, pm_ldi_s, pm_lda_z, pm_lda_s, pm_cat_n, pm_cat_i, pm_cat_r, pm_cat_l, pm_obj, pm_arr, pm_opt, pm_ird, pm_aln, List.getElem?_cons_zero, List.getElem?_cons_succ, List.set_cons_zero, List.set_cons_succ, List.length_cons, List.length_nil, List.length_set, true_and, and_true, Nat.add_zero, Nat.zero_add, Nat.le_refl, Nat.reduceAdd, Nat.reduceLT, Nat.reduceLeDiff, Nat.zero_le, not_false_eq_true, not_true_eq_false, false_implies, implies_true, true_implies, Nat.zero_lt_succ, Nat.lt_add_one, H0]
  refine PM_use (c_Y_blanks P T S.1 (D + 4)) ?_
  rintro x h1 l1 ⟨rfl, P1⟩
  have H1 := P1.c0
  show W_X12_item _ _ _ _ _ _ _ _ _
  simp only [w_X12_item_4, w_X12_item_5, w_X12_item_8, w_X12_item_9, w_X12_item_10, w_X12_item_13, w_X12_item_14, w_X12_item_15, w_X12_item_16, w_X12_item_17, w_X12_item_19, w_X12_item_20, w_X12_item_22, pm_1i_c, pm_2i_c, pm_1l_c, pm_2l_c, pm_1a_c, pm_ia_c, pm_iia_c, pm_va_c, pm_cp_c, pm_k0_c, pm_k1_c, pm_k2_c, pm_k3_c, pm_s1_c, pm_s2_c, pm_s3_c, pm_s4_c, pm_ri_c, pm_ra_c, pm_rn_c, pm_rk_i, pm_rk_z, pm_rk_a, pm_vk_i, pm_vk_z, pm_vk_a, pm_cti, pm_ctr, pm_ldi_z, pm_ldi_s, pm_lda_z, pm_lda_s, pm_cat_n, pm_cat_i, pm_cat_r, pm_cat_l, pm_obj, pm_arr, pm_opt, pm_ird, pm_aln, List.getElem?_cons_zero, List.getElem?_cons_succ, List.set_cons_zero, List.set_cons_succ, List.length_cons, List.length_nil, List.length_set, true_and, and_true, Nat.add_zero, Nat.zero_add, Nat.le_refl, Nat.reduceAdd, Nat.reduceLT, Nat.reduceLeDiff, Nat.zero_le, not_false_eq_true, not_true_eq_false, false_implies, implies_true, true_implies, Nat.zero_lt_succ, Nat.lt_add_one, pm_tl_n, pm_tl_s, sc_uL, H1, l1]
  refine PM_use (c_Y_isSign P1 T S.sk sgn_40 (D + 3)) ?_
  rintro x h2 l2 ⟨rfl, P2⟩
  have H2 := P2.c0
  have l2' : h2.length = h.length := l2.trans l1
  rw [kk] at P2 H2
  rcases Bool.eq_false_or_eq_true (taB (cuF bs 5).1 40 s.1) with c | c
  · -- a bracket
    have c' : taB (cuF bs 5).1 (nI 40) s.1 = true := c
    rw [if_pos c']
    by_cases c6 : dp = 6
    · have tt : top = true := by
        rw [ht]
        exact decide_eq_true (by omega)
      rw [if_pos ⟨k40.mpr c, tt⟩] at hZ
      have n6 : nI dp = 6 := by
        rw [c6]
        rfl
      show W_X12_item _ _ _ _ _ _ _ _ _
      simp only [w_X12_item_25, w_X12_item_32, w_X12_item_33, w_X12_item_35, w_X12_item_37, w_X12_item_85, w_X12_item_86, w_X12_item_89, w_X12_item_91, w_X12_item_94, w_X12_item_95, w_X12_item_96, w_X12_item_99, pm_1i_c, pm_2i_c, pm_1l_c, pm_2l_c, pm_1a_c, pm_ia_c, pm_iia_c, pm_va_c, pm_cp_c, pm_k0_c, pm_k1_c, pm_k2_c, pm_k3_c, pm_s1_c, pm_s2_c, pm_s3_c, pm_s4_c, pm_ri_c, pm_ra_c, pm_rn_c, pm_rk_i, pm_rk_z, pm_rk_a, pm_vk_i, pm_vk_z, pm_vk_a, pm_cti, pm_ctr, pm_ldi_z, pm_ldi_s, pm_lda_z, pm_lda_s, pm_cat_n, pm_cat_i, pm_cat_r, pm_cat_l, pm_obj, pm_arr, pm_opt, pm_ird, pm_aln, List.getElem?_cons_zero, List.getElem?_cons_succ, List.set_cons_zero, List.set_cons_succ, List.length_cons, List.length_nil, List.length_set, true_and, and_true, Nat.add_zero, Nat.zero_add, Nat.le_refl, Nat.reduceAdd, Nat.reduceLT, Nat.reduceLeDiff, Nat.zero_le, not_false_eq_true, not_true_eq_false, false_implies, implies_true, true_implies, Nat.zero_lt_succ, Nat.lt_add_one, pm_tl_n, pm_tl_s, sc_uL, H2, l2', n6, show ¬ (1 : Int32) = 0 by decide]
      refine PM_use (c_Y_failsAt P2 (nI (skp bs p)) (D + 5)) ?_
      rintro x h3 l3 ⟨rfl, P3⟩
      rw [if_pos hf] at P3
      show W_X12_item _ _ _ _ _ _ _ _ _
      simp only [w_X12_item_102, pm_1i_c, pm_2i_c, pm_1l_c, pm_2l_c, pm_1a_c, pm_ia_c, pm_iia_c, pm_va_c, pm_cp_c, pm_k0_c, pm_k1_c, pm_k2_c, pm_k3_c, pm_s1_c, pm_s2_c, pm_s3_c, pm_s4_c, pm_ri_c, pm_ra_c, pm_rn_c, pm_rk_i, pm_rk_z, pm_rk_a, pm_vk_i, pm_vk_z, pm_vk_a, pm_cti, pm_ctr, pm_ldi_z, pm_ldi_s, pm_lda_z, pm_lda_s, pm_cat_n, pm_cat_i, pm_cat_r, pm_cat_l, pm_obj, pm_arr, pm_opt, pm_ird, pm_aln, List.getElem?_cons_zero, List.getElem?_cons_succ, List.set_cons_zero, List.set_cons_succ, List.length_cons, List.length_nil, List.length_set, true_and, and_true, Nat.add_zero, Nat.zero_add, Nat.le_refl, Nat.reduceAdd, Nat.reduceLT, Nat.reduceLeDiff, Nat.zero_le, not_false_eq_true, not_true_eq_false, false_implies, implies_true, true_implies, Nat.zero_lt_succ, Nat.lt_add_one, pm_tl_n, pm_tl_s, sc_uL, l3, l2']
      have Kf := S.sk.fl L4
      rw [if_pos hf, kk] at Kf
      refine ⟨_, _, _, _, P3, Xz _ _ _ ?_ (fun z => absurd z (nI_ne1 (by omega))) hl⟩
      rw [hZ]
      exact Kf
    · have tt : top = false := by
        rw [ht]
        exact decide_eq_false (by omega)
      rw [if_neg (fun z => by rw [tt] at z; exact absurd z.2 (by decide)), if_pos c] at hZ
      have n6 : ¬ nI dp = 6 := fun z => c6 ((nI_inj (b := 6) (by omega) (by omega)).mp z)
      obtain ⟨h3, E3, l3, P3⟩ := P2.uf (skp bs p) (skp bs p) (dp + 1) n fa
      have H3 := P3.c0
      have l3' : h3.length = h.length := l3.trans l2'
      have et : taF (cuF bs 5).1 40 s.1 = (s.1.1 + 1, s.1.2) := by
        unfold taF
        rw [if_pos c]
      obtain ⟨t, ht2⟩ : ∃ t : XZ, t = xTk (cuF bs 5).1 40 s := ⟨_, rfl⟩
      have ht1 : t.1 = (s.1.1 + 1, s.1.2) := by
        rw [ht2]
        exact et
      have ht3 : t.2 = s.2 := by
        rw [ht2]
        rfl
      rw [← ht2] at hZ
      show W_X12_item _ _ _ _ _ _ _ _ _
      simp only [w_X12_item_25, w_X12_item_32, w_X12_item_33, w_X12_item_35, w_X12_item_37, w_X12_item_85, w_X12_item_86, w_X12_item_89, w_X12_item_91, w_X12_item_103, w_X12_item_104, w_X12_item_105, w_X12_item_108, w_X12_item_109, w_X12_item_110, w_X12_item_113, w_X12_item_114, w_X12_item_116, pm_1i_c, pm_2i_c, pm_1l_c, pm_2l_c, pm_1a_c, pm_ia_c, pm_iia_c, pm_va_c, pm_cp_c, pm_k0_c, pm_k1_c, pm_k2_c, pm_k3_c, pm_s1_c, pm_s2_c, pm_s3_c, pm_s4_c, pm_ri_c, pm_ra_c, pm_rn_c, pm_rk_i, pm_rk_z, pm_rk_a, pm_vk_i, pm_vk_z, pm_vk_a, pm_cti, pm_ctr, pm_ldi_z, pm_ldi_s, pm_lda_z, pm_lda_s, pm_cat_n, pm_cat_i, pm_cat_r, pm_cat_l, pm_obj, pm_arr, pm_opt, pm_ird, pm_aln, List.getElem?_cons_zero, List.getElem?_cons_succ, List.set_cons_zero, List.set_cons_succ, List.length_cons, List.length_nil, List.length_set, true_and, and_true, Nat.add_zero, Nat.zero_add, Nat.le_refl, Nat.reduceAdd, Nat.reduceLT, Nat.reduceLeDiff, Nat.zero_le, not_false_eq_true, not_true_eq_false, false_implies, implies_true, true_implies, Nat.zero_lt_succ, Nat.lt_add_one, pm_tl_n, pm_tl_s, sc_uL, H2, l2', n6, nI_1, E3, H3, l3', show ¬ (1 : Int32) = 0 by decide]
      refine PM_use (c_Z_asks P3 T (Or.inl S.sk : Xm bs s.1 (skp bs p) fa) sgn_40 (D + 1)) ?_
      rintro x h4 l4 ⟨rfl, p4, b4, fa4, P4, S4, y4⟩
      have H4 := P4.c0
      have l4' : h4.length = h.length := l4.trans l3'
      have e4 : neF (cuF bs 5).1 (nI 40) s.1 = t.1 := by
        unfold neF
        rw [if_pos c', ht1]
      rw [e4] at S4
      have f4 : fa4 = -1 := S4.ff.mp (by rw [ht1]; exact sf)
      have I := HE (by omega) h4 t p4 b4 fa4 ks P4 S4 f4 (by rw [ht3]; exact hk) hl
      show W_X12_item _ _ _ _ _ _ _ _ _
      simp only [w_X12_item_119, w_X12_item_120, pm_1i_c, pm_2i_c, pm_1l_c, pm_2l_c, pm_1a_c, pm_ia_c, pm_iia_c, pm_va_c, pm_cp_c, pm_k0_c, pm_k1_c, pm_k2_c, pm_k3_c, pm_s1_c, pm_s2_c, pm_s3_c, pm_s4_c, pm_ri_c, pm_ra_c, pm_rn_c, pm_rk_i, pm_rk_z, pm_rk_a, pm_vk_i, pm_vk_z, pm_vk_a, pm_cti, pm_ctr, pm_ldi_z, pm_ldi_s, pm_lda_z, pm_lda_s, pm_cat_n, pm_cat_i, pm_cat_r, pm_cat_l, pm_obj, pm_arr, pm_opt, pm_ird, pm_aln, List.getElem?_cons_zero, List.getElem?_cons_succ, List.set_cons_zero, List.set_cons_succ, List.length_cons, List.length_nil, List.length_set, true_and, and_true, Nat.add_zero, Nat.zero_add, Nat.le_refl, Nat.reduceAdd, Nat.reduceLT, Nat.reduceLeDiff, Nat.zero_le, not_false_eq_true, not_true_eq_false, false_implies, implies_true, true_implies, Nat.zero_lt_succ, Nat.lt_add_one, pm_tl_n, pm_tl_s, sc_uL, H4, l4']
      refine PM_use (I) ?_
      rintro x h5 l5 ⟨rfl, p5, b5, fa5, ks5, P5, X5, w5, y5⟩
      have H5 := P5.c0
      have l5' : h5.length = h.length := l5.trans l4'
      obtain ⟨u, hu⟩ : ∃ u : XZ, u = E t := ⟨_, rfl⟩
      have hgr := hE t
      rw [← hu] at hZ X5 y5 hgr
      rw [ht3] at hgr
      obtain ⟨inner, hin⟩ := hgr
      show W_X12_item _ _ _ _ _ _ _ _ _
      simp only [w_X12_item_123, w_X12_item_124, w_X12_item_126, pm_1i_c, pm_2i_c, pm_1l_c, pm_2l_c, pm_1a_c, pm_ia_c, pm_iia_c, pm_va_c, pm_cp_c, pm_k0_c, pm_k1_c, pm_k2_c, pm_k3_c, pm_s1_c, pm_s2_c, pm_s3_c, pm_s4_c, pm_ri_c, pm_ra_c, pm_rn_c, pm_rk_i, pm_rk_z, pm_rk_a, pm_vk_i, pm_vk_z, pm_vk_a, pm_cti, pm_ctr, pm_ldi_z, pm_ldi_s, pm_lda_z, pm_lda_s, pm_cat_n, pm_cat_i, pm_cat_r, pm_cat_l, pm_obj, pm_arr, pm_opt, pm_ird, pm_aln, List.getElem?_cons_zero, List.getElem?_cons_succ, List.set_cons_zero, List.set_cons_succ, List.length_cons, List.length_nil, List.length_set, true_and, and_true, Nat.add_zero, Nat.zero_add, Nat.le_refl, Nat.reduceAdd, Nat.reduceLT, Nat.reduceLeDiff, Nat.zero_le, not_false_eq_true, not_true_eq_false, false_implies, implies_true, true_implies, Nat.zero_lt_succ, Nat.lt_add_one, pm_tl_n, pm_tl_s, sc_uL, H5, l5']
      refine PM_use (c_Z_asks P5 T X5 sgn_41 (D + 1)) ?_
      rintro x h6 l6 ⟨rfl, p6, b6, fa6, P6, S6, y6⟩
      have H6 := P6.c0
      have l6' : h6.length = h.length := l6.trans l5'
      have nd : nI (dp + 1) - 1 = nI dp := nI_pred dp
      obtain ⟨h7, E7, l7, P7⟩ := P6.uf p6 b6 dp n fa6
      have H7 := P7.c0
      have l7' : h7.length = h.length := l7.trans l6'
      obtain ⟨w, hw⟩ : ∃ w : XZ, w = xNd (cuF bs 5).1 41 u := ⟨_, rfl⟩
      have hw1 : w.1 = neF (cuF bs 5).1 (nI 41) u.1 := by
        rw [hw]
        rfl
      have hw2 : w.2 = u.2 := by
        rw [hw]
        rfl
      rw [← hw] at hZ
      rw [← hw1] at S6 y6
      show W_X12_item _ _ _ _ _ _ _ _ _
      simp only [w_X12_item_129, w_X12_item_130, w_X12_item_131, w_X12_item_134, w_X12_item_135, w_X12_item_136, w_X12_item_139, w_X12_item_140, w_X12_item_143, w_X12_item_144, w_X12_item_145, pm_1i_c, pm_2i_c, pm_1l_c, pm_2l_c, pm_1a_c, pm_ia_c, pm_iia_c, pm_va_c, pm_cp_c, pm_k0_c, pm_k1_c, pm_k2_c, pm_k3_c, pm_s1_c, pm_s2_c, pm_s3_c, pm_s4_c, pm_ri_c, pm_ra_c, pm_rn_c, pm_rk_i, pm_rk_z, pm_rk_a, pm_vk_i, pm_vk_z, pm_vk_a, pm_cti, pm_ctr, pm_ldi_z, pm_ldi_s, pm_lda_z, pm_lda_s, pm_cat_n, pm_cat_i, pm_cat_r, pm_cat_l, pm_obj, pm_arr, pm_opt, pm_ird, pm_aln, List.getElem?_cons_zero, List.getElem?_cons_succ, List.set_cons_zero, List.set_cons_succ, List.length_cons, List.length_nil, List.length_set, true_and, and_true, Nat.add_zero, Nat.zero_add, Nat.le_refl, Nat.reduceAdd, Nat.reduceLT, Nat.reduceLeDiff, Nat.zero_le, not_false_eq_true, not_true_eq_false, false_implies, implies_true, true_implies, Nat.zero_lt_succ, Nat.lt_add_one, pm_tl_n, pm_tl_s, sc_uL, H6, l6', nd, E7, H7, l7']
      show W_X12_item _ _ _ _ _ _ _ _ _
      rw [← l7']
      have pl5 : s.2.length ≤ 500 := by
        rw [← hk]
        exact hl
      have hin' : fa6 = -1 → ks5 = s.2 ++ inner := fun z => by
        rw [(y5 (y6 z).1).2.1, hin]
      have hu5 : fa6 = -1 → inner.length ≤ 500 := fun z => by
        have := hin' z
        rw [this, List.length_append] at w5
        omega
      by_cases z6 : fa6 = -1
      · have zq := zq_rp (start := nI s.1.1) (pre := s.2) (unit := inner) (r := rtF (cuF bs 5).1 (cuF bs 5).2.2 w) (s := w) ns (by rw [rtF_k, hw2, hin]) rtF_k.symm pl5 (hu5 z6)
        have ez : Z = rpC s.2.length (rtF (cuF bs 5).1 (cuF bs 5).2.2 w).1 (ftF ((nI w.2.length - nI s.2.length) * ((rtF (cuF bs 5).1 (cuF bs 5).2.2 w).1 - 1)) (nI s.1.1) (rtF (cuF bs 5).1 (cuF bs 5).2.2 w).2) := hZ
        rw [← ez] at zq
        refine c_Z_rest P7 T V S6 zq ns kp.2 hst (fun _ => ⟨by rw [hk], ?_, ?_, Or.inr ⟨rfl, hin' z6⟩⟩) w5 (fun p' fa' ks' a1 a2 a3 => ?_) _ _ (D + 2)
        · rw [hin' z6, hk, List.length_append, pk_sub (by omega), show s.2.length + inner.length - s.2.length = inner.length by omega]
        · have := hu5 z6
          omega
        · refine Xz _ _ _ a1 (fun z => ?_) a3
          obtain ⟨a4, a5, a6, a7⟩ := a2 z
          obtain ⟨b1, b2⟩ := y6 a4
          obtain ⟨b3, -, b8⟩ := y5 b1
          rw [ht3] at b8
          rw [ht1] at b3
          have b3 : s.1.1 + 1 < u.1.1 := b3
          have b5 : s.1.1 < w.1.1 := by
            rw [b2]
            show s.1.1 < u.1.1 + 1
            omega
          exact ⟨Nat.lt_of_lt_of_le b5 a6, a5, fun k0 => a7 k0 (fun x hx => b8 k0 x (by rw [← hin]; exact List.mem_append_right _ hx))⟩
      · have nf : ¬ w.1.2 = -1 := fun z => z6 (S6.ff.mp z)
        have nr : rtF (cuF bs 5).1 (cuF bs 5).2.2 w = (1, w) := by
          unfold rtF
          rw [taB_ff nf, if_neg (by decide)]
        have ez : Z = w := by
          rw [hZ]
          unfold rpF
          rw [nr, ftF_f nf]
          unfold rpC
          rw [if_neg nf]
        refine c_Z_rest (Z := Z) (pre := []) (unit := []) P7 T V S6 ⟨fun _ => by rw [nr, ez], fun z => ?_⟩ ns kp.2 hst (fun z => absurd z z6) w5 (fun p' fa' ks' a1 a2 a3 => Xz _ _ _ a1 (fun z => absurd (a2 z).1 z6) a3) _ _ (D + 2)
        rw [nr] at z
        exact absurd z nf
  · -- a range
    have c' : ¬ taB (cuF bs 5).1 (nI 40) s.1 = true := by
      rw [show nI 40 = 40 from rfl, c]
      decide
    rw [if_neg c']
    rw [if_neg (fun z => by have := k40.mp z.1; rw [c] at this; cases this), if_neg (by rw [c]; decide)] at hZ
    show W_X12_item _ _ _ _ _ _ _ _ _
    simp only [w_X12_item_25, w_X12_item_28, w_X12_item_29, w_X12_item_32, w_X12_item_33, w_X12_item_35, w_X12_item_37, w_X12_item_40, w_X12_item_41, w_X12_item_42, w_X12_item_43, w_X12_item_46, pm_1i_c, pm_2i_c, pm_1l_c, pm_2l_c, pm_1a_c, pm_ia_c, pm_iia_c, pm_va_c, pm_cp_c, pm_k0_c, pm_k1_c, pm_k2_c, pm_k3_c, pm_s1_c, pm_s2_c, pm_s3_c, pm_s4_c, pm_ri_c, pm_ra_c, pm_rn_c, pm_rk_i, pm_rk_z, pm_rk_a, pm_vk_i, pm_vk_z, pm_vk_a, pm_cti, pm_ctr, pm_ldi_z, pm_ldi_s, pm_lda_z, pm_lda_s, pm_cat_n, pm_cat_i, pm_cat_r, pm_cat_l, pm_obj, pm_arr, pm_opt, pm_ird, pm_aln, List.getElem?_cons_zero, List.getElem?_cons_succ, List.set_cons_zero, List.set_cons_succ, List.length_cons, List.length_nil, List.length_set, true_and, and_true, Nat.add_zero, Nat.zero_add, Nat.le_refl, Nat.reduceAdd, Nat.reduceLT, Nat.reduceLeDiff, Nat.zero_le, not_false_eq_true, not_true_eq_false, false_implies, implies_true, true_implies, Nat.zero_lt_succ, Nat.lt_add_one, pm_tl_n, pm_tl_s, sc_uL, H2, l2', show ¬ (1 : Int32) = 0 by decide]
    refine PM_use (c_Z_num P2 T V (S.sk) hf 0 99999 (D + 3)) ?_
    rintro x h3 l3 ⟨y, p3, b3, fa3, rfl, P3, S3, y3⟩
    have H3 := P3.c0
    have l3' : h3.length = h.length := l3.trans l2'
    obtain ⟨v, hv⟩ : ∃ v, v = nnV (cuF bs 5).1 (cuF bs 5).2.2 s.1 := ⟨_, rfl⟩
    obtain ⟨a, a1, a2⟩ := nnV_rng V s.1
    rw [← hv] at a2 S3 y3
    have iv : ∀ j, j < 100000 → inB (nI j) 0 99999 = true := fun j hj => decide_eq_true ⟨nI_pos (by omega), nI_nlt (b := j) (a := 99999) (by omega) (by omega)⟩
    rw [a2, iv a a1, fuF_t] at S3
    obtain ⟨t, ht2⟩ : ∃ t : XZ, t = xNd (cuF bs 5).1 267 s := ⟨_, rfl⟩
    have ht1 : t.1 = neF (cuF bs 5).1 267 s.1 := by
      rw [ht2]
      rfl
    have ht3 : t.2 = s.2 := by
      rw [ht2]
      rfl
    have hZ2 : Z = rrB v (nI s.1.1) (rlF (cuF bs 5).1 (cuF bs 5).2.2 v t).1 (rtF (cuF bs 5).1 (cuF bs 5).2.2 (rlF (cuF bs 5).1 (cuF bs 5).2.2 v t).2) := by
      rw [hZ, hv, ht2]
      rfl
    rw [← ht2] at S3
    have pl5 : s.2.length ≤ 500 := by
      rw [← hk]
      exact hl
    -- behind the range
    have behind : ∀ (l : Int32) (p4 b4 : Nat) (fa4 : Int32) (g : pmH), pr_ h0 g m o bs p4 b4 dp n fa4 cs ks → g.length = h.length → sm_ bs 5 (rlF (cuF bs 5).1 (cuF bs 5).2.2 v t).2.1 p4 fa4 → (fa4 = -1 → fa3 = -1 ∧ (rlF (cuF bs 5).1 (cuF bs 5).2.2 v t).1 = l ∧ (∃ e, e < 100000 ∧ a ≤ e ∧ l = nI e) ∧ t.1.1 ≤ (rlF (cuF bs 5).1 (cuF bs 5).2.2 v t).2.1.1) → W_X12_item (D + 6) (h.length + 0) 0 (fun x h' => x = none ∧ ∃ p' b' fa' ks', pr_ h0 h' m o bs p' b' dp n fa' cs ks' ∧ Xi bs s Z p' fa' ks') 72 [some (.ref m), some (.int (nI (skp bs p))), some (.int (nI ks.length)), some (.int y), some (.int 1), some (.int 1), none, none] [.int l] g 0 := by
      intro l p4 b4 fa4 g P4 lg S4 y4
      have H4 := P4.c0
      obtain ⟨q, hq⟩ : ∃ q, q = rlF (cuF bs 5).1 (cuF bs 5).2.2 v t := ⟨_, rfl⟩
      rw [← hq] at hZ2 S4 y4
      have q2 : q.2.2 = s.2 := by
        rw [hq, rlF_k, ht3]
      simp only [w_X12_item_72, w_X12_item_74, w_X12_item_76, w_X12_item_77, w_X12_item_78, w_X12_item_79, w_X12_item_80, w_X12_item_82, pm_1i_c, pm_2i_c, pm_1l_c, pm_2l_c, pm_1a_c, pm_ia_c, pm_iia_c, pm_va_c, pm_cp_c, pm_k0_c, pm_k1_c, pm_k2_c, pm_k3_c, pm_s1_c, pm_s2_c, pm_s3_c, pm_s4_c, pm_ri_c, pm_ra_c, pm_rn_c, pm_rk_i, pm_rk_z, pm_rk_a, pm_vk_i, pm_vk_z, pm_vk_a, pm_cti, pm_ctr, pm_ldi_z, pm_ldi_s, pm_lda_z, pm_lda_s, pm_cat_n, pm_cat_i, pm_cat_r, pm_cat_l, pm_obj, pm_arr, pm_opt, pm_ird, pm_aln, List.getElem?_cons_zero, List.getElem?_cons_succ, List.set_cons_zero, List.set_cons_succ, List.length_cons, List.length_nil, List.length_set, true_and, and_true, Nat.add_zero, Nat.zero_add, Nat.le_refl, Nat.reduceAdd, Nat.reduceLT, Nat.reduceLeDiff, Nat.zero_le, not_false_eq_true, not_true_eq_false, false_implies, implies_true, true_implies, Nat.zero_lt_succ, Nat.lt_add_one, H4, lg]
      rw [← lg]
      by_cases z4 : fa4 = -1
      · obtain ⟨z3, e1, ⟨e, e2, e3, rfl⟩, e5⟩ := y4 z4
        obtain ⟨y1, y2, y5⟩ := y3 z3
        rw [a2] at y1
        have ed : nI e - nI a + 1 = nI (e - a + 1) := by
          rw [pk_sub e3, nI_1]
        have ed2 : q.1 - v + 1 = nI (e - a + 1) := by
          rw [e1, a2, ed]
        have cq : (nI (e - a + 1)).toNatClampNeg = e - a + 1 := nI_clamp (by omega)
        have ca : (nI a).toNatClampNeg = a := nI_clamp (by omega)
        have zq := zq_rr (start := nI s.1.1) (first := v) (last := q.1) (pre := s.2) (r := rtF (cuF bs 5).1 (cuF bs 5).2.2 q.2) (s := q.2) ns (by rw [rtF_k, q2]) pl5 (fun _ => ⟨e - a + 1, by omega, ed2⟩)
        rw [ed2, cq, a2, ca] at zq
        have ez : Z = rrC (nI a) q.1 (rtF (cuF bs 5).1 (cuF bs 5).2.2 q.2).1 (ftF (nI (e - a + 1) * (rtF (cuF bs 5).1 (cuF bs 5).2.2 q.2).1) (nI s.1.1) (rtF (cuF bs 5).1 (cuF bs 5).2.2 q.2).2) := by
          rw [hZ2]
          unfold rrB
          rw [ed2, a2]
        rw [← ez] at zq
        refine c_Z_rest P4 T V S4 zq ns kp.2 hst (fun _ => ⟨by rw [hk], ?_, by rw [rgL_len]; omega, Or.inl ⟨rfl, hk, a, by omega, y1, by rw [rgL_len]⟩⟩) hl (fun p' fa' ks' b1 b2 b3 => ?_) _ _ (D + 2)
        · rw [y1, ed, rgL_len]
        · refine Xz _ _ _ b1 (fun z => ?_) b3
          obtain ⟨b4, b5, b6, b8⟩ := b2 z
          refine ⟨?_, b5, fun k0 => b8 k0 (kyL_rg (by omega))⟩
          have b7 : s.1.1 < t.1.1 := by
            rw [ht1, y5]
            exact Nat.lt_succ_self _
          omega
      · have nf : ¬ q.2.1.2 = -1 := fun z => z4 (S4.ff.mp z)
        have nr : rtF (cuF bs 5).1 (cuF bs 5).2.2 q.2 = (1, q.2) := by
          unfold rtF
          rw [taB_ff nf, if_neg (by decide)]
        have ez : Z = q.2 := by
          rw [hZ2]
          unfold rrB
          rw [nr, ftF_f nf]
          unfold rrC
          rw [if_neg nf]
        refine c_Z_rest (Z := Z) (pre := []) (unit := []) P4 T V S4 ⟨fun _ => by rw [nr, ez], fun z => ?_⟩ ns kp.2 hst (fun z => absurd z z4) hl (fun p' fa' ks' b1 b2 b3 => Xz _ _ _ b1 (fun z => absurd (b2 z).1 z4) b3) _ _ (D + 2)
        rw [nr] at z
        exact absurd z nf
    show W_X12_item _ _ _ _ _ _ _ _ _
    simp only [w_X12_item_49, w_X12_item_50, w_X12_item_51, w_X12_item_53, pm_1i_c, pm_2i_c, pm_1l_c, pm_2l_c, pm_1a_c, pm_ia_c, pm_iia_c, pm_va_c, pm_cp_c, pm_k0_c, pm_k1_c, pm_k2_c, pm_k3_c, pm_s1_c, pm_s2_c, pm_s3_c, pm_s4_c, pm_ri_c, pm_ra_c, pm_rn_c, pm_rk_i, pm_rk_z, pm_rk_a, pm_vk_i, pm_vk_z, pm_vk_a, pm_cti, pm_ctr, pm_ldi_z, pm_ldi_s, pm_lda_z, pm_lda_s, pm_cat_n, pm_cat_i, pm_cat_r, pm_cat_l, pm_obj, pm_arr, pm_opt, pm_ird, pm_aln, List.getElem?_cons_zero, List.getElem?_cons_succ, List.set_cons_zero, List.set_cons_succ, List.length_cons, List.length_nil, List.length_set, true_and, and_true, Nat.add_zero, Nat.zero_add, Nat.le_refl, Nat.reduceAdd, Nat.reduceLT, Nat.reduceLeDiff, Nat.zero_le, not_false_eq_true, not_true_eq_false, false_implies, implies_true, true_implies, Nat.zero_lt_succ, Nat.lt_add_one, pm_tl_n, pm_tl_s, sc_uL, H3, l3']
    refine PM_use (c_Y_takes P3 T S3 sgn_45 (D + 2)) ?_
    rintro x h4 l4 ⟨rfl, P4⟩
    have H4 := P4.c0
    have l4' : h4.length = h.length := l4.trans l3'
    have K4 := S3.tk T.2.1 sgn_45
    rcases Bool.eq_false_or_eq_true (taB (cuF bs 5).1 45 t.1) with c4 | c4
    · have c4' : taB (cuF bs 5).1 (nI 45) t.1 = true := c4
      rw [if_pos c4'] at P4 K4 ⊢
      have z3 := S3.ff.mp (taB_ll (by decide) c4).1
      obtain ⟨y1, y2, y5⟩ := y3 z3
      rw [a2] at y1
      obtain ⟨u, hu⟩ : ∃ u : XZ, u = xTk (cuF bs 5).1 45 t := ⟨_, rfl⟩
      have hu1 : u.1 = (t.1.1 + 1, t.1.2) := by
        rw [hu]
        show taF _ _ _ = _
        unfold taF
        rw [if_pos c4]
      have K5 : sm_ bs 5 u.1 (skp bs p3 + 1) fa3 := by
        rw [hu]
        exact K4
      show W_X12_item _ _ _ _ _ _ _ _ _
      simp only [w_X12_item_56, w_X12_item_59, w_X12_item_60, w_X12_item_61, w_X12_item_62, w_X12_item_65, pm_1i_c, pm_2i_c, pm_1l_c, pm_2l_c, pm_1a_c, pm_ia_c, pm_iia_c, pm_va_c, pm_cp_c, pm_k0_c, pm_k1_c, pm_k2_c, pm_k3_c, pm_s1_c, pm_s2_c, pm_s3_c, pm_s4_c, pm_ri_c, pm_ra_c, pm_rn_c, pm_rk_i, pm_rk_z, pm_rk_a, pm_vk_i, pm_vk_z, pm_vk_a, pm_cti, pm_ctr, pm_ldi_z, pm_ldi_s, pm_lda_z, pm_lda_s, pm_cat_n, pm_cat_i, pm_cat_r, pm_cat_l, pm_obj, pm_arr, pm_opt, pm_ird, pm_aln, List.getElem?_cons_zero, List.getElem?_cons_succ, List.set_cons_zero, List.set_cons_succ, List.length_cons, List.length_nil, List.length_set, true_and, and_true, Nat.add_zero, Nat.zero_add, Nat.le_refl, Nat.reduceAdd, Nat.reduceLT, Nat.reduceLeDiff, Nat.zero_le, not_false_eq_true, not_true_eq_false, false_implies, implies_true, true_implies, Nat.zero_lt_succ, Nat.lt_add_one, pm_tl_n, pm_tl_s, sc_uL, H4, l4', show ¬ (1 : Int32) = 0 by decide]
      rw [y1]
      refine PM_use (c_Z_num P4 T V K5 z3 (nI a) 99999 (D + 3)) ?_
      rintro x h5 l5 ⟨l, p5, b5, fa5, rfl, P5, S5, w5⟩
      obtain ⟨e, e1, e2⟩ := nnV_rng V u.1
      have er : rlF (cuF bs 5).1 (cuF bs 5).2.2 v t = (nI e, fuF (inB (nI e) (nI a) 99999) (xNd (cuF bs 5).1 267 u)) := by
        unfold rlF
        rw [if_pos c4, ← hu, e2, a2]
        congr 1
        have : decide (¬ nI e < nI a) = inB (nI e) (nI a) 99999 := by
          unfold inB
          rw [decide_eq_decide]
          exact ⟨fun z => ⟨z, nI_nlt (b := e) (a := 99999) (by omega) (by omega)⟩, fun z => z.1⟩
        rw [this]
      rw [e2] at S5 w5
      show W_X12_item _ _ _ _ _ _ _ _ _
      simp only [w_X12_item_68, pm_1i_c, pm_2i_c, pm_1l_c, pm_2l_c, pm_1a_c, pm_ia_c, pm_iia_c, pm_va_c, pm_cp_c, pm_k0_c, pm_k1_c, pm_k2_c, pm_k3_c, pm_s1_c, pm_s2_c, pm_s3_c, pm_s4_c, pm_ri_c, pm_ra_c, pm_rn_c, pm_rk_i, pm_rk_z, pm_rk_a, pm_vk_i, pm_vk_z, pm_vk_a, pm_cti, pm_ctr, pm_ldi_z, pm_ldi_s, pm_lda_z, pm_lda_s, pm_cat_n, pm_cat_i, pm_cat_r, pm_cat_l, pm_obj, pm_arr, pm_opt, pm_ird, pm_aln, List.getElem?_cons_zero, List.getElem?_cons_succ, List.set_cons_zero, List.set_cons_succ, List.length_cons, List.length_nil, List.length_set, true_and, and_true, Nat.add_zero, Nat.zero_add, Nat.le_refl, Nat.reduceAdd, Nat.reduceLT, Nat.reduceLeDiff, Nat.zero_le, not_false_eq_true, not_true_eq_false, false_implies, implies_true, true_implies, Nat.zero_lt_succ, Nat.lt_add_one, pm_tl_n, pm_tl_s, sc_uL]
      rw [← y1]
      refine behind l p5 b5 fa5 h5 P5 (l5.trans l4') (by rw [er]; exact S5) (fun z => ?_)
      obtain ⟨w1, w2, w3⟩ := w5 z
      refine ⟨z3, by rw [er, w1], ⟨e, e1, ?_, w1⟩, ?_⟩
      · rw [w1] at w2
        have w2 := (of_decide_eq_true w2).1
        rcases Nat.lt_or_ge e a with y | y
        · exact absurd (nI_lt y (by omega)) w2
        · exact y
      · rw [er, ← w1, w2, fuF_t]
        show t.1.1 ≤ (neF _ _ _).1
        rw [w3, hu1]
        show t.1.1 ≤ t.1.1 + 1 + 1
        omega
    · have c4' : ¬ taB (cuF bs 5).1 (nI 45) t.1 = true := by
        rw [show nI 45 = 45 from rfl, c4]
        decide
      rw [if_neg c4'] at P4 ⊢
      have er : rlF (cuF bs 5).1 (cuF bs 5).2.2 v t = (v, t) := by
        unfold rlF
        rw [if_neg (by rw [c4]; decide)]
      show W_X12_item _ _ _ _ _ _ _ _ _
      simp only [w_X12_item_56, w_X12_item_71, pm_1i_c, pm_2i_c, pm_1l_c, pm_2l_c, pm_1a_c, pm_ia_c, pm_iia_c, pm_va_c, pm_cp_c, pm_k0_c, pm_k1_c, pm_k2_c, pm_k3_c, pm_s1_c, pm_s2_c, pm_s3_c, pm_s4_c, pm_ri_c, pm_ra_c, pm_rn_c, pm_rk_i, pm_rk_z, pm_rk_a, pm_vk_i, pm_vk_z, pm_vk_a, pm_cti, pm_ctr, pm_ldi_z, pm_ldi_s, pm_lda_z, pm_lda_s, pm_cat_n, pm_cat_i, pm_cat_r, pm_cat_l, pm_obj, pm_arr, pm_opt, pm_ird, pm_aln, List.getElem?_cons_zero, List.getElem?_cons_succ, List.set_cons_zero, List.set_cons_succ, List.length_cons, List.length_nil, List.length_set, true_and, and_true, Nat.add_zero, Nat.zero_add, Nat.le_refl, Nat.reduceAdd, Nat.reduceLT, Nat.reduceLeDiff, Nat.zero_le, not_false_eq_true, not_true_eq_false, false_implies, implies_true, true_implies, Nat.zero_lt_succ, Nat.lt_add_one, pm_tl_n, pm_tl_s, sc_uL, l4']
      refine behind y _ _ fa3 h4 P4 l4' (by rw [er]; exact S3.sk) (fun z => ?_)
      obtain ⟨y1, y2, y5⟩ := y3 z
      rw [a2] at y1
      exact ⟨z, by rw [er, a2, y1], ⟨a, a1, Nat.le_refl _, y1⟩, by rw [er]; exact Nat.le_refl _⟩
end TR
