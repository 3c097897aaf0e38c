/-! AdmissionDeskModel: items of a trace, against the class's. -/
section XF
variable {K N : List Int32}
theorem rlF_ff {f : Int32} {s : XZ} (h : ¬ s.1.2 = -1) : rlF K N f s = (f, s) := by
  unfold rlF
  rw [taB_ff h, if_neg (by decide)]
theorem rtF_ff {s : XZ} (h : ¬ s.1.2 = -1) : rtF K N s = (1, s) := by
  unfold rtF
  rw [taB_ff h, if_neg (by decide)]
theorem imG_ff {A : XZ → XZ} {s : XZ} (h : ¬ s.1.2 = -1) : ∀ z, imG K A z s = s
  | 0 => rfl
  | z + 1 => by
    rw [imG_s]
    have e : kiF K s.1 = 268 := if_neg h
    rw [if_neg (by rw [e]; decide)]
theorem itF_w {top : Bool} {E : XZ → XZ} {s : XZ} (hx : s.1.1 < 2 ^ 31) (sf : s.1.2 = -1) (hk : K.getD s.1.1 (-1) = 268) : (itF K N top E s).1 = (s.1.1, nI s.1.1) := by
  have ki : kiF K s.1 = 268 := by
    unfold kiF
    rw [if_pos sf, hk]
  have t : ∀ k, k ≠ 268 → taB K k s.1 = false := fun k hk2 => decide_eq_false (fun z => hk2 (z.2.symm.trans hk))
  have e1 : xNd K 267 s = ((s.1.1, nI s.1.1), s.2) := by
    unfold xNd neF
    rw [t 267 (by decide), if_neg (by decide)]
    unfold faF
    rw [if_pos sf]
  have nf : ¬ (((s.1.1, nI s.1.1), s.2) : XZ).1.2 = -1 := nI_ne1 hx
  unfold itF itB
  rw [if_neg (by rw [ki]; exact fun z => absurd z.1 (by decide)), t 40 (by decide), if_neg (by decide)]
  unfold rrF
  rw [e1, rlF_ff nf]
  dsimp only
  rw [rtF_ff nf]
  unfold rrB
  rw [ftF_f nf]
  unfold rrC
  rw [if_neg nf]
end XF
section TR
variable {h0 h h' : pmH} {m : Nat} {o : Nat → Int32} {bs : List Int32} {p b dp n : Nat} {fa : Int32} {cs ks : List Int32} {s : XZ}
set_option maxHeartbeats 4000000 in
theorem c_Z_items (T : tap_ h0 m bs) {A : XZ → XZ} {D : Nat} (HA : ∀ (h : pmH) (s : XZ) (p b : Nat) (fa : Int32) (ks : List Int32), pr_ h0 h m o bs p b dp n fa cs ks → sm_ bs 5 s.1 p fa → fa = -1 → ks = s.2 → ks.length ≤ 500 → PM (D + 7) 207 [.ref m] h (fun x h' => x = none ∧ ∃ p' b' fa' ks', pr_ h0 h' m o bs p' b' dp n fa' cs ks' ∧ Xi bs s (A s) p' fa' ks')) (HW : ∀ s : XZ, s.1.1 < 2 ^ 31 → s.1.2 = -1 → (cuF bs 5).1.getD s.1.1 (-1) = 268 → (A s).1 = (s.1.1, nI s.1.1)) (P : pr_ h0 h m o bs p b dp n fa cs ks) (S : sm_ bs 5 s.1 p fa) (hf : fa = -1) (hk : ks = s.2) (hl : ks.length ≤ 500) : PM (D + 8) 206 [.ref m] h (fun x h' => x = none ∧ ∃ p' b' fa' ks', pr_ h0 h' m o bs p' b' dp n fa' cs ks' ∧ Xr bs s (imF (cuF bs 5).1 A s) p' fa' ks') := by
  have H0 := P.c0
  have L4 := T.1
  have KL := cuF_kl1 (dm := 5) L4
  obtain ⟨Z, hZ⟩ : ∃ Z, Z = imF (cuF bs 5).1 A s := ⟨_, rfl⟩
  rw [← hZ]
  refine en_X12_items rfl ?_
  -- it has failed
  have out : ∀ (g : pmH) (p1 b1 : Nat) (fa1 : Int32) (ks1 : List Int32) (q : PS), ¬ fa1 = -1 → pr_ h0 g m o bs p1 b1 dp n fa1 cs ks1 → g.length = h.length → sm_ bs 5 q p1 fa1 → (∀ p', p' ≤ bs.length → Xm bs Z.1 p' fa1) → ks1.length ≤ 500 → W_X12_items (D + 7) (h.length + 0) 0 (fun x h' => x = none ∧ ∃ p' b' fa' ks', pr_ h0 h' m o bs p' b' dp n fa' cs ks' ∧ Xr bs s Z p' fa' ks') 17 [some (.ref m), some (.int 1)] [] g 0 := by
    intro g p1 b1 fa1 ks1 q nf P1 lg Sq X1 k1
    have H1 := P1.c0
    have kp := skp_le (bs := bs) Sq.1
    have kp2 := skp_le (bs := bs) kp.2
    rw [w_X12_items_17]
    simp only [w_X12_items_18, pm_1i_c, pm_2i_c, pm_1l_c, pm_2l_c, pm_1a_c, pm_ia_c, pm_iia_c, pm_va_c, pm_cp_c, pm_k0_c, pm_k1_c, pm_k2_c, pm_k3_c, pm_s1_c, pm_s2_c, pm_s3_c, pm_s4_c, pm_ri_c, pm_ra_c, pm_rn_c, pm_rk_i, pm_rk_z, pm_rk_a, pm_vk_i, pm_vk_z, pm_vk_a, pm_cti, pm_ctr, pm_ldi_z, pm_ldi_s, pm_lda_z, pm_lda_s, pm_cat_n, pm_cat_i, pm_cat_r, pm_cat_l, pm_obj, pm_arr, pm_opt, pm_ird, pm_aln, List.getElem?_cons_zero, List.getElem?_cons_succ, List.set_cons_zero, List.set_cons_succ, List.length_cons, List.length_nil, List.length_set, true_and, and_true, Nat.add_zero, Nat.zero_add, Nat.le_refl, Nat.reduceAdd, Nat.reduceLT, Nat.reduceLeDiff, Nat.zero_le, not_false_eq_true, not_true_eq_false, false_implies, implies_true, true_implies, Nat.zero_lt_succ, Nat.lt_add_one, H1, lg]
    refine PM_use (c_Y_isNumber P1 T Sq.1 (D + 4)) ?_
    rintro x h2 l2 ⟨rfl, P2⟩
    have H2 := P2.c0
    rw [decide_eq_false nf, Bool.false_and]
    simp only [Bool.false_eq_true, if_false]
    show W_X12_items _ _ _ _ _ _ _ _ _
    simp only [w_X12_items_21, w_X12_items_24, w_X12_items_25, w_X12_items_27, pm_1i_c, pm_2i_c, pm_1l_c, pm_2l_c, pm_1a_c, pm_ia_c, pm_iia_c, pm_va_c, pm_cp_c, pm_k0_c, pm_k1_c, pm_k2_c, pm_k3_c, pm_s1_c, pm_s2_c, pm_s3_c, pm_s4_c, pm_ri_c, pm_ra_c, pm_rn_c, pm_rk_i, pm_rk_z, pm_rk_a, pm_vk_i, pm_vk_z, pm_vk_a, pm_cti, pm_ctr, pm_ldi_z, pm_ldi_s, pm_lda_z, pm_lda_s, pm_cat_n, pm_cat_i, pm_cat_r, pm_cat_l, pm_obj, pm_arr, pm_opt, pm_ird, pm_aln, List.getElem?_cons_zero, List.getElem?_cons_succ, List.set_cons_zero, List.set_cons_succ, List.length_cons, List.length_nil, List.length_set, true_and, and_true, Nat.add_zero, Nat.zero_add, Nat.le_refl, Nat.reduceAdd, Nat.reduceLT, Nat.reduceLeDiff, Nat.zero_le, not_false_eq_true, not_true_eq_false, false_implies, implies_true, true_implies, Nat.zero_lt_succ, Nat.lt_add_one, pm_tl_n, pm_tl_s, sc_uL, H2, l2, lg]
    refine PM_use (c_Y_isSign P2 T Sq.sk sgn_40 (D + 4)) ?_
    rintro x h3 l3 ⟨rfl, P3⟩
    have nq : ¬ q.2 = -1 := fun z => nf (Sq.ff.mp z)
    rw [taB_ff nq]
    simp only [Bool.false_eq_true, if_false]
    show W_X12_items _ _ _ _ _ _ _ _ _
    simp only [w_X12_items_2, w_X12_items_3, w_X12_items_30, w_X12_items_37, w_X12_items_38, w_X12_items_39, w_X12_items_42, pm_1i_c, pm_2i_c, pm_1l_c, pm_2l_c, pm_1a_c, pm_ia_c, pm_iia_c, pm_va_c, pm_cp_c, pm_k0_c, pm_k1_c, pm_k2_c, pm_k3_c, pm_s1_c, pm_s2_c, pm_s3_c, pm_s4_c, pm_ri_c, pm_ra_c, pm_rn_c, pm_rk_i, pm_rk_z, pm_rk_a, pm_vk_i, pm_vk_z, pm_vk_a, pm_cti, pm_ctr, pm_ldi_z, pm_ldi_s, pm_lda_z, pm_lda_s, pm_cat_n, pm_cat_i, pm_cat_r, pm_cat_l, pm_obj, pm_arr, pm_opt, pm_ird, pm_aln, List.getElem?_cons_zero, List.getElem?_cons_succ, List.set_cons_zero, List.set_cons_succ, List.length_cons, List.length_nil, List.length_set, true_and, and_true, Nat.add_zero, Nat.zero_add, Nat.le_refl, Nat.reduceAdd, Nat.reduceLT, Nat.reduceLeDiff, Nat.zero_le, not_false_eq_true, not_true_eq_false, false_implies, implies_true, true_implies, Nat.zero_lt_succ, Nat.lt_add_one, pm_tl_n, pm_tl_s, sc_uL, l3, l2, lg]
    exact ⟨_, _, _, _, P3, X1 _ kp2.2, k1, fun z => absurd z nf⟩
  -- one item more
  have go : ∀ (g : pmH) (p1 b1 : Nat) (fa1 : Int32) (ks1 : List Int32) (s1 : XZ), fa1 = -1 → pr_ h0 g m o bs p1 b1 dp n fa1 cs ks1 → g.length = h.length → sm_ bs 5 s1.1 p1 fa1 → ks1 = s1.2 → ks1.length ≤ 500 → (∀ (g2 : pmH) (p2 b2 : Nat) (fa2 : Int32) (ks2 : List Int32), pr_ h0 g2 m o bs p2 b2 dp n fa2 cs ks2 → g2.length = h.length → Xi bs s1 (A s1) p2 fa2 ks2 → W_X12_items (D + 7) (h.length + 0) 0 (fun x h' => x = none ∧ ∃ p' b' fa' ks', pr_ h0 h' m o bs p' b' dp n fa' cs ks' ∧ Xr bs s Z p' fa' ks') 17 [some (.ref m), some (.int 1)] [] g2 0) → W_X12_items (D + 7) (h.length + 0) 0 (fun x h' => x = none ∧ ∃ p' b' fa' ks', pr_ h0 h' m o bs p' b' dp n fa' cs ks' ∧ Xr bs s Z p' fa' ks') 2 [some (.ref m), some (.int 1)] [] g 0 := by
    intro g p1 b1 fa1 ks1 s1 hf1 P1 lg S1 e1 k1 K
    have H1 := P1.c0
    rw [w_X12_items_2]
    simp only [w_X12_items_3, w_X12_items_6, w_X12_items_7, pm_1i_c, pm_2i_c, pm_1l_c, pm_2l_c, pm_1a_c, pm_ia_c, pm_iia_c, pm_va_c, pm_cp_c, pm_k0_c, pm_k1_c, pm_k2_c, pm_k3_c, pm_s1_c, pm_s2_c, pm_s3_c, pm_s4_c, pm_ri_c, pm_ra_c, pm_rn_c, pm_rk_i, pm_rk_z, pm_rk_a, pm_vk_i, pm_vk_z, pm_vk_a, pm_cti, pm_ctr, pm_ldi_z, pm_ldi_s, pm_lda_z, pm_lda_s, pm_cat_n, pm_cat_i, pm_cat_r, pm_cat_l, pm_obj, pm_arr, pm_opt, pm_ird, pm_aln, List.getElem?_cons_zero, List.getElem?_cons_succ, List.set_cons_zero, List.set_cons_succ, List.length_cons, List.length_nil, List.length_set, true_and, and_true, Nat.add_zero, Nat.zero_add, Nat.le_refl, Nat.reduceAdd, Nat.reduceLT, Nat.reduceLeDiff, Nat.zero_le, not_false_eq_true, not_true_eq_false, false_implies, implies_true, true_implies, Nat.zero_lt_succ, Nat.lt_add_one, H1, lg, show ¬ (1 : Int32) = 0 by decide]
    refine PM_use (c_Y_hasFailed P1 (D + 6)) ?_
    rintro x g1 l1 ⟨rfl, rfl⟩
    simp only [if_pos hf1]
    show W_X12_items _ _ _ _ _ _ _ _ _
    simp only [w_X12_items_10, w_X12_items_13, w_X12_items_14, pm_1i_c, pm_2i_c, pm_1l_c, pm_2l_c, pm_1a_c, pm_ia_c, pm_iia_c, pm_va_c, pm_cp_c, pm_k0_c, pm_k1_c, pm_k2_c, pm_k3_c, pm_s1_c, pm_s2_c, pm_s3_c, pm_s4_c, pm_ri_c, pm_ra_c, pm_rn_c, pm_rk_i, pm_rk_z, pm_rk_a, pm_vk_i, pm_vk_z, pm_vk_a, pm_cti, pm_ctr, pm_ldi_z, pm_ldi_s, pm_lda_z, pm_lda_s, pm_cat_n, pm_cat_i, pm_cat_r, pm_cat_l, pm_obj, pm_arr, pm_opt, pm_ird, pm_aln, List.getElem?_cons_zero, List.getElem?_cons_succ, List.set_cons_zero, List.set_cons_succ, List.length_cons, List.length_nil, List.length_set, true_and, and_true, Nat.add_zero, Nat.zero_add, Nat.le_refl, Nat.reduceAdd, Nat.reduceLT, Nat.reduceLeDiff, Nat.zero_le, not_false_eq_true, not_true_eq_false, false_implies, implies_true, true_implies, Nat.zero_lt_succ, Nat.lt_add_one, pm_tl_n, pm_tl_s, sc_uL, H1, lg]
    refine PM_use (HA _ s1 p1 b1 fa1 ks1 P1 S1 hf1 e1 k1) ?_
    rintro x g2 l2 ⟨rfl, p2, b2, fa2, ks2, P2, X2⟩
    show W_X12_items _ _ _ _ _ _ _ _ _
    exact K g2 p2 b2 fa2 ks2 P2 (l2.trans lg) X2
  have loop : ∀ (z : Nat) (s1 : XZ) (p1 b1 : Nat) (fa1 : Int32) (ks1 : List Int32) (g : pmH), Xi bs s s1 p1 fa1 ks1 → pr_ h0 g m o bs p1 b1 dp n fa1 cs ks1 → g.length = h.length → (fa1 = -1 → 400 ≤ z + s1.1.1) → imG (cuF bs 5).1 A z s1 = Z → W_X12_items (D + 7) (h.length + 0) 0 (fun x h' => x = none ∧ ∃ p' b' fa' ks', pr_ h0 h' m o bs p' b' dp n fa' cs ks' ∧ Xr bs s Z p' fa' ks') 17 [some (.ref m), some (.int 1)] [] g 0 := by
    intro z
    induction z with
    | zero =>
      intro s1 p1 b1 fa1 ks1 g X1 P1 lg hz e
      obtain ⟨S1, k1, y1⟩ := X1
      have e : s1 = Z := e
      by_cases hf1 : fa1 = -1
      · have R := S1.rt hf1
        have i2 := R.2.1
        have i4 := hz hf1
        have kp := skp_le (bs := bs) S1.1
        have kp2 := skp_le (bs := bs) kp.2
        have kk := skp_skp (bs := bs) S1.1
        have H1 := P1.c0
        have cs1 : ¬ skp bs p1 < bs.length := fun c => by
          cases cd : isD (bs.getD (skp bs p1) (-1)) with
          | true =>
            have := (RT_num R c cd).1
            omega
          | false =>
            cases cl : isL (bs.getD (skp bs p1) (-1)) with
            | true =>
              have := (RT_word R c cd cl).1
              omega
            | false =>
              have := (RT_sign R c cd cl).1
              omega
        have na : atV bs (skp bs p1) 48 57 = false := by
          cases y : atV bs (skp bs p1) 48 57 with
          | false => rfl
          | true => exact absurd ((atV_d T.2.1 _).mp y).1 cs1
        have t40 : taB (cuF bs 5).1 (nI 40) s1.1 = false := by
          cases y : taB (cuF bs 5).1 (nI 40) s1.1 with
          | false => rfl
          | true =>
            have := (taB_ll (by decide) y).2
            omega
        rw [w_X12_items_17]
        simp only [w_X12_items_18, pm_1i_c, pm_2i_c, pm_1l_c, pm_2l_c, pm_1a_c, pm_ia_c, pm_iia_c, pm_va_c, pm_cp_c, pm_k0_c, pm_k1_c, pm_k2_c, pm_k3_c, pm_s1_c, pm_s2_c, pm_s3_c, pm_s4_c, pm_ri_c, pm_ra_c, pm_rn_c, pm_rk_i, pm_rk_z, pm_rk_a, pm_vk_i, pm_vk_z, pm_vk_a, pm_cti, pm_ctr, pm_ldi_z, pm_ldi_s, pm_lda_z, pm_lda_s, pm_cat_n, pm_cat_i, pm_cat_r, pm_cat_l, pm_obj, pm_arr, pm_opt, pm_ird, pm_aln, List.getElem?_cons_zero, List.getElem?_cons_succ, List.set_cons_zero, List.set_cons_succ, List.length_cons, List.length_nil, List.length_set, true_and, and_true, Nat.add_zero, Nat.zero_add, Nat.le_refl, Nat.reduceAdd, Nat.reduceLT, Nat.reduceLeDiff, Nat.zero_le, not_false_eq_true, not_true_eq_false, false_implies, implies_true, true_implies, Nat.zero_lt_succ, Nat.lt_add_one, H1, lg]
        refine PM_use (c_Y_isNumber P1 T S1.1 (D + 4)) ?_
        rintro x h2 l2 ⟨rfl, P2⟩
        have H2 := P2.c0
        rw [na, Bool.and_false]
        simp only [Bool.false_eq_true, if_false]
        show W_X12_items _ _ _ _ _ _ _ _ _
        simp only [w_X12_items_21, w_X12_items_24, w_X12_items_25, w_X12_items_27, pm_1i_c, pm_2i_c, pm_1l_c, pm_2l_c, pm_1a_c, pm_ia_c, pm_iia_c, pm_va_c, pm_cp_c, pm_k0_c, pm_k1_c, pm_k2_c, pm_k3_c, pm_s1_c, pm_s2_c, pm_s3_c, pm_s4_c, pm_ri_c, pm_ra_c, pm_rn_c, pm_rk_i, pm_rk_z, pm_rk_a, pm_vk_i, pm_vk_z, pm_vk_a, pm_cti, pm_ctr, pm_ldi_z, pm_ldi_s, pm_lda_z, pm_lda_s, pm_cat_n, pm_cat_i, pm_cat_r, pm_cat_l, pm_obj, pm_arr, pm_opt, pm_ird, pm_aln, List.getElem?_cons_zero, List.getElem?_cons_succ, List.set_cons_zero, List.set_cons_succ, List.length_cons, List.length_nil, List.length_set, true_and, and_true, Nat.add_zero, Nat.zero_add, Nat.le_refl, Nat.reduceAdd, Nat.reduceLT, Nat.reduceLeDiff, Nat.zero_le, not_false_eq_true, not_true_eq_false, false_implies, implies_true, true_implies, Nat.zero_lt_succ, Nat.lt_add_one, pm_tl_n, pm_tl_s, sc_uL, H2, l2, lg]
        refine PM_use (c_Y_isSign P2 T S1.sk sgn_40 (D + 4)) ?_
        rintro x h3 l3 ⟨rfl, P3⟩
        rw [t40]
        simp only [Bool.false_eq_true, if_false]
        show W_X12_items _ _ _ _ _ _ _ _ _
        simp only [w_X12_items_2, w_X12_items_3, w_X12_items_30, w_X12_items_37, w_X12_items_38, w_X12_items_39, w_X12_items_42, pm_1i_c, pm_2i_c, pm_1l_c, pm_2l_c, pm_1a_c, pm_ia_c, pm_iia_c, pm_va_c, pm_cp_c, pm_k0_c, pm_k1_c, pm_k2_c, pm_k3_c, pm_s1_c, pm_s2_c, pm_s3_c, pm_s4_c, pm_ri_c, pm_ra_c, pm_rn_c, pm_rk_i, pm_rk_z, pm_rk_a, pm_vk_i, pm_vk_z, pm_vk_a, pm_cti, pm_ctr, pm_ldi_z, pm_ldi_s, pm_lda_z, pm_lda_s, pm_cat_n, pm_cat_i, pm_cat_r, pm_cat_l, pm_obj, pm_arr, pm_opt, pm_ird, pm_aln, List.getElem?_cons_zero, List.getElem?_cons_succ, List.set_cons_zero, List.set_cons_succ, List.length_cons, List.length_nil, List.length_set, true_and, and_true, Nat.add_zero, Nat.zero_add, Nat.le_refl, Nat.reduceAdd, Nat.reduceLT, Nat.reduceLeDiff, Nat.zero_le, not_false_eq_true, not_true_eq_false, false_implies, implies_true, true_implies, Nat.zero_lt_succ, Nat.lt_add_one, pm_tl_n, pm_tl_s, sc_uL, l3, l2, lg]
        rw [← e]
        exact ⟨_, _, _, _, P3, Or.inl S1.sk.sk, k1, y1⟩
      · rw [← e] at out ⊢
        exact out g p1 b1 fa1 ks1 s1.1 hf1 P1 lg S1 (fun p' hp => Or.inl (S1.mv hf1 hp)) k1
    | succ z ih =>
      intro s1 p1 b1 fa1 ks1 g X1 P1 lg hz e
      obtain ⟨S1, k1, y1⟩ := X1
      by_cases hf1 : fa1 = -1
      · have R := S1.rt hf1
        have i2 := R.2.1
        have i4 := hz hf1
        obtain ⟨y2, y3, y4⟩ := y1 hf1
        have sf := S1.ff.mpr hf1
        have kp := skp_le (bs := bs) S1.1
        have kp2 := skp_le (bs := bs) kp.2
        have kk := skp_skp (bs := bs) S1.1
        have H1 := P1.c0
        have kiE : kiF (cuF bs 5).1 s1.1 = (cuF bs 5).1.getD s1.1.1 (-1) := if_pos sf
        -- the class goes on, too
        have cont : kiF (cuF bs 5).1 s1.1 = 267 ∨ kiF (cuF bs 5).1 s1.1 = 40 → ∀ (g2 : pmH) (p2 b2 : Nat) (fa2 : Int32) (ks2 : List Int32), pr_ h0 g2 m o bs p2 b2 dp n fa2 cs ks2 → g2.length = h.length → Xi bs s1 (A s1) p2 fa2 ks2 → W_X12_items (D + 7) (h.length + 0) 0 (fun x h' => x = none ∧ ∃ p' b' fa' ks', pr_ h0 h' m o bs p' b' dp n fa' cs ks' ∧ Xr bs s Z p' fa' ks') 17 [some (.ref m), some (.int 1)] [] g2 0 := fun kc g2 p2 b2 fa2 ks2 P2 lg2 X2 => by
          rw [imG_s, if_pos kc] at e
          obtain ⟨S2, w1, w2⟩ := X2
          refine ih (A s1) p2 b2 fa2 ks2 g2 ⟨S2, w1, fun y => ⟨?_, (w2 y).2.1, fun k0 => (w2 y).2.2 (y4 k0)⟩⟩ P2 lg2 (fun y => ?_) e
          · have := (w2 y).1
            omega
          · have := (w2 y).1
            omega
        rw [w_X12_items_17]
        simp only [w_X12_items_18, pm_1i_c, pm_2i_c, pm_1l_c, pm_2l_c, pm_1a_c, pm_ia_c, pm_iia_c, pm_va_c, pm_cp_c, pm_k0_c, pm_k1_c, pm_k2_c, pm_k3_c, pm_s1_c, pm_s2_c, pm_s3_c, pm_s4_c, pm_ri_c, pm_ra_c, pm_rn_c, pm_rk_i, pm_rk_z, pm_rk_a, pm_vk_i, pm_vk_z, pm_vk_a, pm_cti, pm_ctr, pm_ldi_z, pm_ldi_s, pm_lda_z, pm_lda_s, pm_cat_n, pm_cat_i, pm_cat_r, pm_cat_l, pm_obj, pm_arr, pm_opt, pm_ird, pm_aln, List.getElem?_cons_zero, List.getElem?_cons_succ, List.set_cons_zero, List.set_cons_succ, List.length_cons, List.length_nil, List.length_set, true_and, and_true, Nat.add_zero, Nat.zero_add, Nat.le_refl, Nat.reduceAdd, Nat.reduceLT, Nat.reduceLeDiff, Nat.zero_le, not_false_eq_true, not_true_eq_false, false_implies, implies_true, true_implies, Nat.zero_lt_succ, Nat.lt_add_one, H1, lg]
        refine PM_use (c_Y_isNumber P1 T S1.1 (D + 4)) ?_
        rintro x h2 l2 ⟨rfl, P2⟩
        have H2 := P2.c0
        have l2' : h2.length = h.length := l2.trans lg
        rw [decide_eq_true hf1, Bool.true_and]
        rcases Bool.eq_false_or_eq_true (atV bs (skp bs p1) 48 57) with c | c
        · obtain ⟨c1, c2⟩ := (atV_d T.2.1 _).mp c
          simp only [c, if_true]
          show W_X12_items _ _ _ _ _ _ _ _ _
          simp only [w_X12_items_21, w_X12_items_33, w_X12_items_34, w_X12_items_37, w_X12_items_38, w_X12_items_39, pm_1i_c, pm_2i_c, pm_1l_c, pm_2l_c, pm_1a_c, pm_ia_c, pm_iia_c, pm_va_c, pm_cp_c, pm_k0_c, pm_k1_c, pm_k2_c, pm_k3_c, pm_s1_c, pm_s2_c, pm_s3_c, pm_s4_c, pm_ri_c, pm_ra_c, pm_rn_c, pm_rk_i, pm_rk_z, pm_rk_a, pm_vk_i, pm_vk_z, pm_vk_a, pm_cti, pm_ctr, pm_ldi_z, pm_ldi_s, pm_lda_z, pm_lda_s, pm_cat_n, pm_cat_i, pm_cat_r, pm_cat_l, pm_obj, pm_arr, pm_opt, pm_ird, pm_aln, List.getElem?_cons_zero, List.getElem?_cons_succ, List.set_cons_zero, List.set_cons_succ, List.length_cons, List.length_nil, List.length_set, true_and, and_true, Nat.add_zero, Nat.zero_add, Nat.le_refl, Nat.reduceAdd, Nat.reduceLT, Nat.reduceLeDiff, Nat.zero_le, not_false_eq_true, not_true_eq_false, false_implies, implies_true, true_implies, Nat.zero_lt_succ, Nat.lt_add_one, pm_tl_n, pm_tl_s, sc_uL, l2', show ¬ (1 : Int32) = 0 by decide]
          refine go h2 _ _ fa1 ks1 s1 hf1 P2 l2' S1.sk y3 k1 ?_
          obtain ⟨a1, a2, -⟩ := RT_num R c1 c2
          by_cases c5 : (5 : Int32) < nI (beR isD bs (skp bs p1) - skp bs p1)
          · rw [if_pos c5] at a2
            rw [imG_s, kiE, a2, if_neg (by decide)] at e
            intro g2 p2 b2 fa2 ks2 P3 lg3 X3
            obtain ⟨S3, w1, w2⟩ := X3
            have ew := HW s1 (by omega) sf a2
            rw [ew] at S3
            have n1 : ¬ nI s1.1.1 = -1 := nI_ne1 (by omega)
            have nf3 : ¬ fa2 = -1 := fun y => n1 (S3.ff.mpr y)
            refine out g2 p2 b2 fa2 ks2 _ nf3 P3 lg3 S3 (fun p' hp => ?_) w1
            rw [← e]
            rcases S3.2 with ⟨b1, -, -⟩ | ⟨-, -, b3⟩
            · exact absurd b1 n1
            · exact Or.inr ⟨hp, nf3, sf, by omega, a2, b3⟩
          · rw [if_neg c5] at a2
            exact cont (Or.inl (by rw [kiE, a2]))
        · have nd : ¬ (skp bs p1 < bs.length ∧ isD (bs.getD (skp bs p1) (-1)) = true) := fun y => by
            rw [(atV_d T.2.1 _).mpr y] at c
            cases c
          simp only [c, Bool.false_eq_true, if_false]
          show W_X12_items _ _ _ _ _ _ _ _ _
          simp only [w_X12_items_21, w_X12_items_24, w_X12_items_25, w_X12_items_27, pm_1i_c, pm_2i_c, pm_1l_c, pm_2l_c, pm_1a_c, pm_ia_c, pm_iia_c, pm_va_c, pm_cp_c, pm_k0_c, pm_k1_c, pm_k2_c, pm_k3_c, pm_s1_c, pm_s2_c, pm_s3_c, pm_s4_c, pm_ri_c, pm_ra_c, pm_rn_c, pm_rk_i, pm_rk_z, pm_rk_a, pm_vk_i, pm_vk_z, pm_vk_a, pm_cti, pm_ctr, pm_ldi_z, pm_ldi_s, pm_lda_z, pm_lda_s, pm_cat_n, pm_cat_i, pm_cat_r, pm_cat_l, pm_obj, pm_arr, pm_opt, pm_ird, pm_aln, List.getElem?_cons_zero, List.getElem?_cons_succ, List.set_cons_zero, List.set_cons_succ, List.length_cons, List.length_nil, List.length_set, true_and, and_true, Nat.add_zero, Nat.zero_add, Nat.le_refl, Nat.reduceAdd, Nat.reduceLT, Nat.reduceLeDiff, Nat.zero_le, not_false_eq_true, not_true_eq_false, false_implies, implies_true, true_implies, Nat.zero_lt_succ, Nat.lt_add_one, pm_tl_n, pm_tl_s, sc_uL, H2, l2']
          refine PM_use (c_Y_isSign P2 T S1.sk sgn_40 (D + 4)) ?_
          rintro x h3 l3 ⟨rfl, P3⟩
          have l3' : h3.length = h.length := l3.trans l2'
          rcases Bool.eq_false_or_eq_true (taB (cuF bs 5).1 (nI 40) s1.1) with c4 | c4
          · simp only [c4, if_true]
            show W_X12_items _ _ _ _ _ _ _ _ _
            simp only [w_X12_items_30, w_X12_items_33, w_X12_items_34, w_X12_items_38, w_X12_items_39, pm_1i_c, pm_2i_c, pm_1l_c, pm_2l_c, pm_1a_c, pm_ia_c, pm_iia_c, pm_va_c, pm_cp_c, pm_k0_c, pm_k1_c, pm_k2_c, pm_k3_c, pm_s1_c, pm_s2_c, pm_s3_c, pm_s4_c, pm_ri_c, pm_ra_c, pm_rn_c, pm_rk_i, pm_rk_z, pm_rk_a, pm_vk_i, pm_vk_z, pm_vk_a, pm_cti, pm_ctr, pm_ldi_z, pm_ldi_s, pm_lda_z, pm_lda_s, pm_cat_n, pm_cat_i, pm_cat_r, pm_cat_l, pm_obj, pm_arr, pm_opt, pm_ird, pm_aln, List.getElem?_cons_zero, List.getElem?_cons_succ, List.set_cons_zero, List.set_cons_succ, List.length_cons, List.length_nil, List.length_set, true_and, and_true, Nat.add_zero, Nat.zero_add, Nat.le_refl, Nat.reduceAdd, Nat.reduceLT, Nat.reduceLeDiff, Nat.zero_le, not_false_eq_true, not_true_eq_false, false_implies, implies_true, true_implies, Nat.zero_lt_succ, Nat.lt_add_one, pm_tl_n, pm_tl_s, sc_uL, l3', show ¬ (1 : Int32) = 0 by decide]
            refine go h3 _ _ fa1 ks1 s1 hf1 P3 l3' S1.sk.sk y3 k1 (cont (Or.inr ?_))
            unfold taB at c4
            rw [decide_eq_true_eq] at c4
            rw [kiE]
            exact c4.2
          · simp only [c4, Bool.false_eq_true, if_false]
            show W_X12_items _ _ _ _ _ _ _ _ _
            simp only [w_X12_items_2, w_X12_items_3, w_X12_items_30, w_X12_items_37, w_X12_items_38, w_X12_items_39, w_X12_items_42, pm_1i_c, pm_2i_c, pm_1l_c, pm_2l_c, pm_1a_c, pm_ia_c, pm_iia_c, pm_va_c, pm_cp_c, pm_k0_c, pm_k1_c, pm_k2_c, pm_k3_c, pm_s1_c, pm_s2_c, pm_s3_c, pm_s4_c, pm_ri_c, pm_ra_c, pm_rn_c, pm_rk_i, pm_rk_z, pm_rk_a, pm_vk_i, pm_vk_z, pm_vk_a, pm_cti, pm_ctr, pm_ldi_z, pm_ldi_s, pm_lda_z, pm_lda_s, pm_cat_n, pm_cat_i, pm_cat_r, pm_cat_l, pm_obj, pm_arr, pm_opt, pm_ird, pm_aln, List.getElem?_cons_zero, List.getElem?_cons_succ, List.set_cons_zero, List.set_cons_succ, List.length_cons, List.length_nil, List.length_set, true_and, and_true, Nat.add_zero, Nat.zero_add, Nat.le_refl, Nat.reduceAdd, Nat.reduceLT, Nat.reduceLeDiff, Nat.zero_le, not_false_eq_true, not_true_eq_false, false_implies, implies_true, true_implies, Nat.zero_lt_succ, Nat.lt_add_one, pm_tl_n, pm_tl_s, sc_uL, l3']
            have nc : ¬ (kiF (cuF bs 5).1 s1.1 = 267 ∨ kiF (cuF bs 5).1 s1.1 = 40) := fun y => by
              rcases y with y | y
              · rw [kiE] at y
                exact (kd_nd T.2.1 R nd).1 y
              · rw [kiE] at y
                unfold taB at c4
                rw [decide_eq_false_iff_not] at c4
                exact c4 ⟨sf, y⟩
            rw [imG_s, if_neg nc] at e
            rw [← e]
            exact ⟨_, _, _, _, P3, Or.inl S1.sk.sk, k1, y1⟩
      · have nf : ¬ s1.1.2 = -1 := fun y => hf1 (S1.ff.mp y)
        rw [imG_ff nf] at e
        rw [← e] at out ⊢
        exact out g p1 b1 fa1 ks1 s1.1 hf1 P1 lg S1 (fun p' hp => Or.inl (S1.mv hf1 hp)) k1
  simp only [w_X12_items_0, w_X12_items_1, pm_1i_c, pm_2i_c, pm_1l_c, pm_2l_c, pm_1a_c, pm_ia_c, pm_iia_c, pm_va_c, pm_cp_c, pm_k0_c, pm_k1_c, pm_k2_c, pm_k3_c, pm_s1_c, pm_s2_c, pm_s3_c, pm_s4_c, pm_ri_c, pm_ra_c, pm_rn_c, pm_rk_i, pm_rk_z, pm_rk_a, pm_vk_i, pm_vk_z, pm_vk_a, pm_cti, pm_ctr, pm_ldi_z, pm_ldi_s, pm_lda_z, pm_lda_s, pm_cat_n, pm_cat_i, pm_cat_r, pm_cat_l, pm_obj, pm_arr, pm_opt, pm_ird, pm_aln, List.getElem?_cons_zero, List.getElem?_cons_succ, List.set_cons_zero, List.set_cons_succ, List.length_cons, List.length_nil, List.length_set, true_and, and_true, Nat.add_zero, Nat.zero_add, Nat.le_refl, Nat.reduceAdd, Nat.reduceLT, Nat.reduceLeDiff, Nat.zero_le, not_false_eq_true, not_true_eq_false, false_implies, implies_true, true_implies, Nat.zero_lt_succ, Nat.lt_add_one, H0]
  refine go h p b fa ks s hf P rfl S hk hl (fun g2 p2 b2 fa2 ks2 P2 lg2 X2 => ?_)
  exact loop 400 (A s) p2 b2 fa2 ks2 g2 X2 P2 lg2 (fun y => by omega) hZ.symm
theorem c_Z_XE (T : tap_ h0 m bs) (V : NV (cuF bs 5).1 (cuF bs 5).2.2) (d : Nat) : ∀ e, e ≤ 6 → ∀ (h : pmH) (s : XZ) (p b : Nat) (fa : Int32) (ks : List Int32), pr_ h0 h m o bs p b (6 - e) n fa cs ks → sm_ bs 5 s.1 p fa → fa = -1 → ks = s.2 → ks.length ≤ 500 → PM (d + 2 * e + 8) 206 [.ref m] h (fun x h' => x = none ∧ ∃ p' b' fa' ks', pr_ h0 h' m o bs p' b' (6 - e) n fa' cs ks' ∧ Xr bs s (XE (cuF bs 5).1 (cuF bs 5).2.2 e s) p' fa' ks')
  | 0, _ => fun h s p b fa ks P S hf hk hl => c_Z_items T (D := d) (A := itF (cuF bs 5).1 (cuF bs 5).2.2 true id) (fun h s p b fa ks P S hf hk hl => c_Z_item T V (dp := 6) (by omega) (top := true) (by decide) (E := id) (fun s => List.prefix_refl _) (D := d) (fun z => absurd z (by omega)) P S hf hk hl) (fun s a b c => itF_w a b c) P S hf hk hl
  | e + 1, he => fun h s p b fa ks P S hf hk hl => by
    have I := c_Z_XE T V d e (by omega)
    have e8 : 6 - e = 6 - (e + 1) + 1 := by omega
    rw [e8] at I
    have ed : d + 2 * (e + 1) + 8 = (d + 2 * e + 2) + 8 := by omega
    rw [ed]
    exact c_Z_items T (D := d + 2 * e + 2) (A := itF (cuF bs 5).1 (cuF bs 5).2.2 false (XE (cuF bs 5).1 (cuF bs 5).2.2 e)) (fun h s p b fa ks P S hf hk hl => c_Z_item T V (dp := 6 - (e + 1)) (by omega) (top := false) (by rw [eq_comm, decide_eq_false_iff_not]; omega) (XE_g _ _ e) (D := d + 2 * e + 2) (fun _ => I) P S hf hk hl) (fun s a b c => itF_w a b c) P S hf hk hl
end TR
