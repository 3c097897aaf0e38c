/-! AdmissionDeskModel: a contest, a miss. -/
section MH
variable {h h' : pmH} {m : Nat} {o : Nat → Int32} {A A' : AD}
theorem md_.ext (H : md_ h m o A) (E : adE A A') : md_ h m o A' := by
  obtain ⟨H0, f, H1, R⟩ := H
  obtain ⟨e, l, c, n, w⟩ := E
  refine ⟨H0, f, H1, fun k hk => (R.c hk).trans (c k hk).symm, fun k hk => (R.n hk).trans (n k hk).symm, fun p h1 h3 => ?_, ?_, ?_, fun i hi => (R.s hi).trans (e i hi).symm, ?_⟩
  · rw [l p h1 (by omega)]
    exact R.p h1 h3
  · rw [l 4 (by omega) (by omega)]
    exact R.o
  · rw [l 5 (by omega) (by omega)]
    exact R.h
  · rw [e 23 (by omega)]
    rcases w with w | w
    · exact Or.inl w
    · rcases R.w with q | ⟨cs, q1, q2, q3, q4, q5⟩
      · exact Or.inl q
      · exact Or.inr ⟨cs, q1, q2, q3, q4, fun fc => (q5 fc).trans (w fc).symm⟩
theorem uS_c {i j : Nat} {v w : Int32} (hij : i ≠ j) : uS (uS A i v) j w = uS (uS A j w) i v := by
  unfold uS
  congr 1
  funext k
  unfold upd
  dsimp only
  by_cases c1 : k = j
  · rw [if_pos c1, if_neg (by omega), if_pos c1]
  · by_cases c2 : k = i
    · rw [if_neg c1, if_pos c2, if_pos c2]
    · rw [if_neg c1, if_neg c2, if_neg c2, if_neg c1]
theorem uL_c {i j : Nat} {v w : List Int32} (hij : i ≠ j) : uL (uL A i v) j w = uL (uL A j w) i v := by
  unfold uL
  congr 2
  funext k
  unfold va_up
  dsimp only
  by_cases c1 : k = j
  · rw [if_pos c1, if_neg (by omega), if_pos c1]
  · by_cases c2 : k = i
    · rw [if_neg c1, if_pos c2, if_pos c2]
    · rw [if_neg c1, if_neg c2, if_neg c2, if_neg c1]
theorem uS_uL {i j : Nat} {v : Int32} {w : List Int32} : uS (uL A j w) i v = uL (uS A i v) j w := rfl
theorem lvQ_le : lvQ A = 2 ∨ lvQ A = 3 := by
  unfold lvQ
  split
  · exact Or.inl rfl
  · exact Or.inr rfl
set_option maxHeartbeats 1000000 in
theorem c_M_contests (H : md_ h m o A) (P : pil h m) (W : wdV A) (h0 : 0 < (li A 2).length + (li A 3).length) (hl : (li A 2).length + (li A 3).length ≤ 64) (c : Int32) (d : Nat) : PM (d + 7) 203 [.ref m, .int c] h (fun v h' => v = none ∧ md_ h' m o (lvH (uS A 20 ((li A (lvQ A)).getLastD (-1))) c) ∧ pil h' m ∧ frm h h' m) := by
  have H0 := H.1
  unfold mO at H0
  obtain ⟨q, hq⟩ : ∃ q, q = lvQ A := ⟨_, rfl⟩
  have q23 : q = 2 ∨ q = 3 := by rw [hq]; exact lvQ_le
  have qz : 0 < (li A q).length := by
    by_cases z : 0 < (li A 2).length
    · have : lvQ A = 2 := by
        unfold lvQ
        rw [if_pos (show (0 : Int32) < nI (li A 2).length from nI_lt (a := 0) z (by omega))]
      rw [hq, this]
      exact z
    · have : lvQ A = 3 := by
        unfold lvQ
        rw [if_neg (show ¬ (0 : Int32) < nI (li A 2).length from nI_nlt (a := 0) (b := (li A 2).length) (by omega) (by omega))]
      rw [hq, this]
      omega
  have ql : (li A q).length ≤ 64 := by rcases q23 with e | e <;> rw [e] <;> omega
  obtain ⟨el, eg⟩ := erase_last (li A q) qz
  have al : nI (li A q).length - 1 = nI ((li A q).length - 1) := by rw [nI_one, pk_sub (by omega)]
  obtain ⟨v, hv⟩ : ∃ v, v = (li A q).getLastD (-1) := ⟨_, rfl⟩
  rw [← hq, ← hv]
  rw [← hv] at eg
  refine en_X12_contests rfl rfl ?_
  have start : W_X12_contests (d + 6) (h.length + 0) 0 (fun x h' => x = none ∧ md_ h' m o (lvH (uS A 20 v) c) ∧ pil h' m ∧ frm h h' m) 13 [some (.ref m), some (.int c), none, none, none, none] [.int (nI q)] h 0 := by
    simp only [w_X12_contests_13, w_X12_contests_14, w_X12_contests_15, w_X12_contests_16, w_X12_contests_17, w_X12_contests_18, pm_1i_c, pm_2i_c, pm_1l_c, pm_2l_c, pm_1a_c, pm_ia_c, pm_iia_c, pm_va_c, pm_cp_c, pm_k0_c, pm_k1_c, pm_k2_c, pm_k3_c, pm_s1_c, pm_s2_c, pm_s3_c, pm_s4_c, pm_ri_c, pm_ra_c, pm_rn_c, pm_rk_i, pm_rk_z, pm_rk_a, pm_vk_i, pm_vk_z, pm_vk_a, pm_cti, pm_ctr, pm_ldi_z, pm_ldi_s, pm_lda_z, pm_lda_s, pm_cat_n, pm_cat_i, pm_cat_r, pm_cat_l, pm_obj, pm_arr, pm_opt, pm_ird, pm_aln, List.getElem?_cons_zero, List.getElem?_cons_succ, List.set_cons_zero, List.set_cons_succ, List.length_cons, List.length_nil, List.length_set, true_and, and_true, Nat.add_zero, Nat.zero_add, Nat.le_refl, Nat.reduceAdd, Nat.reduceLT, Nat.reduceLeDiff, Nat.zero_le, not_false_eq_true, not_true_eq_false, false_implies, implies_true, true_implies, Nat.zero_lt_succ, Nat.lt_add_one, H0]
    refine PM_use (c_M_many H (p := q) (by omega) (by omega) (d + 4)) ?_
    rintro x g1 l1 ⟨rfl, rfl⟩
    show W_X12_contests _ _ _ _ _ _ _ _ _
    simp only [w_X12_contests_21, w_X12_contests_22, w_X12_contests_23, pm_1i_c, pm_2i_c, pm_1l_c, pm_2l_c, pm_1a_c, pm_ia_c, pm_iia_c, pm_va_c, pm_cp_c, pm_k0_c, pm_k1_c, pm_k2_c, pm_k3_c, pm_s1_c, pm_s2_c, pm_s3_c, pm_s4_c, pm_ri_c, pm_ra_c, pm_rn_c, pm_rk_i, pm_rk_z, pm_rk_a, pm_vk_i, pm_vk_z, pm_vk_a, pm_cti, pm_ctr, pm_ldi_z, pm_ldi_s, pm_lda_z, pm_lda_s, pm_cat_n, pm_cat_i, pm_cat_r, pm_cat_l, pm_obj, pm_arr, pm_opt, pm_ird, pm_aln, List.getElem?_cons_zero, List.getElem?_cons_succ, List.set_cons_zero, List.set_cons_succ, List.length_cons, List.length_nil, List.length_set, true_and, and_true, Nat.add_zero, Nat.zero_add, Nat.le_refl, Nat.reduceAdd, Nat.reduceLT, Nat.reduceLeDiff, Nat.zero_le, not_false_eq_true, not_true_eq_false, false_implies, implies_true, true_implies, Nat.zero_lt_succ, Nat.lt_add_one, pm_tl_n, pm_tl_s, sc_uL, H0, al]
    refine PM_use (c_M_keyAt H (p := q) (by omega) (by omega) (show (li A q).length - 1 < (li A q).length by omega) (d + 4)) ?_
    rintro x g1 l1 ⟨rfl, rfl⟩
    rw [eg]
    show W_X12_contests _ _ _ _ _ _ _ _ _
    simp only [w_X12_contests_26, w_X12_contests_27, w_X12_contests_28, w_X12_contests_29, w_X12_contests_30, pm_1i_c, pm_2i_c, pm_1l_c, pm_2l_c, pm_1a_c, pm_ia_c, pm_iia_c, pm_va_c, pm_cp_c, pm_k0_c, pm_k1_c, pm_k2_c, pm_k3_c, pm_s1_c, pm_s2_c, pm_s3_c, pm_s4_c, pm_ri_c, pm_ra_c, pm_rn_c, pm_rk_i, pm_rk_z, pm_rk_a, pm_vk_i, pm_vk_z, pm_vk_a, pm_cti, pm_ctr, pm_ldi_z, pm_ldi_s, pm_lda_z, pm_lda_s, pm_cat_n, pm_cat_i, pm_cat_r, pm_cat_l, pm_obj, pm_arr, pm_opt, pm_ird, pm_aln, List.getElem?_cons_zero, List.getElem?_cons_succ, List.set_cons_zero, List.set_cons_succ, List.length_cons, List.length_nil, List.length_set, true_and, and_true, Nat.add_zero, Nat.zero_add, Nat.le_refl, Nat.reduceAdd, Nat.reduceLT, Nat.reduceLeDiff, Nat.zero_le, not_false_eq_true, not_true_eq_false, false_implies, implies_true, true_implies, Nat.zero_lt_succ, Nat.lt_add_one, pm_tl_n, pm_tl_s, sc_uL, H0]
    refine PM_use (c_M_doesWin H P W c v d) ?_
    rintro x g2 l2 ⟨rfl, K1, K2, K3⟩
    show W_X12_contests _ _ _ _ _ _ _ _ _
    simp only [pm_tl_s]
    obtain ⟨M0, f0, M1, MR⟩ := K1
    have M0' := M0
    unfold mO at M0'
    obtain ⟨g3, e3, l3, F3, N0, f1, N1, NR⟩ := md_.st M0 M1 MR (i := 20) (by omega) (k := 1690) rfl v
    have N0' := N0
    unfold mO at N0'
    have P3 : pil g3 m := K2.t1 F3
    have bq : beF (uS A 20 v) c (sc (uS A 20 v) 20) = beF A c v := rfl
    unfold lvH
    rw [bq]
    by_cases w : beF A c v = true
    · rw [if_pos w]
      rw [w]
      obtain ⟨g4, e4, l4, F4, O0, f2, O1, OR⟩ := md_.st N0 N1 NR (i := 21) (by omega) (k := 1691) rfl v
      have O0' := O0
      unfold mO at O0'
      obtain ⟨g5, e5, l5, F5, Q0, f3, Q1, QR⟩ := md_.st O0 O1 OR (i := 22) (by omega) (k := 1692) rfl 1
      have Q0' := Q0
      unfold mO at Q0'
      have s6 : f3 1676 = sc A 6 := QR.s (i := 6) (by omega)
      obtain ⟨g6, e6, l6, F6, X0, f4, X1, XR⟩ := md_.st Q0 Q1 QR (i := 6) (by omega) (k := 1676) rfl (sc A 6 + 1)
      have X0' := X0
      unfold mO at X0'
      have MM : md_ g6 m o (uS (uS (uS (uS A 20 v) 21 v) 22 1) 6 (sc A 6 + 1)) := ⟨X0, f4, X1, XR⟩
      simp only [w_X12_contests_33, w_X12_contests_35, w_X12_contests_36, w_X12_contests_39, w_X12_contests_42, w_X12_contests_43, w_X12_contests_44, w_X12_contests_45, w_X12_contests_48, w_X12_contests_51, w_X12_contests_53, w_X12_contests_56, w_X12_contests_57, w_X12_contests_60, w_X12_contests_61, w_X12_contests_62, w_X12_contests_63, w_X12_contests_66, w_X12_contests_69, w_X12_contests_71, w_X12_contests_74, w_X12_contests_75, w_X12_contests_78, w_X12_contests_79, w_X12_contests_80, w_X12_contests_81, w_X12_contests_84, w_X12_contests_86, w_X12_contests_89, w_X12_contests_92, w_X12_contests_95, w_X12_contests_98, w_X12_contests_99, w_X12_contests_100, w_X12_contests_101, w_X12_contests_102, w_X12_contests_103, w_X12_contests_104, w_X12_contests_106, w_X12_contests_109, w_X12_contests_110, w_X12_contests_113, w_X12_contests_114, pm_1i_c, pm_2i_c, pm_1l_c, pm_2l_c, pm_1a_c, pm_ia_c, pm_iia_c, pm_va_c, pm_cp_c, pm_k0_c, pm_k1_c, pm_k2_c, pm_k3_c, pm_s1_c, pm_s2_c, pm_s3_c, pm_s4_c, pm_ri_c, pm_ra_c, pm_rn_c, pm_rk_i, pm_rk_z, pm_rk_a, pm_vk_i, pm_vk_z, pm_vk_a, pm_cti, pm_ctr, pm_ldi_z, pm_ldi_s, pm_lda_z, pm_lda_s, pm_cat_n, pm_cat_i, pm_cat_r, pm_cat_l, pm_obj, pm_arr, pm_opt, pm_ird, pm_aln, List.getElem?_cons_zero, List.getElem?_cons_succ, List.set_cons_zero, List.set_cons_succ, List.length_cons, List.length_nil, List.length_set, true_and, and_true, Nat.add_zero, Nat.zero_add, Nat.le_refl, Nat.reduceAdd, Nat.reduceLT, Nat.reduceLeDiff, Nat.zero_le, not_false_eq_true, not_true_eq_false, false_implies, implies_true, true_implies, Nat.zero_lt_succ, Nat.lt_add_one, if_true, show ¬ (1 : Int32) = 0 by decide, M0', M1, ix_1690, vi_1690, e3, N0', N1, ix_1691, vi_1691, e4, O0', O1, ix_1692, vi_1692, e5, Q0', Q1, ix_1676, vi_1676, s6, e6, X0', l2, l3, l4, l5, l6]
      refine PM_use (c_M_goesOut MM v (d + 5)) ?_
      rintro x g7 l7 ⟨rfl, Y1, Y2⟩
      have Y0 := Y1.1
      unfold mO at Y0
      show W_X12_contests _ _ _ _ _ _ _ _ _
      simp only [w_X12_contests_117, w_X12_contests_119, w_X12_contests_122, w_X12_contests_123, w_X12_contests_124, w_X12_contests_125, pm_1i_c, pm_2i_c, pm_1l_c, pm_2l_c, pm_1a_c, pm_ia_c, pm_iia_c, pm_va_c, pm_cp_c, pm_k0_c, pm_k1_c, pm_k2_c, pm_k3_c, pm_s1_c, pm_s2_c, pm_s3_c, pm_s4_c, pm_ri_c, pm_ra_c, pm_rn_c, pm_rk_i, pm_rk_z, pm_rk_a, pm_vk_i, pm_vk_z, pm_vk_a, pm_cti, pm_ctr, pm_ldi_z, pm_ldi_s, pm_lda_z, pm_lda_s, pm_cat_n, pm_cat_i, pm_cat_r, pm_cat_l, pm_obj, pm_arr, pm_opt, pm_ird, pm_aln, List.getElem?_cons_zero, List.getElem?_cons_succ, List.set_cons_zero, List.set_cons_succ, List.length_cons, List.length_nil, List.length_set, true_and, and_true, Nat.add_zero, Nat.zero_add, Nat.le_refl, Nat.reduceAdd, Nat.reduceLT, Nat.reduceLeDiff, Nat.zero_le, not_false_eq_true, not_true_eq_false, false_implies, implies_true, true_implies, Nat.zero_lt_succ, Nat.lt_add_one, pm_tl_n, pm_tl_s, sc_uL, Y0, l2, l3, l4, l5, l6, l7, show ¬ (1 : Int32) = 0 by decide]
      refine PM_use (c_M_takesLast Y1 (p := q) (by omega) (by omega) (show 0 < (li (gnF (uS (uS (uS (uS A 20 v) 21 v) 22 1) 6 (sc A 6 + 1)) v) q).length by rcases q23 with e | e <;> rw [e] at qz ⊢ <;> exact qz) (d + 3)) ?_
      rintro x g8 l8 ⟨rfl, Z1, Z2⟩
      have Z0 := Z1.1
      unfold mO at Z0
      show W_X12_contests _ _ _ _ _ _ _ _ _
      simp only [w_X12_contests_128, w_X12_contests_130, w_X12_contests_131, w_X12_contests_132, w_X12_contests_133, pm_1i_c, pm_2i_c, pm_1l_c, pm_2l_c, pm_1a_c, pm_ia_c, pm_iia_c, pm_va_c, pm_cp_c, pm_k0_c, pm_k1_c, pm_k2_c, pm_k3_c, pm_s1_c, pm_s2_c, pm_s3_c, pm_s4_c, pm_ri_c, pm_ra_c, pm_rn_c, pm_rk_i, pm_rk_z, pm_rk_a, pm_vk_i, pm_vk_z, pm_vk_a, pm_cti, pm_ctr, pm_ldi_z, pm_ldi_s, pm_lda_z, pm_lda_s, pm_cat_n, pm_cat_i, pm_cat_r, pm_cat_l, pm_obj, pm_arr, pm_opt, pm_ird, pm_aln, List.getElem?_cons_zero, List.getElem?_cons_succ, List.set_cons_zero, List.set_cons_succ, List.length_cons, List.length_nil, List.length_set, true_and, and_true, Nat.add_zero, Nat.zero_add, Nat.le_refl, Nat.reduceAdd, Nat.reduceLT, Nat.reduceLeDiff, Nat.zero_le, not_false_eq_true, not_true_eq_false, false_implies, implies_true, true_implies, Nat.zero_lt_succ, Nat.lt_add_one, pm_tl_n, pm_tl_s, sc_uL, Z0, l2, l3, l4, l5, l6, l7, l8]
      have l22 : (li (drpR (gnF (uS (uS (uS (uS A 20 v) 21 v) 22 1) 6 (sc A 6 + 1)) v) q) 2).length ≤ 64 := by
        rcases q23 with e | e
        · rw [e]
          show (li A 2).dropLast.length ≤ 64
          rw [List.length_dropLast]
          omega
        · rw [e]
          show (li A 2).length ≤ 64
          omega
      refine PM_use (c_M_toFront Z1 (p := 2) (by omega) (by omega) (by omega) c (d + 4)) ?_
      rintro x g9 l9 ⟨rfl, V1, V2⟩
      show W_X12_contests _ _ _ _ _ _ _ _ _
      simp only [w_X12_contests_136, pm_1i_c, pm_2i_c, pm_1l_c, pm_2l_c, pm_1a_c, pm_ia_c, pm_iia_c, pm_va_c, pm_cp_c, pm_k0_c, pm_k1_c, pm_k2_c, pm_k3_c, pm_s1_c, pm_s2_c, pm_s3_c, pm_s4_c, pm_ri_c, pm_ra_c, pm_rn_c, pm_rk_i, pm_rk_z, pm_rk_a, pm_vk_i, pm_vk_z, pm_vk_a, pm_cti, pm_ctr, pm_ldi_z, pm_ldi_s, pm_lda_z, pm_lda_s, pm_cat_n, pm_cat_i, pm_cat_r, pm_cat_l, pm_obj, pm_arr, pm_opt, pm_ird, pm_aln, List.getElem?_cons_zero, List.getElem?_cons_succ, List.set_cons_zero, List.set_cons_succ, List.length_cons, List.length_nil, List.length_set, true_and, and_true, Nat.add_zero, Nat.zero_add, Nat.le_refl, Nat.reduceAdd, Nat.reduceLT, Nat.reduceLeDiff, Nat.zero_le, not_false_eq_true, not_true_eq_false, false_implies, implies_true, true_implies, Nat.zero_lt_succ, Nat.lt_add_one, pm_tl_n, pm_tl_s, sc_uL, l2, l3, l4, l5, l6, l7, l8, l9]
      have lq : lvQ (uS A 20 v) = q := hq.symm
      have ef : lvW (uS A 20 v) c = gnF (uS (uS (uS (uL (drpR (uS A 20 v) q) 2 (c :: li (drpR (uS A 20 v) q) 2)) 21 v) 22 1) 6 (sc A 6 + 1)) v := by
        unfold lvW
        rw [lq, insR_c (show (li (drpR (uS A 20 v) q) 2).length ≤ 64 by
          rcases q23 with e | e
          · rw [e]
            show (li A 2).dropLast.length ≤ 64
            rw [List.length_dropLast]
            omega
          · rw [e]
            show (li A 2).length ≤ 64
            omega)]
        rfl
      rw [ef]
      refine ⟨V1.ext ⟨all24 rfl rfl rfl rfl rfl rfl rfl rfl rfl rfl rfl rfl rfl rfl rfl rfl rfl rfl rfl rfl rfl rfl rfl rfl, ?_, fun _ _ => rfl, fun _ _ => rfl, Or.inr fun _ => rfl⟩, (((((((K2.t1 F3).t1 F4).t1 F5).t1 F6).t1 Y2).t1 Z2).t1 V2), ?_⟩
      · rcases q23 with e | e <;> rw [e] <;> exact all5 rfl rfl rfl rfl rfl
      · exact (((((((K3.tp.tr F3.tm).tr F4.tm).tr F5.tm).tr F6.tm).tr Y2.tm).tr Z2.tm).tr V2.tm)
    · rw [if_neg w]
      have w' : beF A c v = false := by
        cases hb : beF A c v
        · rfl
        · exact absurd hb w
      rw [w']
      obtain ⟨g4, e4, l4, F4, O0, f2, O1, OR⟩ := md_.st N0 N1 NR (i := 21) (by omega) (k := 1691) rfl c
      have O0' := O0
      unfold mO at O0'
      obtain ⟨g5, e5, l5, F5, Q0, f3, Q1, QR⟩ := md_.st O0 O1 OR (i := 22) (by omega) (k := 1692) rfl 0
      have Q0' := Q0
      unfold mO at Q0'
      have s7 : f3 1677 = sc A 7 := QR.s (i := 7) (by omega)
      obtain ⟨g6, e6, l6, F6, X0, f4, X1, XR⟩ := md_.st Q0 Q1 QR (i := 7) (by omega) (k := 1677) rfl (sc A 7 + 1)
      have X0' := X0
      unfold mO at X0'
      have MM : md_ g6 m o (uS (uS (uS (uS A 20 v) 21 c) 22 0) 7 (sc A 7 + 1)) := ⟨X0, f4, X1, XR⟩
      simp only [w_X12_contests_33, w_X12_contests_35, w_X12_contests_36, w_X12_contests_39, w_X12_contests_42, w_X12_contests_43, w_X12_contests_44, w_X12_contests_45, w_X12_contests_48, w_X12_contests_51, w_X12_contests_53, w_X12_contests_56, w_X12_contests_57, w_X12_contests_60, w_X12_contests_61, w_X12_contests_62, w_X12_contests_63, w_X12_contests_66, w_X12_contests_69, w_X12_contests_71, w_X12_contests_74, w_X12_contests_75, w_X12_contests_78, w_X12_contests_79, w_X12_contests_80, w_X12_contests_81, w_X12_contests_84, w_X12_contests_86, w_X12_contests_89, w_X12_contests_92, w_X12_contests_95, w_X12_contests_98, w_X12_contests_99, w_X12_contests_100, w_X12_contests_101, w_X12_contests_102, w_X12_contests_103, w_X12_contests_104, w_X12_contests_106, w_X12_contests_109, w_X12_contests_110, w_X12_contests_113, w_X12_contests_114, pm_1i_c, pm_2i_c, pm_1l_c, pm_2l_c, pm_1a_c, pm_ia_c, pm_iia_c, pm_va_c, pm_cp_c, pm_k0_c, pm_k1_c, pm_k2_c, pm_k3_c, pm_s1_c, pm_s2_c, pm_s3_c, pm_s4_c, pm_ri_c, pm_ra_c, pm_rn_c, pm_rk_i, pm_rk_z, pm_rk_a, pm_vk_i, pm_vk_z, pm_vk_a, pm_cti, pm_ctr, pm_ldi_z, pm_ldi_s, pm_lda_z, pm_lda_s, pm_cat_n, pm_cat_i, pm_cat_r, pm_cat_l, pm_obj, pm_arr, pm_opt, pm_ird, pm_aln, List.getElem?_cons_zero, List.getElem?_cons_succ, List.set_cons_zero, List.set_cons_succ, List.length_cons, List.length_nil, List.length_set, true_and, and_true, Nat.add_zero, Nat.zero_add, Nat.le_refl, Nat.reduceAdd, Nat.reduceLT, Nat.reduceLeDiff, Nat.zero_le, not_false_eq_true, not_true_eq_false, false_implies, implies_true, true_implies, Nat.zero_lt_succ, Nat.lt_add_one, Bool.false_eq_true, if_false, M0', M1, ix_1690, vi_1690, e3, N0', N1, ix_1691, vi_1691, e4, O0', O1, ix_1692, vi_1692, e5, Q0', Q1, ix_1677, vi_1677, s7, e6, X0', l2, l3, l4, l5, l6]
      refine PM_use (c_M_goesOut MM c (d + 5)) ?_
      rintro x g7 l7 ⟨rfl, Y1, Y2⟩
      show W_X12_contests _ _ _ _ _ _ _ _ _
      simp only [w_X12_contests_117, w_X12_contests_119, w_X12_contests_122, pm_1i_c, pm_2i_c, pm_1l_c, pm_2l_c, pm_1a_c, pm_ia_c, pm_iia_c, pm_va_c, pm_cp_c, pm_k0_c, pm_k1_c, pm_k2_c, pm_k3_c, pm_s1_c, pm_s2_c, pm_s3_c, pm_s4_c, pm_ri_c, pm_ra_c, pm_rn_c, pm_rk_i, pm_rk_z, pm_rk_a, pm_vk_i, pm_vk_z, pm_vk_a, pm_cti, pm_ctr, pm_ldi_z, pm_ldi_s, pm_lda_z, pm_lda_s, pm_cat_n, pm_cat_i, pm_cat_r, pm_cat_l, pm_obj, pm_arr, pm_opt, pm_ird, pm_aln, List.getElem?_cons_zero, List.getElem?_cons_succ, List.set_cons_zero, List.set_cons_succ, List.length_cons, List.length_nil, List.length_set, true_and, and_true, Nat.add_zero, Nat.zero_add, Nat.le_refl, Nat.reduceAdd, Nat.reduceLT, Nat.reduceLeDiff, Nat.zero_le, not_false_eq_true, not_true_eq_false, false_implies, implies_true, true_implies, Nat.zero_lt_succ, Nat.lt_add_one, pm_tl_n, pm_tl_s, sc_uL, l2, l3, l4, l5, l6, l7]
      exact ⟨Y1, (((((K2.t1 F3).t1 F4).t1 F5).t1 F6).t1 Y2), (((((K3.tp.tr F3.tm).tr F4.tm).tr F5.tm).tr F6.tm).tr Y2.tm)⟩
  simp only [w_X12_contests_0, w_X12_contests_1, w_X12_contests_2, pm_1i_c, pm_2i_c, pm_1l_c, pm_2l_c, pm_1a_c, pm_ia_c, pm_iia_c, pm_va_c, pm_cp_c, pm_k0_c, pm_k1_c, pm_k2_c, pm_k3_c, pm_s1_c, pm_s2_c, pm_s3_c, pm_s4_c, pm_ri_c, pm_ra_c, pm_rn_c, pm_rk_i, pm_rk_z, pm_rk_a, pm_vk_i, pm_vk_z, pm_vk_a, pm_cti, pm_ctr, pm_ldi_z, pm_ldi_s, pm_lda_z, pm_lda_s, pm_cat_n, pm_cat_i, pm_cat_r, pm_cat_l, pm_obj, pm_arr, pm_opt, pm_ird, pm_aln, List.getElem?_cons_zero, List.getElem?_cons_succ, List.set_cons_zero, List.set_cons_succ, List.length_cons, List.length_nil, List.length_set, true_and, and_true, Nat.add_zero, Nat.zero_add, Nat.le_refl, Nat.reduceAdd, Nat.reduceLT, Nat.reduceLeDiff, Nat.zero_le, not_false_eq_true, not_true_eq_false, false_implies, implies_true, true_implies, Nat.zero_lt_succ, Nat.lt_add_one, H0]
  refine PM_use (c_M_many H (p := 2) (by omega) (by omega) (d + 4)) ?_
  rintro x g1 l1 ⟨rfl, rfl⟩
  by_cases z : 0 < nI (li A 2).length
  · have e2 : nI q = 2 := by
      rw [hq]
      unfold lvQ
      rw [if_pos z]
      rfl
    rw [e2] at start
    show W_X12_contests _ _ _ _ _ _ _ _ _
    simp only [w_X12_contests_5, w_X12_contests_8, w_X12_contests_9, pm_1i_c, pm_2i_c, pm_1l_c, pm_2l_c, pm_1a_c, pm_ia_c, pm_iia_c, pm_va_c, pm_cp_c, pm_k0_c, pm_k1_c, pm_k2_c, pm_k3_c, pm_s1_c, pm_s2_c, pm_s3_c, pm_s4_c, pm_ri_c, pm_ra_c, pm_rn_c, pm_rk_i, pm_rk_z, pm_rk_a, pm_vk_i, pm_vk_z, pm_vk_a, pm_cti, pm_ctr, pm_ldi_z, pm_ldi_s, pm_lda_z, pm_lda_s, pm_cat_n, pm_cat_i, pm_cat_r, pm_cat_l, pm_obj, pm_arr, pm_opt, pm_ird, pm_aln, List.getElem?_cons_zero, List.getElem?_cons_succ, List.set_cons_zero, List.set_cons_succ, List.length_cons, List.length_nil, List.length_set, true_and, and_true, Nat.add_zero, Nat.zero_add, Nat.le_refl, Nat.reduceAdd, Nat.reduceLT, Nat.reduceLeDiff, Nat.zero_le, not_false_eq_true, not_true_eq_false, false_implies, implies_true, true_implies, Nat.zero_lt_succ, Nat.lt_add_one, pm_tl_n, pm_tl_s, sc_uL, z]
    exact start
  · have e3 : nI q = 3 := by
      rw [hq]
      unfold lvQ
      rw [if_neg z]
      rfl
    rw [e3] at start
    show W_X12_contests _ _ _ _ _ _ _ _ _
    simp only [w_X12_contests_5, w_X12_contests_12, pm_1i_c, pm_2i_c, pm_1l_c, pm_2l_c, pm_1a_c, pm_ia_c, pm_iia_c, pm_va_c, pm_cp_c, pm_k0_c, pm_k1_c, pm_k2_c, pm_k3_c, pm_s1_c, pm_s2_c, pm_s3_c, pm_s4_c, pm_ri_c, pm_ra_c, pm_rn_c, pm_rk_i, pm_rk_z, pm_rk_a, pm_vk_i, pm_vk_z, pm_vk_a, pm_cti, pm_ctr, pm_ldi_z, pm_ldi_s, pm_lda_z, pm_lda_s, pm_cat_n, pm_cat_i, pm_cat_r, pm_cat_l, pm_obj, pm_arr, pm_opt, pm_ird, pm_aln, List.getElem?_cons_zero, List.getElem?_cons_succ, List.set_cons_zero, List.set_cons_succ, List.length_cons, List.length_nil, List.length_set, true_and, and_true, Nat.add_zero, Nat.zero_add, Nat.le_refl, Nat.reduceAdd, Nat.reduceLT, Nat.reduceLeDiff, Nat.zero_le, not_false_eq_true, not_true_eq_false, false_implies, implies_true, true_implies, Nat.zero_lt_succ, Nat.lt_add_one, pm_tl_n, pm_tl_s, sc_uL, z]
    exact start
set_option maxHeartbeats 1000000 in
theorem c_M_misses (H : md_ h m o A) (P : pil h m) (W : wdV A) (V : shV A) (l1 : (li A 1).length ≤ 64) (l2 : (li A 2).length + (li A 3).length ≤ mN A) (key : Int32) (d : Nat) : PM (d + 8) 202 [.ref m, .int key] h (fun v h' => v = none ∧ md_ h' m o (srB2 (insR (clrF A) 1 key)) ∧ pil h' m ∧ frm h h' m) := by
  have b := V.b
  have H0 := H.1
  unfold mO at H0
  refine en_X12_misses rfl rfl ?_
  simp only [w_X12_misses_0, w_X12_misses_1, pm_1i_c, pm_2i_c, pm_1l_c, pm_2l_c, pm_1a_c, pm_ia_c, pm_iia_c, pm_va_c, pm_cp_c, pm_k0_c, pm_k1_c, pm_k2_c, pm_k3_c, pm_s1_c, pm_s2_c, pm_s3_c, pm_s4_c, pm_ri_c, pm_ra_c, pm_rn_c, pm_rk_i, pm_rk_z, pm_rk_a, pm_vk_i, pm_vk_z, pm_vk_a, pm_cti, pm_ctr, pm_ldi_z, pm_ldi_s, pm_lda_z, pm_lda_s, pm_cat_n, pm_cat_i, pm_cat_r, pm_cat_l, pm_obj, pm_arr, pm_opt, pm_ird, pm_aln, List.getElem?_cons_zero, List.getElem?_cons_succ, List.set_cons_zero, List.set_cons_succ, List.length_cons, List.length_nil, List.length_set, true_and, and_true, Nat.add_zero, Nat.zero_add, Nat.le_refl, Nat.reduceAdd, Nat.reduceLT, Nat.reduceLeDiff, Nat.zero_le, not_false_eq_true, not_true_eq_false, false_implies, implies_true, true_implies, Nat.zero_lt_succ, Nat.lt_add_one, H0]
  refine PM_use (c_M_forgetsLatest H (d + 6)) ?_
  rintro x g1 k1 ⟨rfl, K1, F1⟩
  have N0 := K1.1
  unfold mO at N0
  show W_X12_misses _ _ _ _ _ _ _ _ _
  simp only [w_X12_misses_4, w_X12_misses_5, w_X12_misses_6, w_X12_misses_7, pm_1i_c, pm_2i_c, pm_1l_c, pm_2l_c, pm_1a_c, pm_ia_c, pm_iia_c, pm_va_c, pm_cp_c, pm_k0_c, pm_k1_c, pm_k2_c, pm_k3_c, pm_s1_c, pm_s2_c, pm_s3_c, pm_s4_c, pm_ri_c, pm_ra_c, pm_rn_c, pm_rk_i, pm_rk_z, pm_rk_a, pm_vk_i, pm_vk_z, pm_vk_a, pm_cti, pm_ctr, pm_ldi_z, pm_ldi_s, pm_lda_z, pm_lda_s, pm_cat_n, pm_cat_i, pm_cat_r, pm_cat_l, pm_obj, pm_arr, pm_opt, pm_ird, pm_aln, List.getElem?_cons_zero, List.getElem?_cons_succ, List.set_cons_zero, List.set_cons_succ, List.length_cons, List.length_nil, List.length_set, true_and, and_true, Nat.add_zero, Nat.zero_add, Nat.le_refl, Nat.reduceAdd, Nat.reduceLT, Nat.reduceLeDiff, Nat.zero_le, not_false_eq_true, not_true_eq_false, false_implies, implies_true, true_implies, Nat.zero_lt_succ, Nat.lt_add_one, pm_tl_n, pm_tl_s, sc_uL, N0, k1]
  refine PM_use (c_M_toFront K1 (p := 1) (by omega) (by omega) (show (li A 1).length ≤ 65 by omega) key (d + 5)) ?_
  rintro x g2 k2 ⟨rfl, K2, F2⟩
  obtain ⟨B, hB⟩ : ∃ B, B = insR (clrF A) 1 key := ⟨_, rfl⟩
  have eB : uL (clrF A) 1 (key :: li (clrF A) 1) = B := by rw [hB, insR_c (A := clrF A) (q := 1) (show (li A 1).length ≤ 64 from l1)]
  rw [eB] at K2
  rw [← hB]
  have VB : shV B := by rw [← eB]; exact V
  have WB : wdV B := by rw [← eB]; exact W
  have mB : mN B = mN A := by rw [← eB]; rfl
  have lB2 : li B 2 = li A 2 := by rw [← eB]; rfl
  have lB3 : li B 3 = li A 3 := by rw [← eB]; rfl
  have lB1 : (li B 1).length = (li A 1).length + 1 := by rw [← eB]; rfl
  have bb := VB.b
  have O0 := K2.1
  unfold mO at O0
  show W_X12_misses _ _ _ _ _ _ _ _ _
  simp only [w_X12_misses_10, w_X12_misses_11, w_X12_misses_12, pm_1i_c, pm_2i_c, pm_1l_c, pm_2l_c, pm_1a_c, pm_ia_c, pm_iia_c, pm_va_c, pm_cp_c, pm_k0_c, pm_k1_c, pm_k2_c, pm_k3_c, pm_s1_c, pm_s2_c, pm_s3_c, pm_s4_c, pm_ri_c, pm_ra_c, pm_rn_c, pm_rk_i, pm_rk_z, pm_rk_a, pm_vk_i, pm_vk_z, pm_vk_a, pm_cti, pm_ctr, pm_ldi_z, pm_ldi_s, pm_lda_z, pm_lda_s, pm_cat_n, pm_cat_i, pm_cat_r, pm_cat_l, pm_obj, pm_arr, pm_opt, pm_ird, pm_aln, List.getElem?_cons_zero, List.getElem?_cons_succ, List.set_cons_zero, List.set_cons_succ, List.length_cons, List.length_nil, List.length_set, true_and, and_true, Nat.add_zero, Nat.zero_add, Nat.le_refl, Nat.reduceAdd, Nat.reduceLT, Nat.reduceLeDiff, Nat.zero_le, not_false_eq_true, not_true_eq_false, false_implies, implies_true, true_implies, Nat.zero_lt_succ, Nat.lt_add_one, pm_tl_n, pm_tl_s, sc_uL, O0, k1, k2]
  refine PM_use (c_M_many K2 (p := 1) (by omega) (by omega) (d + 5)) ?_
  rintro x g3 k3 ⟨rfl, rfl⟩
  show W_X12_misses _ _ _ _ _ _ _ _ _
  simp only [w_X12_misses_15, w_X12_misses_16, w_X12_misses_17, pm_1i_c, pm_2i_c, pm_1l_c, pm_2l_c, pm_1a_c, pm_ia_c, pm_iia_c, pm_va_c, pm_cp_c, pm_k0_c, pm_k1_c, pm_k2_c, pm_k3_c, pm_s1_c, pm_s2_c, pm_s3_c, pm_s4_c, pm_ri_c, pm_ra_c, pm_rn_c, pm_rk_i, pm_rk_z, pm_rk_a, pm_vk_i, pm_vk_z, pm_vk_a, pm_cti, pm_ctr, pm_ldi_z, pm_ldi_s, pm_lda_z, pm_lda_s, pm_cat_n, pm_cat_i, pm_cat_r, pm_cat_l, pm_obj, pm_arr, pm_opt, pm_ird, pm_aln, List.getElem?_cons_zero, List.getElem?_cons_succ, List.set_cons_zero, List.set_cons_succ, List.length_cons, List.length_nil, List.length_set, true_and, and_true, Nat.add_zero, Nat.zero_add, Nat.le_refl, Nat.reduceAdd, Nat.reduceLT, Nat.reduceLeDiff, Nat.zero_le, not_false_eq_true, not_true_eq_false, false_implies, implies_true, true_implies, Nat.zero_lt_succ, Nat.lt_add_one, pm_tl_n, pm_tl_s, sc_uL, O0, k1, k2]
  refine PM_use (c_M_isFor K2 1 (d + 6)) ?_
  rintro x g3 k3 ⟨rfl, rfl⟩
  rw [VB.p1]
  have eR : srB2 B = if nI (wN B) < nI (li B 1).length then lvF (drpR B 1) ((li B 1).getLastD (-1)) else B := by
    unfold srB2
    rw [VB.w]
  rw [eR]
  by_cases c : nI (wN B) < nI (li B 1).length
  · rw [if_pos c]
    show W_X12_misses _ _ _ _ _ _ _ _ _
    simp only [w_X12_misses_20, w_X12_misses_24, w_X12_misses_25, w_X12_misses_26, pm_1i_c, pm_2i_c, pm_1l_c, pm_2l_c, pm_1a_c, pm_ia_c, pm_iia_c, pm_va_c, pm_cp_c, pm_k0_c, pm_k1_c, pm_k2_c, pm_k3_c, pm_s1_c, pm_s2_c, pm_s3_c, pm_s4_c, pm_ri_c, pm_ra_c, pm_rn_c, pm_rk_i, pm_rk_z, pm_rk_a, pm_vk_i, pm_vk_z, pm_vk_a, pm_cti, pm_ctr, pm_ldi_z, pm_ldi_s, pm_lda_z, pm_lda_s, pm_cat_n, pm_cat_i, pm_cat_r, pm_cat_l, pm_obj, pm_arr, pm_opt, pm_ird, pm_aln, List.getElem?_cons_zero, List.getElem?_cons_succ, List.set_cons_zero, List.set_cons_succ, List.length_cons, List.length_nil, List.length_set, true_and, and_true, Nat.add_zero, Nat.zero_add, Nat.le_refl, Nat.reduceAdd, Nat.reduceLT, Nat.reduceLeDiff, Nat.zero_le, not_false_eq_true, not_true_eq_false, false_implies, implies_true, true_implies, Nat.zero_lt_succ, Nat.lt_add_one, pm_tl_n, pm_tl_s, sc_uL, O0, k1, k2, c]
    refine PM_use (c_M_takesLast K2 (p := 1) (by omega) (by omega) (by omega) (d + 4)) ?_
    rintro x g4 k4 ⟨rfl, K4, F4⟩
    obtain ⟨v, hv⟩ : ∃ v, v = (li B 1).getLastD (-1) := ⟨_, rfl⟩
    rw [← hv]
    show W_X12_misses _ _ _ _ _ _ _ _ _
    simp only [pm_tl_s]
    obtain ⟨D, hD⟩ : ∃ D, D = drpR B 1 := ⟨_, rfl⟩
    rw [← hD] at K4 ⊢
    obtain ⟨M0, f0, M1, MR⟩ := K4
    have M0' := M0
    unfold mO at M0'
    obtain ⟨g5, e5, k5, F5, Q0, f5, Q1, QR⟩ := md_.st M0 M1 MR (i := 19) (by omega) (k := 1689) rfl v
    have Q0' := Q0
    unfold mO at Q0'
    have P5 : pil g5 m := (((P.t1 F1).t1 F2).t1 F4).t1 F5
    obtain ⟨C, hC⟩ : ∃ C, C = uS D 19 v := ⟨_, rfl⟩
    rw [← hC] at QR
    have KC : md_ g5 m o C := ⟨Q0, f5, Q1, QR⟩
    have VC : shV C := by rw [hC, hD]; exact VB
    have WC : wdV C := by rw [hC, hD]; exact WB
    have mC : mN C = mN A := by rw [hC, hD]; exact mB
    have lC2 : li C 2 = li A 2 := by rw [hC, hD]; exact lB2
    have lC3 : li C 3 = li A 3 := by rw [hC, hD]; exact lB3
    have fr : frm h g5 m := ((F1.tm.tr F2.tm).tr F4.tm).tr F5.tm
    have eF : lvF D v = lvG C v := by rw [hC]; rfl
    rw [eF]
    simp only [w_X12_misses_29, w_X12_misses_30, w_X12_misses_31, w_X12_misses_34, w_X12_misses_37, w_X12_misses_38, w_X12_misses_39, w_X12_misses_40, pm_1i_c, pm_2i_c, pm_1l_c, pm_2l_c, pm_1a_c, pm_ia_c, pm_iia_c, pm_va_c, pm_cp_c, pm_k0_c, pm_k1_c, pm_k2_c, pm_k3_c, pm_s1_c, pm_s2_c, pm_s3_c, pm_s4_c, pm_ri_c, pm_ra_c, pm_rn_c, pm_rk_i, pm_rk_z, pm_rk_a, pm_vk_i, pm_vk_z, pm_vk_a, pm_cti, pm_ctr, pm_ldi_z, pm_ldi_s, pm_lda_z, pm_lda_s, pm_cat_n, pm_cat_i, pm_cat_r, pm_cat_l, pm_obj, pm_arr, pm_opt, pm_ird, pm_aln, List.getElem?_cons_zero, List.getElem?_cons_succ, List.set_cons_zero, List.set_cons_succ, List.length_cons, List.length_nil, List.length_set, true_and, and_true, Nat.add_zero, Nat.zero_add, Nat.le_refl, Nat.reduceAdd, Nat.reduceLT, Nat.reduceLeDiff, Nat.zero_le, not_false_eq_true, not_true_eq_false, false_implies, implies_true, true_implies, Nat.zero_lt_succ, Nat.lt_add_one, M0', M1, ix_1689, vi_1689, e5, Q0', k1, k2, k4, k5]
    refine PM_use (c_M_mainMany KC (d + 4)) ?_
    rintro x g6 k6 ⟨rfl, rfl⟩
    show W_X12_misses _ _ _ _ _ _ _ _ _
    simp only [w_X12_misses_43, w_X12_misses_44, pm_1i_c, pm_2i_c, pm_1l_c, pm_2l_c, pm_1a_c, pm_ia_c, pm_iia_c, pm_va_c, pm_cp_c, pm_k0_c, pm_k1_c, pm_k2_c, pm_k3_c, pm_s1_c, pm_s2_c, pm_s3_c, pm_s4_c, pm_ri_c, pm_ra_c, pm_rn_c, pm_rk_i, pm_rk_z, pm_rk_a, pm_vk_i, pm_vk_z, pm_vk_a, pm_cti, pm_ctr, pm_ldi_z, pm_ldi_s, pm_lda_z, pm_lda_s, pm_cat_n, pm_cat_i, pm_cat_r, pm_cat_l, pm_obj, pm_arr, pm_opt, pm_ird, pm_aln, List.getElem?_cons_zero, List.getElem?_cons_succ, List.set_cons_zero, List.set_cons_succ, List.length_cons, List.length_nil, List.length_set, true_and, and_true, Nat.add_zero, Nat.zero_add, Nat.le_refl, Nat.reduceAdd, Nat.reduceLT, Nat.reduceLeDiff, Nat.zero_le, not_false_eq_true, not_true_eq_false, false_implies, implies_true, true_implies, Nat.zero_lt_succ, Nat.lt_add_one, pm_tl_n, pm_tl_s, sc_uL, Q0', k1, k2, k4, k5]
    refine PM_use (c_M_mainFor KC (d + 5)) ?_
    rintro x g6 k6 ⟨rfl, rfl⟩
    unfold lvG
    rw [VC.mm]
    have es : nI (li C 2).length + nI (li C 3).length = nI ((li C 2).length + (li C 3).length) := nI_add _ _
    rw [es]
    by_cases c1 : nI ((li C 2).length + (li C 3).length) < nI (mN C)
    · have c1n : (li C 2).length + (li C 3).length < mN C := (nI_ltI (by rw [lC2, lC3]; omega) (by omega)).mp c1
      rw [if_pos c1]
      show W_X12_misses _ _ _ _ _ _ _ _ _
      simp only [w_X12_misses_47, w_X12_misses_50, w_X12_misses_51, w_X12_misses_52, w_X12_misses_53, pm_1i_c, pm_2i_c, pm_1l_c, pm_2l_c, pm_1a_c, pm_ia_c, pm_iia_c, pm_va_c, pm_cp_c, pm_k0_c, pm_k1_c, pm_k2_c, pm_k3_c, pm_s1_c, pm_s2_c, pm_s3_c, pm_s4_c, pm_ri_c, pm_ra_c, pm_rn_c, pm_rk_i, pm_rk_z, pm_rk_a, pm_vk_i, pm_vk_z, pm_vk_a, pm_cti, pm_ctr, pm_ldi_z, pm_ldi_s, pm_lda_z, pm_lda_s, pm_cat_n, pm_cat_i, pm_cat_r, pm_cat_l, pm_obj, pm_arr, pm_opt, pm_ird, pm_aln, List.getElem?_cons_zero, List.getElem?_cons_succ, List.set_cons_zero, List.set_cons_succ, List.length_cons, List.length_nil, List.length_set, true_and, and_true, Nat.add_zero, Nat.zero_add, Nat.le_refl, Nat.reduceAdd, Nat.reduceLT, Nat.reduceLeDiff, Nat.zero_le, not_false_eq_true, not_true_eq_false, false_implies, implies_true, true_implies, Nat.zero_lt_succ, Nat.lt_add_one, pm_tl_n, pm_tl_s, sc_uL, Q0', k1, k2, k4, k5, c1]
      refine PM_use (c_M_toFront KC (p := 2) (by omega) (by omega) (by omega) v (d + 5)) ?_
      rintro x g7 k7 ⟨rfl, K7, F7⟩
      show W_X12_misses _ _ _ _ _ _ _ _ _
      simp only [w_X12_misses_56, w_X12_misses_59, w_X12_misses_60, w_X12_misses_63, w_X12_misses_66, w_X12_misses_67, w_X12_misses_70, w_X12_misses_73, w_X12_misses_74, w_X12_misses_75, w_X12_misses_76, w_X12_misses_77, w_X12_misses_80, w_X12_misses_83, w_X12_misses_84, w_X12_misses_85, w_X12_misses_88, pm_1i_c, pm_2i_c, pm_1l_c, pm_2l_c, pm_1a_c, pm_ia_c, pm_iia_c, pm_va_c, pm_cp_c, pm_k0_c, pm_k1_c, pm_k2_c, pm_k3_c, pm_s1_c, pm_s2_c, pm_s3_c, pm_s4_c, pm_ri_c, pm_ra_c, pm_rn_c, pm_rk_i, pm_rk_z, pm_rk_a, pm_vk_i, pm_vk_z, pm_vk_a, pm_cti, pm_ctr, pm_ldi_z, pm_ldi_s, pm_lda_z, pm_lda_s, pm_cat_n, pm_cat_i, pm_cat_r, pm_cat_l, pm_obj, pm_arr, pm_opt, pm_ird, pm_aln, List.getElem?_cons_zero, List.getElem?_cons_succ, List.set_cons_zero, List.set_cons_succ, List.length_cons, List.length_nil, List.length_set, true_and, and_true, Nat.add_zero, Nat.zero_add, Nat.le_refl, Nat.reduceAdd, Nat.reduceLT, Nat.reduceLeDiff, Nat.zero_le, not_false_eq_true, not_true_eq_false, false_implies, implies_true, true_implies, Nat.zero_lt_succ, Nat.lt_add_one, pm_tl_n, pm_tl_s, sc_uL, k1, k2, k4, k5, k7]
      rw [insR_c (by omega)]
      exact ⟨K7, P5.t1 F7, fr.tr F7.tm⟩
    · rw [if_neg c1]
      have c1n : ¬ (li C 2).length + (li C 3).length < mN C := fun z => c1 (nI_lt z (by omega))
      show W_X12_misses _ _ _ _ _ _ _ _ _
      simp only [w_X12_misses_47, w_X12_misses_59, w_X12_misses_60, pm_1i_c, pm_2i_c, pm_1l_c, pm_2l_c, pm_1a_c, pm_ia_c, pm_iia_c, pm_va_c, pm_cp_c, pm_k0_c, pm_k1_c, pm_k2_c, pm_k3_c, pm_s1_c, pm_s2_c, pm_s3_c, pm_s4_c, pm_ri_c, pm_ra_c, pm_rn_c, pm_rk_i, pm_rk_z, pm_rk_a, pm_vk_i, pm_vk_z, pm_vk_a, pm_cti, pm_ctr, pm_ldi_z, pm_ldi_s, pm_lda_z, pm_lda_s, pm_cat_n, pm_cat_i, pm_cat_r, pm_cat_l, pm_obj, pm_arr, pm_opt, pm_ird, pm_aln, List.getElem?_cons_zero, List.getElem?_cons_succ, List.set_cons_zero, List.set_cons_succ, List.length_cons, List.length_nil, List.length_set, true_and, and_true, Nat.add_zero, Nat.zero_add, Nat.le_refl, Nat.reduceAdd, Nat.reduceLT, Nat.reduceLeDiff, Nat.zero_le, not_false_eq_true, not_true_eq_false, false_implies, implies_true, true_implies, Nat.zero_lt_succ, Nat.lt_add_one, pm_tl_n, pm_tl_s, sc_uL, Q0', k1, k2, k4, k5, c1]
      refine PM_use (c_M_mainFor KC (d + 5)) ?_
      rintro x g7 k7 ⟨rfl, rfl⟩
      rw [VC.mm]
      by_cases c2 : mN C = 0
      · have c2a : nI (mN C) < 1 := by rw [c2]; decide
        have c2b : nI (mN C) = 0 := by rw [c2]; rfl
        rw [if_pos c2a]
        obtain ⟨g8, e8, k8, F8, U0, f8, U1, UR⟩ := md_.st Q0 Q1 QR (i := 21) (by omega) (k := 1691) rfl v
        have U0' := U0
        unfold mO at U0'
        show W_X12_misses _ _ _ _ _ _ _ _ _
        simp only [w_X12_misses_63, w_X12_misses_66, w_X12_misses_67, w_X12_misses_70, w_X12_misses_73, w_X12_misses_74, w_X12_misses_75, w_X12_misses_76, w_X12_misses_77, pm_1i_c, pm_2i_c, pm_1l_c, pm_2l_c, pm_1a_c, pm_ia_c, pm_iia_c, pm_va_c, pm_cp_c, pm_k0_c, pm_k1_c, pm_k2_c, pm_k3_c, pm_s1_c, pm_s2_c, pm_s3_c, pm_s4_c, pm_ri_c, pm_ra_c, pm_rn_c, pm_rk_i, pm_rk_z, pm_rk_a, pm_vk_i, pm_vk_z, pm_vk_a, pm_cti, pm_ctr, pm_ldi_z, pm_ldi_s, pm_lda_z, pm_lda_s, pm_cat_n, pm_cat_i, pm_cat_r, pm_cat_l, pm_obj, pm_arr, pm_opt, pm_ird, pm_aln, List.getElem?_cons_zero, List.getElem?_cons_succ, List.set_cons_zero, List.set_cons_succ, List.length_cons, List.length_nil, List.length_set, true_and, and_true, Nat.add_zero, Nat.zero_add, Nat.le_refl, Nat.reduceAdd, Nat.reduceLT, Nat.reduceLeDiff, Nat.zero_le, not_false_eq_true, not_true_eq_false, false_implies, implies_true, true_implies, Nat.zero_lt_succ, Nat.lt_add_one, pm_tl_n, pm_tl_s, sc_uL, Q0', Q1, k1, k2, k4, k5, k8, c2b, ix_1691, vi_1691, e8, U0']
        refine PM_use (c_M_goesOut (A := uS C 21 v) ⟨U0, f8, U1, UR⟩ v (d + 6)) ?_
        rintro x g9 k9 ⟨rfl, K9, F9⟩
        show W_X12_misses _ _ _ _ _ _ _ _ _
        simp only [w_X12_misses_80, w_X12_misses_83, w_X12_misses_84, w_X12_misses_85, w_X12_misses_88, pm_1i_c, pm_2i_c, pm_1l_c, pm_2l_c, pm_1a_c, pm_ia_c, pm_iia_c, pm_va_c, pm_cp_c, pm_k0_c, pm_k1_c, pm_k2_c, pm_k3_c, pm_s1_c, pm_s2_c, pm_s3_c, pm_s4_c, pm_ri_c, pm_ra_c, pm_rn_c, pm_rk_i, pm_rk_z, pm_rk_a, pm_vk_i, pm_vk_z, pm_vk_a, pm_cti, pm_ctr, pm_ldi_z, pm_ldi_s, pm_lda_z, pm_lda_s, pm_cat_n, pm_cat_i, pm_cat_r, pm_cat_l, pm_obj, pm_arr, pm_opt, pm_ird, pm_aln, List.getElem?_cons_zero, List.getElem?_cons_succ, List.set_cons_zero, List.set_cons_succ, List.length_cons, List.length_nil, List.length_set, true_and, and_true, Nat.add_zero, Nat.zero_add, Nat.le_refl, Nat.reduceAdd, Nat.reduceLT, Nat.reduceLeDiff, Nat.zero_le, not_false_eq_true, not_true_eq_false, false_implies, implies_true, true_implies, Nat.zero_lt_succ, Nat.lt_add_one, pm_tl_n, pm_tl_s, sc_uL, k1, k2, k4, k5, k8, k9]
        exact ⟨K9, (P5.t1 F8).t1 F9, (fr.tr F8.tm).tr F9.tm⟩
      · have c2a : ¬ nI (mN C) < 1 := nI_nlt (b := 1) (by omega) (by omega)
        have c2b : ¬ nI (mN C) = 0 := nI_ne0 (by omega) (by omega)
        rw [if_neg c2a]
        show W_X12_misses _ _ _ _ _ _ _ _ _
        simp only [w_X12_misses_63, w_X12_misses_83, w_X12_misses_84, w_X12_misses_85, pm_1i_c, pm_2i_c, pm_1l_c, pm_2l_c, pm_1a_c, pm_ia_c, pm_iia_c, pm_va_c, pm_cp_c, pm_k0_c, pm_k1_c, pm_k2_c, pm_k3_c, pm_s1_c, pm_s2_c, pm_s3_c, pm_s4_c, pm_ri_c, pm_ra_c, pm_rn_c, pm_rk_i, pm_rk_z, pm_rk_a, pm_vk_i, pm_vk_z, pm_vk_a, pm_cti, pm_ctr, pm_ldi_z, pm_ldi_s, pm_lda_z, pm_lda_s, pm_cat_n, pm_cat_i, pm_cat_r, pm_cat_l, pm_obj, pm_arr, pm_opt, pm_ird, pm_aln, List.getElem?_cons_zero, List.getElem?_cons_succ, List.set_cons_zero, List.set_cons_succ, List.length_cons, List.length_nil, List.length_set, true_and, and_true, Nat.add_zero, Nat.zero_add, Nat.le_refl, Nat.reduceAdd, Nat.reduceLT, Nat.reduceLeDiff, Nat.zero_le, not_false_eq_true, not_true_eq_false, false_implies, implies_true, true_implies, Nat.zero_lt_succ, Nat.lt_add_one, pm_tl_n, pm_tl_s, sc_uL, Q0', k1, k2, k4, k5, c2b]
        have hh : (li C 2).length + (li C 3).length ≤ 64 := by rw [lC2, lC3]; omega
        refine PM_use (c_M_contests KC P5 WC (by omega) hh v d) ?_
        rintro x g8 k8 ⟨rfl, K8, K9, F8⟩
        show W_X12_misses _ _ _ _ _ _ _ _ _
        simp only [w_X12_misses_88, pm_1i_c, pm_2i_c, pm_1l_c, pm_2l_c, pm_1a_c, pm_ia_c, pm_iia_c, pm_va_c, pm_cp_c, pm_k0_c, pm_k1_c, pm_k2_c, pm_k3_c, pm_s1_c, pm_s2_c, pm_s3_c, pm_s4_c, pm_ri_c, pm_ra_c, pm_rn_c, pm_rk_i, pm_rk_z, pm_rk_a, pm_vk_i, pm_vk_z, pm_vk_a, pm_cti, pm_ctr, pm_ldi_z, pm_ldi_s, pm_lda_z, pm_lda_s, pm_cat_n, pm_cat_i, pm_cat_r, pm_cat_l, pm_obj, pm_arr, pm_opt, pm_ird, pm_aln, List.getElem?_cons_zero, List.getElem?_cons_succ, List.set_cons_zero, List.set_cons_succ, List.length_cons, List.length_nil, List.length_set, true_and, and_true, Nat.add_zero, Nat.zero_add, Nat.le_refl, Nat.reduceAdd, Nat.reduceLT, Nat.reduceLeDiff, Nat.zero_le, not_false_eq_true, not_true_eq_false, false_implies, implies_true, true_implies, Nat.zero_lt_succ, Nat.lt_add_one, pm_tl_n, pm_tl_s, sc_uL, k1, k2, k4, k5, k8]
        exact ⟨K8, K9, fr.tr F8⟩
  · rw [if_neg c]
    show W_X12_misses _ _ _ _ _ _ _ _ _
    simp only [w_X12_misses_20, w_X12_misses_23, pm_1i_c, pm_2i_c, pm_1l_c, pm_2l_c, pm_1a_c, pm_ia_c, pm_iia_c, pm_va_c, pm_cp_c, pm_k0_c, pm_k1_c, pm_k2_c, pm_k3_c, pm_s1_c, pm_s2_c, pm_s3_c, pm_s4_c, pm_ri_c, pm_ra_c, pm_rn_c, pm_rk_i, pm_rk_z, pm_rk_a, pm_vk_i, pm_vk_z, pm_vk_a, pm_cti, pm_ctr, pm_ldi_z, pm_ldi_s, pm_lda_z, pm_lda_s, pm_cat_n, pm_cat_i, pm_cat_r, pm_cat_l, pm_obj, pm_arr, pm_opt, pm_ird, pm_aln, List.getElem?_cons_zero, List.getElem?_cons_succ, List.set_cons_zero, List.set_cons_succ, List.length_cons, List.length_nil, List.length_set, true_and, and_true, Nat.add_zero, Nat.zero_add, Nat.le_refl, Nat.reduceAdd, Nat.reduceLT, Nat.reduceLeDiff, Nat.zero_le, not_false_eq_true, not_true_eq_false, false_implies, implies_true, true_implies, Nat.zero_lt_succ, Nat.lt_add_one, pm_tl_n, pm_tl_s, sc_uL, O0, k1, k2, c]
    exact ⟨K2, (P.t1 F1).t1 F2, F1.tm.tr F2.tm⟩
end MH
