/-! AdmissionDesk: law and trace. -/
section FF
variable {h h' : pmH} {a : Nat} {bs ws : List Int32} {A A' K S : AD} {ik ft : Int32}
/-- the desk behind a law that was told -/
def lwB (A : AD) (p : Int32) (cs : List Int32) : AD := uW (uS A 23 p) (fun f => lawE cs (fctL f))
def lwA (A : AD) (bs : List Int32) : AD := lwB A (nI (lwS bs).2.1) ((lwS bs).2.2.take 400)
theorem dk_.ulB {B : Nat} (D : dk_ h B A) {p : Int32} {cs : List Int32} (K3 : h'[B + 5]? = some (.inr (3, [.ref (B + 5 + 1), .ref (B + 5 + 3), .int p]))) (K4 : rw_ h' (B + 5 + 1) 400 cs) (K5 : ∀ i, i ≠ B + 5 → i ≠ B + 5 + 1 → i ≠ B + 5 + 2 → h'[i]? = h[i]?) : dk_ h' B (lwB A p cs) := by
  obtain ⟨da, ⟨cs3, db, dc⟩, st, de⟩ := D.la
  exact D.ulw ⟨K3, ⟨_, K4, Or.inr fun f => rfl⟩, st, de.kept (K5 _ (by omega) (by omega) (by omega)) (K5 _ (by omega) (by omega) (by omega))⟩ (fun i hi => K5 i (by omega) (by omega) (by omega)) (fun i hi => sc_ne hi) rfl rfl rfl
theorem sc_23 (A : AD) (p : Int32) (cs : List Int32) : sc (lwB A p cs) 23 = p := rfl
set_option maxHeartbeats 2000000 in
theorem c_F_law (C : cr_ h a bs ws A K ik ft) (d : Nat) : W_X11_law (d + 31) (h.length + 0) 0 (fun v h' => if lwV bs = -1 then v = some (.int (nI (lwS bs).2.1)) ∧ cr_ h' a [] ws (lwA A bs) K ik (-1) ∧ frC h h' a else v = some (.retAddr 0) ∧ cr_ h' a [] ws A K ik (lwV bs) ∧ frC h h' a) 0 [some (.ref a)] [] h 0 := by
  have co := C.o
  obtain ⟨p, cs, L⟩ := C.lr
  have lo := L.1
  simp only [w_X11_law_0, w_X11_law_1, w_X11_law_2, w_X11_law_5, w_X11_law_6, w_X11_law_9, pm_1i_c, pm_2i_c, pm_1l_c, pm_2l_c, pm_1a_c, pm_ia_c, pm_iia_c, pm_va_c, pm_cp_c, pm_k0_c, pm_k1_c, pm_k2_c, pm_k3_c, pm_s1_c, pm_s2_c, pm_s3_c, pm_s4_c, pm_ri_c, pm_ra_c, pm_rn_c, pm_rk_i, pm_rk_z, pm_rk_a, pm_vk_i, pm_vk_z, pm_vk_a, pm_cti, pm_ctr, pm_ldi_z, pm_ldi_s, pm_lda_z, pm_lda_s, pm_cat_n, pm_cat_i, pm_cat_r, pm_cat_l, pm_obj, pm_arr, pm_opt, pm_ird, pm_aln, List.getElem?_cons_zero, List.getElem?_cons_succ, List.set_cons_zero, List.set_cons_succ, List.length_cons, List.length_nil, List.length_set, true_and, and_true, Nat.add_zero, Nat.zero_add, Nat.le_refl, Nat.reduceAdd, Nat.reduceLT, Nat.reduceLeDiff, Nat.zero_le, not_false_eq_true, not_true_eq_false, false_implies, implies_true, true_implies, Nat.zero_lt_succ, Nat.lt_add_one, co, lo]
  refine PM_use (c_R_read L C.tp (by omega) d) ?_
  rintro v h1 l1 ⟨rfl, L1, p60, f1⟩
  obtain ⟨C1, g1⟩ := C.ul L1 f1
  have co1 := C1.o
  obtain ⟨h2, E2, l2, g2, C2⟩ := C1.uo ik (lwV bs)
  show W_X11_law _ _ _ _ _ _ _ _ _
  simp only [w_X11_law_12, pm_1i_c, pm_2i_c, pm_1l_c, pm_2l_c, pm_1a_c, pm_ia_c, pm_iia_c, pm_va_c, pm_cp_c, pm_k0_c, pm_k1_c, pm_k2_c, pm_k3_c, pm_s1_c, pm_s2_c, pm_s3_c, pm_s4_c, pm_ri_c, pm_ra_c, pm_rn_c, pm_rk_i, pm_rk_z, pm_rk_a, pm_vk_i, pm_vk_z, pm_vk_a, pm_cti, pm_ctr, pm_ldi_z, pm_ldi_s, pm_lda_z, pm_lda_s, pm_cat_n, pm_cat_i, pm_cat_r, pm_cat_l, pm_obj, pm_arr, pm_opt, pm_ird, pm_aln, List.getElem?_cons_zero, List.getElem?_cons_succ, List.set_cons_zero, List.set_cons_succ, List.length_cons, List.length_nil, List.length_set, true_and, and_true, Nat.add_zero, Nat.zero_add, Nat.le_refl, Nat.reduceAdd, Nat.reduceLT, Nat.reduceLeDiff, Nat.zero_le, not_false_eq_true, not_true_eq_false, false_implies, implies_true, true_implies, Nat.zero_lt_succ, Nat.lt_add_one, pm_tl_n, pm_tl_s, sc_uL, co1, l1]
  rw [E2]
  have co2 := C2.o
  have to2 := C2.to
  simp only [w_X11_law_15, w_X11_law_16, w_X11_law_19, w_X11_law_20, pm_1i_c, pm_2i_c, pm_1l_c, pm_2l_c, pm_1a_c, pm_ia_c, pm_iia_c, pm_va_c, pm_cp_c, pm_k0_c, pm_k1_c, pm_k2_c, pm_k3_c, pm_s1_c, pm_s2_c, pm_s3_c, pm_s4_c, pm_ri_c, pm_ra_c, pm_rn_c, pm_rk_i, pm_rk_z, pm_rk_a, pm_vk_i, pm_vk_z, pm_vk_a, pm_cti, pm_ctr, pm_ldi_z, pm_ldi_s, pm_lda_z, pm_lda_s, pm_cat_n, pm_cat_i, pm_cat_r, pm_cat_l, pm_obj, pm_arr, pm_opt, pm_ird, pm_aln, List.getElem?_cons_zero, List.getElem?_cons_succ, List.set_cons_zero, List.set_cons_succ, List.length_cons, List.length_nil, List.length_set, true_and, and_true, Nat.add_zero, Nat.zero_add, Nat.le_refl, Nat.reduceAdd, Nat.reduceLT, Nat.reduceLeDiff, Nat.zero_le, not_false_eq_true, not_true_eq_false, false_implies, implies_true, true_implies, Nat.zero_lt_succ, Nat.lt_add_one, co2, to2, l2, l1]
  refine PM_use (c_Row_cut0 C2.tp (d + 30)) ?_
  rintro v h3 l3 ⟨rfl, K1, K2⟩
  obtain ⟨C3, g3⟩ := C2.ut K1 K2
  have co3 := C3.o
  have L3 : lr0 h3 (a + 5) (nI (lwS bs).2.1) ((lwS bs).2.2.take 400) := L1.kept (fun i x y => by rw [K2 i (by omega) (by omega), ← E2, hset_n (by omega)])
  by_cases c : lwV bs = -1
  · simp only [if_pos c]
    have D3 := C3.d
    have xo3 := D3.o
    have xa3 := D3.sh
    have xb3 := D3.ko
    have xc3 := D3.lo
    have xf3 := D3.co
    have x13 := D3.wo
    have x23 := D3.to
    have x33 := D3.so
    have x43 := D3.go
    have x53 := D3.po
    have lo3 := L3.1
    rw [c] at co3 C3
    show W_X11_law _ _ _ _ _ _ _ _ _
    simp only [w_X11_law_23, w_X11_law_24, w_X11_law_27, w_X11_law_28, w_X11_law_31, w_X11_law_41, w_X11_law_42, w_X11_law_45, w_X11_law_48, w_X11_law_49, w_X11_law_52, w_X11_law_55, pm_1i_c, pm_2i_c, pm_1l_c, pm_2l_c, pm_1a_c, pm_ia_c, pm_iia_c, pm_va_c, pm_cp_c, pm_k0_c, pm_k1_c, pm_k2_c, pm_k3_c, pm_s1_c, pm_s2_c, pm_s3_c, pm_s4_c, pm_ri_c, pm_ra_c, pm_rn_c, pm_rk_i, pm_rk_z, pm_rk_a, pm_vk_i, pm_vk_z, pm_vk_a, pm_cti, pm_ctr, pm_ldi_z, pm_ldi_s, pm_lda_z, pm_lda_s, pm_cat_n, pm_cat_i, pm_cat_r, pm_cat_l, pm_obj, pm_arr, pm_opt, pm_ird, pm_aln, List.getElem?_cons_zero, List.getElem?_cons_succ, List.set_cons_zero, List.set_cons_succ, List.length_cons, List.length_nil, List.length_set, true_and, and_true, Nat.add_zero, Nat.zero_add, Nat.le_refl, Nat.reduceAdd, Nat.reduceLT, Nat.reduceLeDiff, Nat.zero_le, not_false_eq_true, not_true_eq_false, false_implies, implies_true, true_implies, Nat.zero_lt_succ, Nat.lt_add_one, pm_tl_n, pm_tl_s, sc_uL, co3, l3, l2, l1, lo3, xo3, xa3, xb3, xc3, xf3, x13, x23, x33, x43, x53]
    obtain ⟨da, ⟨cs3, db, dc⟩, st, de⟩ := D3.la
    refine PM_use (c_Law_copyFrom D3.lo db L3.2.2.1 L3.2.2.2.1 (by omega) (d + 29)) ?_
    rintro v h4 l4 ⟨rfl, K3, K4, K5⟩
    have D4 : dk_ h4 (a + 35) (lwA A bs) := D3.ulB K3 K4 K5
    have e23 : sc (lwA A bs) 23 = nI (lwS bs).2.1 := sc_23 _ _ _
    obtain ⟨C4, g4⟩ := C3.ud D4 (fun i hi => K5 i (by omega) (by omega) (by omega))
    have co4 := C4.o
    have xo4 := D4.o
    have xa4 := D4.sh
    have xb4 := D4.ko
    have xc4 := D4.lo
    have xf4 := D4.co
    have x14 := D4.wo
    have x24 := D4.to
    have x34 := D4.so
    have x44 := D4.go
    have x54 := D4.po
    show W_X11_law _ _ _ _ _ _ _ _ _
    simp only [w_X11_law_58, w_X11_law_59, w_X11_law_62, w_X11_law_65, w_X11_law_68, pm_1i_c, pm_2i_c, pm_1l_c, pm_2l_c, pm_1a_c, pm_ia_c, pm_iia_c, pm_va_c, pm_cp_c, pm_k0_c, pm_k1_c, pm_k2_c, pm_k3_c, pm_s1_c, pm_s2_c, pm_s3_c, pm_s4_c, pm_ri_c, pm_ra_c, pm_rn_c, pm_rk_i, pm_rk_z, pm_rk_a, pm_vk_i, pm_vk_z, pm_vk_a, pm_cti, pm_ctr, pm_ldi_z, pm_ldi_s, pm_lda_z, pm_lda_s, pm_cat_n, pm_cat_i, pm_cat_r, pm_cat_l, pm_obj, pm_arr, pm_opt, pm_ird, pm_aln, List.getElem?_cons_zero, List.getElem?_cons_succ, List.set_cons_zero, List.set_cons_succ, List.length_cons, List.length_nil, List.length_set, true_and, and_true, Nat.add_zero, Nat.zero_add, Nat.le_refl, Nat.reduceAdd, Nat.reduceLT, Nat.reduceLeDiff, Nat.zero_le, not_false_eq_true, not_true_eq_false, false_implies, implies_true, true_implies, Nat.zero_lt_succ, Nat.lt_add_one, pm_tl_n, pm_tl_s, sc_uL, co4, xo4, xa4, xb4, xc4, xf4, x14, x24, x34, x44, x54, l4, l3, l2, l1, e23]
    exact ⟨C4, ((g1.tr g2).tr g3).tr g4⟩
  · simp only [if_neg c]
    show W_X11_law _ _ _ _ _ _ _ _ _
    simp only [w_X11_law_23, w_X11_law_24, w_X11_law_27, w_X11_law_28, w_X11_law_31, pm_1i_c, pm_2i_c, pm_1l_c, pm_2l_c, pm_1a_c, pm_ia_c, pm_iia_c, pm_va_c, pm_cp_c, pm_k0_c, pm_k1_c, pm_k2_c, pm_k3_c, pm_s1_c, pm_s2_c, pm_s3_c, pm_s4_c, pm_ri_c, pm_ra_c, pm_rn_c, pm_rk_i, pm_rk_z, pm_rk_a, pm_vk_i, pm_vk_z, pm_vk_a, pm_cti, pm_ctr, pm_ldi_z, pm_ldi_s, pm_lda_z, pm_lda_s, pm_cat_n, pm_cat_i, pm_cat_r, pm_cat_l, pm_obj, pm_arr, pm_opt, pm_ird, pm_aln, List.getElem?_cons_zero, List.getElem?_cons_succ, List.set_cons_zero, List.set_cons_succ, List.length_cons, List.length_nil, List.length_set, true_and, and_true, Nat.add_zero, Nat.zero_add, Nat.le_refl, Nat.reduceAdd, Nat.reduceLT, Nat.reduceLeDiff, Nat.zero_le, not_false_eq_true, not_true_eq_false, false_implies, implies_true, true_implies, Nat.zero_lt_succ, Nat.lt_add_one, pm_tl_n, pm_tl_s, sc_uL, co3, l3, l2, l1, c]
    exact ⟨C3, (g1.tr g2).tr g3⟩
set_option maxHeartbeats 2000000 in
theorem c_F_trace (hl : h.length ≤ 1000000) (C : cr_ h a bs ws A K ik ft) (V : skV A) (H : byts bs) (d : Nat) : W_X11_trace (d + 19) (h.length + 0) 0 (fun v h' => if trV bs = -1 then v = some (.int (sc (fsF A (trS bs).2) 3 - sc A 3)) ∧ cr_ h' a [] ws (fsF A (trS bs).2) K ik (-1) ∧ frC h h' a else v = some (.retAddr 0) ∧ cr_ h' a [] ws A K ik (trV bs) ∧ frC h h' a) 0 [some (.ref a), none, none] [] h 0 := by
  have co := C.o
  obtain ⟨ks, L⟩ := C.xr
  have lo := L.1
  simp only [w_X11_trace_0, w_X11_trace_1, w_X11_trace_2, w_X11_trace_5, w_X11_trace_6, w_X11_trace_9, pm_1i_c, pm_2i_c, pm_1l_c, pm_2l_c, pm_1a_c, pm_ia_c, pm_iia_c, pm_va_c, pm_cp_c, pm_k0_c, pm_k1_c, pm_k2_c, pm_k3_c, pm_s1_c, pm_s2_c, pm_s3_c, pm_s4_c, pm_ri_c, pm_ra_c, pm_rn_c, pm_rk_i, pm_rk_z, pm_rk_a, pm_vk_i, pm_vk_z, pm_vk_a, pm_cti, pm_ctr, pm_ldi_z, pm_ldi_s, pm_lda_z, pm_lda_s, pm_cat_n, pm_cat_i, pm_cat_r, pm_cat_l, pm_obj, pm_arr, pm_opt, pm_ird, pm_aln, List.getElem?_cons_zero, List.getElem?_cons_succ, List.set_cons_zero, List.set_cons_succ, List.length_cons, List.length_nil, List.length_set, true_and, and_true, Nat.add_zero, Nat.zero_add, Nat.le_refl, Nat.reduceAdd, Nat.reduceLT, Nat.reduceLeDiff, Nat.zero_le, not_false_eq_true, not_true_eq_false, false_implies, implies_true, true_implies, Nat.zero_lt_succ, Nat.lt_add_one, co, lo]
  refine PM_use (c_X_read L C.tp (by omega) (cuF_NV C.tp.le.1 H) d) ?_
  rintro v h1 l1 ⟨rfl, L1, f1⟩
  obtain ⟨C1, g1⟩ := C.ux L1 f1
  have co1 := C1.o
  obtain ⟨h2, E2, l2, g2, C2⟩ := C1.uo ik (trV bs)
  show W_X11_trace _ _ _ _ _ _ _ _ _
  simp only [w_X11_trace_12, pm_1i_c, pm_2i_c, pm_1l_c, pm_2l_c, pm_1a_c, pm_ia_c, pm_iia_c, pm_va_c, pm_cp_c, pm_k0_c, pm_k1_c, pm_k2_c, pm_k3_c, pm_s1_c, pm_s2_c, pm_s3_c, pm_s4_c, pm_ri_c, pm_ra_c, pm_rn_c, pm_rk_i, pm_rk_z, pm_rk_a, pm_vk_i, pm_vk_z, pm_vk_a, pm_cti, pm_ctr, pm_ldi_z, pm_ldi_s, pm_lda_z, pm_lda_s, pm_cat_n, pm_cat_i, pm_cat_r, pm_cat_l, pm_obj, pm_arr, pm_opt, pm_ird, pm_aln, List.getElem?_cons_zero, List.getElem?_cons_succ, List.set_cons_zero, List.set_cons_succ, List.length_cons, List.length_nil, List.length_set, true_and, and_true, Nat.add_zero, Nat.zero_add, Nat.le_refl, Nat.reduceAdd, Nat.reduceLT, Nat.reduceLeDiff, Nat.zero_le, not_false_eq_true, not_true_eq_false, false_implies, implies_true, true_implies, Nat.zero_lt_succ, Nat.lt_add_one, pm_tl_n, pm_tl_s, sc_uL, co1, l1]
  rw [E2]
  have co2 := C2.o
  have to2 := C2.to
  simp only [w_X11_trace_15, w_X11_trace_16, w_X11_trace_19, w_X11_trace_20, pm_1i_c, pm_2i_c, pm_1l_c, pm_2l_c, pm_1a_c, pm_ia_c, pm_iia_c, pm_va_c, pm_cp_c, pm_k0_c, pm_k1_c, pm_k2_c, pm_k3_c, pm_s1_c, pm_s2_c, pm_s3_c, pm_s4_c, pm_ri_c, pm_ra_c, pm_rn_c, pm_rk_i, pm_rk_z, pm_rk_a, pm_vk_i, pm_vk_z, pm_vk_a, pm_cti, pm_ctr, pm_ldi_z, pm_ldi_s, pm_lda_z, pm_lda_s, pm_cat_n, pm_cat_i, pm_cat_r, pm_cat_l, pm_obj, pm_arr, pm_opt, pm_ird, pm_aln, List.getElem?_cons_zero, List.getElem?_cons_succ, List.set_cons_zero, List.set_cons_succ, List.length_cons, List.length_nil, List.length_set, true_and, and_true, Nat.add_zero, Nat.zero_add, Nat.le_refl, Nat.reduceAdd, Nat.reduceLT, Nat.reduceLeDiff, Nat.zero_le, not_false_eq_true, not_true_eq_false, false_implies, implies_true, true_implies, Nat.zero_lt_succ, Nat.lt_add_one, co2, to2, l2, l1]
  refine PM_use (c_Row_cut0 C2.tp (d + 18)) ?_
  rintro v h3 l3 ⟨rfl, K1, K2⟩
  obtain ⟨C3, g3⟩ := C2.ut K1 K2
  have co3 := C3.o
  have L3 : tr0 h3 (a + 18) (trS bs).2 := L1.kept (fun i x y => by rw [K2 i (by omega) (by omega), ← E2, hset_n (by omega)])
  by_cases c : trV bs = -1
  · simp only [if_pos c]
    have D3 := C3.d
    have xo3 := D3.o
    have xa3 := D3.sh
    have xb3 := D3.ko
    have xc3 := D3.lo
    have xf3 := D3.co
    have x13 := D3.wo
    have x23 := D3.to
    have x33 := D3.so
    have x43 := D3.go
    have x53 := D3.po
    rw [c] at co3 C3
    have kl := L3.2.2.le
    have loop : ∀ n k, (trS bs).2.length - k = n → k ≤ (trS bs).2.length → ∀ (hh : pmH), cr_ hh a [] ws (fsF A ((trS bs).2.take k)) K ik (-1) → tr0 hh (a + 18) (trS bs).2 → hh.length = h.length → frC h hh a → W_X11_trace (d + 19) (h.length + 0) 0 (fun v h' => v = some (.int (sc (fsF A (trS bs).2) 3 - sc A 3)) ∧ cr_ h' a [] ws (fsF A (trS bs).2) K ik (-1) ∧ frC h h' a) 51 [some (.ref a), some (.int (sc A 3)), some (.int (nI k))] [] hh 0 := by
      intro n
      induction n with
      | zero =>
        intro k hn hk hh C4 L4 q1 q2
        have e1 : ¬ nI k < nI (trS bs).2.length := nI_nlt (by omega) (by omega)
        have co4 := C4.o
        have lo4 := L4.1
        have ko4 := L4.2.2.o
        have D4 := C4.d
        have xo4 := D4.o
        have xa4 := D4.sh
        have xb4 := D4.ko
        have xc4 := D4.lo
        have xf4 := D4.co
        have x14 := D4.wo
        have x24 := D4.to
        have x34 := D4.so
        have x44 := D4.go
        have x54 := D4.po
        rw [w_X11_trace_51]
        simp only [w_X11_trace_52, w_X11_trace_53, w_X11_trace_56, w_X11_trace_59, pm_1i_c, pm_2i_c, pm_1l_c, pm_2l_c, pm_1a_c, pm_ia_c, pm_iia_c, pm_va_c, pm_cp_c, pm_k0_c, pm_k1_c, pm_k2_c, pm_k3_c, pm_s1_c, pm_s2_c, pm_s3_c, pm_s4_c, pm_ri_c, pm_ra_c, pm_rn_c, pm_rk_i, pm_rk_z, pm_rk_a, pm_vk_i, pm_vk_z, pm_vk_a, pm_cti, pm_ctr, pm_ldi_z, pm_ldi_s, pm_lda_z, pm_lda_s, pm_cat_n, pm_cat_i, pm_cat_r, pm_cat_l, pm_obj, pm_arr, pm_opt, pm_ird, pm_aln, List.getElem?_cons_zero, List.getElem?_cons_succ, List.set_cons_zero, List.set_cons_succ, List.length_cons, List.length_nil, List.length_set, true_and, and_true, Nat.add_zero, Nat.zero_add, Nat.le_refl, Nat.reduceAdd, Nat.reduceLT, Nat.reduceLeDiff, Nat.zero_le, not_false_eq_true, not_true_eq_false, false_implies, implies_true, true_implies, Nat.zero_lt_succ, Nat.lt_add_one, co4, lo4, ko4, q1]
        refine PM_use (c_Row_size L4.2.2 (d + 18)) ?_
        rintro v h5 l5 ⟨rfl, rfl⟩
        show W_X11_trace _ _ _ _ _ _ _ _ _
        simp only [w_X11_trace_62, w_X11_trace_90, w_X11_trace_91, w_X11_trace_94, w_X11_trace_97, w_X11_trace_98, w_X11_trace_99, pm_1i_c, pm_2i_c, pm_1l_c, pm_2l_c, pm_1a_c, pm_ia_c, pm_iia_c, pm_va_c, pm_cp_c, pm_k0_c, pm_k1_c, pm_k2_c, pm_k3_c, pm_s1_c, pm_s2_c, pm_s3_c, pm_s4_c, pm_ri_c, pm_ra_c, pm_rn_c, pm_rk_i, pm_rk_z, pm_rk_a, pm_vk_i, pm_vk_z, pm_vk_a, pm_cti, pm_ctr, pm_ldi_z, pm_ldi_s, pm_lda_z, pm_lda_s, pm_cat_n, pm_cat_i, pm_cat_r, pm_cat_l, pm_obj, pm_arr, pm_opt, pm_ird, pm_aln, List.getElem?_cons_zero, List.getElem?_cons_succ, List.set_cons_zero, List.set_cons_succ, List.length_cons, List.length_nil, List.length_set, true_and, and_true, Nat.add_zero, Nat.zero_add, Nat.le_refl, Nat.reduceAdd, Nat.reduceLT, Nat.reduceLeDiff, Nat.zero_le, not_false_eq_true, not_true_eq_false, false_implies, implies_true, true_implies, Nat.zero_lt_succ, Nat.lt_add_one, pm_tl_n, pm_tl_s, sc_uL, e1, co4, xo4, xa4, xb4, xc4, xf4, x14, x24, x34, x44, x54, q1]
        rw [List.take_of_length_le (by omega)] at *
        exact ⟨rfl, C4, q2⟩
      | succ n ih =>
        intro k hn hk hh C4 L4 q1 q2
        have e1 : nI k < nI (trS bs).2.length := nI_lt (by omega) (by omega)
        have co4 := C4.o
        have lo4 := L4.1
        have ko4 := L4.2.2.o
        have D4 := C4.d
        have xo4 := D4.o
        have xa4 := D4.sh
        have xb4 := D4.ko
        have xc4 := D4.lo
        have xf4 := D4.co
        have x14 := D4.wo
        have x24 := D4.to
        have x34 := D4.so
        have x44 := D4.go
        have x54 := D4.po
        rw [w_X11_trace_51]
        simp only [w_X11_trace_52, w_X11_trace_53, w_X11_trace_56, w_X11_trace_59, pm_1i_c, pm_2i_c, pm_1l_c, pm_2l_c, pm_1a_c, pm_ia_c, pm_iia_c, pm_va_c, pm_cp_c, pm_k0_c, pm_k1_c, pm_k2_c, pm_k3_c, pm_s1_c, pm_s2_c, pm_s3_c, pm_s4_c, pm_ri_c, pm_ra_c, pm_rn_c, pm_rk_i, pm_rk_z, pm_rk_a, pm_vk_i, pm_vk_z, pm_vk_a, pm_cti, pm_ctr, pm_ldi_z, pm_ldi_s, pm_lda_z, pm_lda_s, pm_cat_n, pm_cat_i, pm_cat_r, pm_cat_l, pm_obj, pm_arr, pm_opt, pm_ird, pm_aln, List.getElem?_cons_zero, List.getElem?_cons_succ, List.set_cons_zero, List.set_cons_succ, List.length_cons, List.length_nil, List.length_set, true_and, and_true, Nat.add_zero, Nat.zero_add, Nat.le_refl, Nat.reduceAdd, Nat.reduceLT, Nat.reduceLeDiff, Nat.zero_le, not_false_eq_true, not_true_eq_false, false_implies, implies_true, true_implies, Nat.zero_lt_succ, Nat.lt_add_one, co4, lo4, ko4, q1]
        refine PM_use (c_Row_size L4.2.2 (d + 18)) ?_
        rintro v h5 l5 ⟨rfl, rfl⟩
        show W_X11_trace _ _ _ _ _ _ _ _ _
        simp only [w_X11_trace_62, w_X11_trace_65, w_X11_trace_66, w_X11_trace_69, w_X11_trace_70, w_X11_trace_73, w_X11_trace_76, w_X11_trace_77, pm_1i_c, pm_2i_c, pm_1l_c, pm_2l_c, pm_1a_c, pm_ia_c, pm_iia_c, pm_va_c, pm_cp_c, pm_k0_c, pm_k1_c, pm_k2_c, pm_k3_c, pm_s1_c, pm_s2_c, pm_s3_c, pm_s4_c, pm_ri_c, pm_ra_c, pm_rn_c, pm_rk_i, pm_rk_z, pm_rk_a, pm_vk_i, pm_vk_z, pm_vk_a, pm_cti, pm_ctr, pm_ldi_z, pm_ldi_s, pm_lda_z, pm_lda_s, pm_cat_n, pm_cat_i, pm_cat_r, pm_cat_l, pm_obj, pm_arr, pm_opt, pm_ird, pm_aln, List.getElem?_cons_zero, List.getElem?_cons_succ, List.set_cons_zero, List.set_cons_succ, List.length_cons, List.length_nil, List.length_set, true_and, and_true, Nat.add_zero, Nat.zero_add, Nat.le_refl, Nat.reduceAdd, Nat.reduceLT, Nat.reduceLeDiff, Nat.zero_le, not_false_eq_true, not_true_eq_false, false_implies, implies_true, true_implies, Nat.zero_lt_succ, Nat.lt_add_one, pm_tl_n, pm_tl_s, sc_uL, e1, co4, lo4, ko4, q1]
        refine PM_use (c_Row_get L4.2.2 (nI k) (d + 18)) ?_
        rintro v h5 l5 ⟨rfl, rfl⟩
        rw [rw_getN (by omega)]
        show W_X11_trace _ _ _ _ _ _ _ _ _
        simp only [w_X11_trace_80, pm_1i_c, pm_2i_c, pm_1l_c, pm_2l_c, pm_1a_c, pm_ia_c, pm_iia_c, pm_va_c, pm_cp_c, pm_k0_c, pm_k1_c, pm_k2_c, pm_k3_c, pm_s1_c, pm_s2_c, pm_s3_c, pm_s4_c, pm_ri_c, pm_ra_c, pm_rn_c, pm_rk_i, pm_rk_z, pm_rk_a, pm_vk_i, pm_vk_z, pm_vk_a, pm_cti, pm_ctr, pm_ldi_z, pm_ldi_s, pm_lda_z, pm_lda_s, pm_cat_n, pm_cat_i, pm_cat_r, pm_cat_l, pm_obj, pm_arr, pm_opt, pm_ird, pm_aln, List.getElem?_cons_zero, List.getElem?_cons_succ, List.set_cons_zero, List.set_cons_succ, List.length_cons, List.length_nil, List.length_set, true_and, and_true, Nat.add_zero, Nat.zero_add, Nat.le_refl, Nat.reduceAdd, Nat.reduceLT, Nat.reduceLeDiff, Nat.zero_le, not_false_eq_true, not_true_eq_false, false_implies, implies_true, true_implies, Nat.zero_lt_succ, Nat.lt_add_one, pm_tl_n, pm_tl_s, sc_uL, co4, xo4, xa4, xb4, xc4, xf4, x14, x24, x34, x44, x54, q1]
        refine PM_use (c_Desk_serve (by rw [q1]; exact hl) D4 (skV_fsF _ V) ((trS bs).2.getD k (-1)) (d + 13)) ?_
        rintro v h6 l6 ⟨rfl, D6, f6⟩
        obtain ⟨C6, g6⟩ := C4.ud D6 f6
        show W_X11_trace _ _ _ _ _ _ _ _ _
        simp only [w_X11_trace_83, w_X11_trace_84, w_X11_trace_87, pm_1i_c, pm_2i_c, pm_1l_c, pm_2l_c, pm_1a_c, pm_ia_c, pm_iia_c, pm_va_c, pm_cp_c, pm_k0_c, pm_k1_c, pm_k2_c, pm_k3_c, pm_s1_c, pm_s2_c, pm_s3_c, pm_s4_c, pm_ri_c, pm_ra_c, pm_rn_c, pm_rk_i, pm_rk_z, pm_rk_a, pm_vk_i, pm_vk_z, pm_vk_a, pm_cti, pm_ctr, pm_ldi_z, pm_ldi_s, pm_lda_z, pm_lda_s, pm_cat_n, pm_cat_i, pm_cat_r, pm_cat_l, pm_obj, pm_arr, pm_opt, pm_ird, pm_aln, List.getElem?_cons_zero, List.getElem?_cons_succ, List.set_cons_zero, List.set_cons_succ, List.length_cons, List.length_nil, List.length_set, true_and, and_true, Nat.add_zero, Nat.zero_add, Nat.le_refl, Nat.reduceAdd, Nat.reduceLT, Nat.reduceLeDiff, Nat.zero_le, not_false_eq_true, not_true_eq_false, false_implies, implies_true, true_implies, Nat.zero_lt_succ, Nat.lt_add_one, pm_tl_n, pm_tl_s, sc_uL, nI_1]
        refine ih (k + 1) (by omega) (by omega) h6 ?_ (L4.kept (fun i x y => f6 i (by omega))) (by rw [l6, q1]; rfl) (q2.tr g6)
        unfold fsF at C6 ⊢
        rw [take_foldA (by omega)]
        exact C6
    show W_X11_trace _ _ _ _ _ _ _ _ _
    simp only [w_X11_trace_23, w_X11_trace_24, w_X11_trace_27, w_X11_trace_28, w_X11_trace_31, w_X11_trace_41, w_X11_trace_42, w_X11_trace_45, w_X11_trace_48, w_X11_trace_49, w_X11_trace_50, pm_1i_c, pm_2i_c, pm_1l_c, pm_2l_c, pm_1a_c, pm_ia_c, pm_iia_c, pm_va_c, pm_cp_c, pm_k0_c, pm_k1_c, pm_k2_c, pm_k3_c, pm_s1_c, pm_s2_c, pm_s3_c, pm_s4_c, pm_ri_c, pm_ra_c, pm_rn_c, pm_rk_i, pm_rk_z, pm_rk_a, pm_vk_i, pm_vk_z, pm_vk_a, pm_cti, pm_ctr, pm_ldi_z, pm_ldi_s, pm_lda_z, pm_lda_s, pm_cat_n, pm_cat_i, pm_cat_r, pm_cat_l, pm_obj, pm_arr, pm_opt, pm_ird, pm_aln, List.getElem?_cons_zero, List.getElem?_cons_succ, List.set_cons_zero, List.set_cons_succ, List.length_cons, List.length_nil, List.length_set, true_and, and_true, Nat.add_zero, Nat.zero_add, Nat.le_refl, Nat.reduceAdd, Nat.reduceLT, Nat.reduceLeDiff, Nat.zero_le, not_false_eq_true, not_true_eq_false, false_implies, implies_true, true_implies, Nat.zero_lt_succ, Nat.lt_add_one, pm_tl_n, pm_tl_s, sc_uL, co3, l3, l2, l1, xo3, xa3, xb3, xc3, xf3, x13, x23, x33, x43, x53]
    exact loop _ 0 rfl (by omega) h3 C3 L3 (by rw [l3, l2, l1]; rfl) ((g1.tr g2).tr g3)
  · simp only [if_neg c]
    show W_X11_trace _ _ _ _ _ _ _ _ _
    simp only [w_X11_trace_23, w_X11_trace_24, w_X11_trace_27, w_X11_trace_28, w_X11_trace_31, pm_1i_c, pm_2i_c, pm_1l_c, pm_2l_c, pm_1a_c, pm_ia_c, pm_iia_c, pm_va_c, pm_cp_c, pm_k0_c, pm_k1_c, pm_k2_c, pm_k3_c, pm_s1_c, pm_s2_c, pm_s3_c, pm_s4_c, pm_ri_c, pm_ra_c, pm_rn_c, pm_rk_i, pm_rk_z, pm_rk_a, pm_vk_i, pm_vk_z, pm_vk_a, pm_cti, pm_ctr, pm_ldi_z, pm_ldi_s, pm_lda_z, pm_lda_s, pm_cat_n, pm_cat_i, pm_cat_r, pm_cat_l, pm_obj, pm_arr, pm_opt, pm_ird, pm_aln, List.getElem?_cons_zero, List.getElem?_cons_succ, List.set_cons_zero, List.set_cons_succ, List.length_cons, List.length_nil, List.length_set, true_and, and_true, Nat.add_zero, Nat.zero_add, Nat.le_refl, Nat.reduceAdd, Nat.reduceLT, Nat.reduceLeDiff, Nat.zero_le, not_false_eq_true, not_true_eq_false, false_implies, implies_true, true_implies, Nat.zero_lt_succ, Nat.lt_add_one, pm_tl_n, pm_tl_s, sc_uL, co3, l3, l2, l1, c]
    exact ⟨C3, (g1.tr g2).tr g3⟩
end FF
