/-! AdmissionDeskModel: again, best, needed, twin. -/
section MT
variable {h h' : pmH} {m : Nat} {o : Nat → Int32} {A A' K K' B : AD} {bs ws bs' ws' : List Int32} {ik ft : Int32}
theorem mm_.u4 (C : mm_ h m o A K bs ws) (M : mO h' m o) (N : ∃ f, h'[m + 1]? = some (.inl (0, 2195, .inl f)) ∧ rep f A') (P : pil h' m) (N3 : ∃ f, h'[m + 3]? = some (.inl (0, 2195, .inl f))) (F : ∀ i, i ≠ m + 1 → i ≠ m + 3 → i ≠ m + 7 → h'[i]? = h[i]?) : mm_ h' m o A' K bs ws ∧ frM h h' m := by
  refine ⟨⟨M, N, ?_, N3, ?_, ?_, ?_, P, ?_, ?_, ?_⟩, fun i hi => F i (by omega) (by omega) (by omega)⟩
  · obtain ⟨f, h1, h2⟩ := C.k
    exact ⟨f, (F _ (by omega) (by omega) (by omega)).trans h1, h2⟩
  · obtain ⟨f, h1, h2⟩ := C.tp
    exact ⟨f, (F _ (by omega) (by omega) (by omega)).trans h1, h2⟩
  · obtain ⟨f, h1⟩ := C.fv
    exact ⟨f, (F _ (by omega) (by omega) (by omega)).trans h1⟩
  · obtain ⟨f, h1⟩ := C.cd
    exact ⟨f, (F _ (by omega) (by omega) (by omega)).trans h1⟩
  · obtain ⟨f, h1⟩ := C.td
    exact ⟨f, (F _ (by omega) (by omega) (by omega)).trans h1⟩
  · obtain ⟨f, h1⟩ := C.rw
    exact ⟨f, (F _ (by omega) (by omega) (by omega)).trans h1⟩
  · obtain ⟨f, h1, h2⟩ := C.tx
    exact ⟨f, (F _ (by omega) (by omega) (by omega)).trans h1, h2⟩
theorem skV.cg' (V : skV A) (e13 : sc B 13 = sc A 13) (e14 : sc B 14 = sc A 14) (en : ∀ k, k < 256 → nt B k = 0 ∨ nt B k = 1) : skV B := by
  obtain ⟨⟨w, w1, w2, w3⟩, v2, v3⟩ := V
  exact ⟨⟨w, w1, w2, e13.trans w3⟩, by rw [e14]; exact v2, en⟩
def zr : Nat → AD → AD
  | 0, B => B
  | k + 1, B => uS (zr k B) k 0
theorem zr_sc : ∀ (k : Nat) (B : AD) (i : Nat), sc (zr k B) i = if i < k then 0 else sc B i
  | 0, B, i => by rw [if_neg (by omega)]; rfl
  | k + 1, B, i => by
    have e : zr (k + 1) B = uS (zr k B) k 0 := rfl
    rw [e, sc_uS]
    by_cases c : i = k
    · rw [if_pos c, if_pos (by omega)]
    · rw [if_neg c, zr_sc k B i]
      by_cases c2 : i < k
      · rw [if_pos c2, if_pos (by omega)]
      · rw [if_neg c2, if_neg (by omega)]
theorem zr_2 : ∀ (k : Nat) (B : AD), (zr k B).2 = B.2
  | 0, B => rfl
  | k + 1, B => zr_2 k B
def ag0 (A : AD) : AD := uL (uL (uL (uL (fcU A) 1 []) 2 []) 3 []) 4 []
def agX (A : AD) (door : Int32) : AD := uS (uS (zr 8 (ag0 A)) 9 door) 12 0
theorem ag0_sc {i : Nat} (hi : i ≠ 0) : sc (ag0 A) i = sc A i := by
  unfold ag0 fcU
  rw [sc_uL, sc_uL, sc_uL, sc_uL, sc_uN, sc_uC, sc_ne hi]
theorem ag0_li (p : Nat) (h1 : 1 ≤ p) (h4 : p ≤ 4) : li (ag0 A) p = [] := by
  unfold ag0
  have : p = 1 ∨ p = 2 ∨ p = 3 ∨ p = 4 := by omega
  rcases this with rfl | rfl | rfl | rfl
  · rw [li_uL, if_neg (by omega), li_uL, if_neg (by omega), li_uL, if_neg (by omega), li_uL, if_pos rfl]
  · rw [li_uL, if_neg (by omega), li_uL, if_neg (by omega), li_uL, if_pos rfl]
  · rw [li_uL, if_neg (by omega), li_uL, if_pos rfl]
  · rw [li_uL, if_pos rfl]
theorem ag0_l5 : li (ag0 A) 5 = li A 5 := by
  unfold ag0 fcU
  rw [li_uL, if_neg (by omega), li_uL, if_neg (by omega), li_uL, if_neg (by omega), li_uL, if_neg (by omega), li_uN, li_uC, li_uS]
theorem agX_2 (door : Int32) : (agX A door).2 = (ag0 A).2 := zr_2 8 (ag0 A)
theorem agX_li (door : Int32) : li (agX A door) = li (ag0 A) := by
  unfold li
  rw [agX_2]
theorem agX_sc (door : Int32) (i : Nat) : sc (agX A door) i = if i = 12 then 0 else if i = 9 then door else if i < 8 then 0 else sc (ag0 A) i := by
  unfold agX
  rw [sc_uS, sc_uS, zr_sc]
theorem agX_ge (door : Int32) {i : Nat} (h8 : 8 ≤ i) (h9 : i ≠ 9) (h12 : i ≠ 12) : sc (agX A door) i = sc A i := by
  rw [agX_sc, if_neg h12, if_neg h9, if_neg (by omega), ag0_sc (by omega)]
theorem agX_lt (door : Int32) {i : Nat} (h8 : i < 8) : sc (agX A door) i = 0 := by
  rw [agX_sc, if_neg (by omega), if_neg (by omega), if_pos h8]
theorem agX_cn (door : Int32) : cn (agX A door) = fun _ => 0 := by
  unfold cn
  rw [agX_2]
  rfl
theorem agX_nt (door : Int32) : nt (agX A door) = fun _ => 0 := by
  unfold nt
  rw [agX_2]
  rfl
theorem agX_lw (door : Int32) : lw (agX A door) = lw A := by
  unfold lw
  rw [agX_2]
  rfl
theorem agX_I (I : mI A) {n : Nat} (n1 : 1 ≤ n) (n2 : n ≤ 99) : mI (agX A (nI n)) := by
  obtain ⟨q, s, q1, q2, q3, q4, q5⟩ := I.ad
  obtain ⟨⟨a0, a1, a2⟩, -, c0, c1⟩ := I.sh
  have e9 : sc (agX A (nI n)) 9 = nI n := by rw [agX_sc, if_neg (by omega), if_pos rfl]
  have lp : ∀ p, 1 ≤ p → p ≤ 4 → li (agX A (nI n)) p = [] := fun p h1 h4 => by rw [agX_li]; exact ag0_li p h1 h4
  have tc0 : ∀ x, tc (agX A (nI n)) x = 0 := fun x => by
    unfold tc
    rw [lp 1 (by omega) (by omega), lp 2 (by omega) (by omega), lp 3 (by omega) (by omega), lp 4 (by omega) (by omega)]
    rfl
  refine ⟨I.sk.cg' ?_ ?_ ?_, ?_, ?_, ?_, fun x => by rw [tc0]; omega, ⟨fun x hx => by rw [tc0] at hx; omega, fun x hx => ?_⟩, ?_, ?_, ?_, ?_⟩
  · exact agX_ge _ (by omega) (by omega) (by omega)
  · exact agX_ge _ (by omega) (by omega) (by omega)
  · exact fun k _ => Or.inl (by rw [agX_nt])
  · exact fun k _ => ⟨0, by omega, by rw [agX_cn]; rfl⟩
  · exact shV.mk (by rw [agX_ge _ (by omega) (by omega) (by omega)]; exact a0) a1 a2 e9 n1 n2 (by rw [agX_ge _ (by omega) (by omega) (by omega)]; exact c0) c1
  · unfold ptV
    rw [lp 1 (by omega) (by omega), lp 2 (by omega) (by omega), lp 3 (by omega) (by omega)]
    exact ⟨Nat.zero_le _, Nat.zero_le _, Nat.zero_le _⟩
  · rw [agX_li, ag0_l5] at hx
    exact I.kh hx
  · exact ⟨0, s, by omega, q2, q3, agX_lt _ (by omega), (agX_ge _ (by omega) (by omega) (by omega)).trans q5⟩
  · exact ⟨0, by omega, by rw [agX_sc, if_pos rfl]; rfl⟩
  · rw [lp 4 (by omega) (by omega)]
    exact Nat.zero_le _
  · rw [agX_li, ag0_l5]
    exact I.l5
theorem agX_rH (door : Int32) : rH (agX A door) (stlF A door) := by
  refine ⟨fun i hi => ?_, fun p hp => ?_, (agX_cn door).symm, (agX_nt door).symm, (agX_lw door).symm⟩
  · have e : sc (stlF A door) i = if i = 8 then sc A 8 else if i = 9 then door else if i = 10 then sc A 10 else if i = 11 then sc A 11 else if i = 13 then sc A 13 else if i = 14 then sc A 14 else if i = 23 then sc A 23 else if i = 15 then 1 else if 19 ≤ i ∧ i ≤ 22 then -1 else 0 := rfl
    rw [e, agX_sc]
    by_cases c0 : i < 8
    · rw [if_neg (by omega), if_neg (by omega), if_neg (by omega), if_neg (by omega), if_neg (by omega), if_neg (by omega), if_neg (by omega), if_neg (by omega), if_neg (by omega), if_neg (by omega), if_neg (by omega), if_pos c0]
    · have : i = 8 ∨ i = 9 ∨ i = 10 ∨ i = 11 ∨ i = 12 ∨ i = 13 ∨ i = 14 ∨ i = 23 := by omega
      rcases this with rfl | rfl | rfl | rfl | rfl | rfl | rfl | rfl
      · rw [ag0_sc (by omega)]; rfl
      · rfl
      · rw [ag0_sc (by omega)]; rfl
      · rw [ag0_sc (by omega)]; rfl
      · rfl
      · rw [ag0_sc (by omega)]; rfl
      · rw [ag0_sc (by omega)]; rfl
      · rw [ag0_sc (by omega)]; rfl
  · rw [agX_li]
    rw [ag0_li p hp.1 hp.2]
    rfl
theorem agn_X (I : mI A) {n : Nat} (n1 : 1 ≤ n) (n2 : n ≤ 99) : agn A (nI n) = sc (fsF (agX A (nI n)) (li A 5)) 3 := by
  have R := rH_fs (li A 5) (agX_I I n1 n2) (agX_rH (nI n)) (fun x hx => I.kh hx) (by rw [agX_sc, if_pos rfl]; decide)
  exact R.1 3 (by omega)
theorem agn_le (I : mI A) {n : Nat} (n1 : 1 ≤ n) (n2 : n ≤ 99) : ∃ z, z ≤ 100 ∧ agn A (nI n) = nI z := by
  rw [agn_X I n1 n2, fs_3 _ (agX_I I n1 n2) (fun x hx => I.kh hx), agX_lt _ (by omega), Int32.zero_add]
  exact ⟨_, Nat.le_trans (hitS_le _ _) I.l5, rfl⟩
set_option maxHeartbeats 1000000 in
theorem c_M_againBy (C : mm_ h m o A K bs ws) (I : mI A) {n : Nat} (n1 : 1 ≤ n) (n2 : n ≤ 99) (d : Nat) : PM (d + 10) 230 [.ref m, .int (nI n)] h (fun v h' => v = some (.int (agn A (nI n))) ∧ mm_ h' m o A K bs ws ∧ frM h h' m) := by
  have H0 := C.ob
  unfold mO at H0
  obtain ⟨f, Hf, Rf⟩ := C.n
  obtain ⟨fa0, Ha⟩ := C.as
  have IX := agX_I I n1 n2
  have l5 := I.l5
  obtain ⟨hh1, hh2, hh3⟩ := Rf.h
  refine en_X12_againBy rfl rfl ?_
  simp only [w_X12_againBy_0, w_X12_againBy_1, w_X12_againBy_4, w_X12_againBy_5, w_X12_againBy_8, pm_1i_c, pm_2i_c, pm_1l_c, pm_2l_c, pm_1a_c, pm_ia_c, pm_iia_c, pm_va_c, pm_cp_c, pm_k0_c, pm_k1_c, pm_k2_c, pm_k3_c, pm_s1_c, pm_s2_c, pm_s3_c, pm_s4_c, pm_ri_c, pm_ra_c, pm_rn_c, pm_rk_i, pm_rk_z, pm_rk_a, pm_vk_i, pm_vk_z, pm_vk_a, pm_cti, pm_ctr, pm_ldi_z, pm_ldi_s, pm_lda_z, pm_lda_s, pm_cat_n, pm_cat_i, pm_cat_r, pm_cat_l, pm_obj, pm_arr, pm_opt, pm_ird, pm_aln, List.getElem?_cons_zero, List.getElem?_cons_succ, List.set_cons_zero, List.set_cons_succ, List.length_cons, List.length_nil, List.length_set, true_and, and_true, Nat.add_zero, Nat.zero_add, Nat.le_refl, Nat.reduceAdd, Nat.reduceLT, Nat.reduceLeDiff, Nat.zero_le, not_false_eq_true, not_true_eq_false, false_implies, implies_true, true_implies, Nat.zero_lt_succ, Nat.lt_add_one, H0]
  refine PM_use (c_M_copies Hf Ha (by omega) (d + 8)) ?_
  rintro v g1 k1 ⟨rfl, ⟨fa, K1, K2⟩, K3⟩
  have q0 : g1[m]? = h[m]? := K3 m (by omega)
  have q1 : g1[m + 1]? = h[m + 1]? := K3 (m + 1) (by omega)
  have M1 : md_ g1 m o A := ⟨(by unfold mO; rw [q0]; exact H0), f, q1.trans Hf, Rf⟩
  have fa5 : fa 1569 = nI (li A 5).length := (K2 _ (by omega)).trans hh2
  have fak : ∀ k, k < (li A 5).length → fa (1570 + k) = (li A 5).getD k (-1) := fun k hk => (K2 _ (by omega)).trans (hh3 k hk)
  show W_X12_againBy _ _ _ _ _ _ _ _ _
  simp only [w_X12_againBy_11, w_X12_againBy_12, pm_1i_c, pm_2i_c, pm_1l_c, pm_2l_c, pm_1a_c, pm_ia_c, pm_iia_c, pm_va_c, pm_cp_c, pm_k0_c, pm_k1_c, pm_k2_c, pm_k3_c, pm_s1_c, pm_s2_c, pm_s3_c, pm_s4_c, pm_ri_c, pm_ra_c, pm_rn_c, pm_rk_i, pm_rk_z, pm_rk_a, pm_vk_i, pm_vk_z, pm_vk_a, pm_cti, pm_ctr, pm_ldi_z, pm_ldi_s, pm_lda_z, pm_lda_s, pm_cat_n, pm_cat_i, pm_cat_r, pm_cat_l, pm_obj, pm_arr, pm_opt, pm_ird, pm_aln, List.getElem?_cons_zero, List.getElem?_cons_succ, List.set_cons_zero, List.set_cons_succ, List.length_cons, List.length_nil, List.length_set, true_and, and_true, Nat.add_zero, Nat.zero_add, Nat.le_refl, Nat.reduceAdd, Nat.reduceLT, Nat.reduceLeDiff, Nat.zero_le, not_false_eq_true, not_true_eq_false, false_implies, implies_true, true_implies, Nat.zero_lt_succ, Nat.lt_add_one, pm_tl_n, pm_tl_s, sc_uL, q0, H0, k1]
  refine PM_use (c_M_forgetsCounted M1 (d + 8)) ?_
  rintro v g2 k2 ⟨rfl, M2, F2⟩
  show W_X12_againBy _ _ _ _ _ _ _ _ _
  simp only [w_X12_againBy_15, w_X12_againBy_16, pm_1i_c, pm_2i_c, pm_1l_c, pm_2l_c, pm_1a_c, pm_ia_c, pm_iia_c, pm_va_c, pm_cp_c, pm_k0_c, pm_k1_c, pm_k2_c, pm_k3_c, pm_s1_c, pm_s2_c, pm_s3_c, pm_s4_c, pm_ri_c, pm_ra_c, pm_rn_c, pm_rk_i, pm_rk_z, pm_rk_a, pm_vk_i, pm_vk_z, pm_vk_a, pm_cti, pm_ctr, pm_ldi_z, pm_ldi_s, pm_lda_z, pm_lda_s, pm_cat_n, pm_cat_i, pm_cat_r, pm_cat_l, pm_obj, pm_arr, pm_opt, pm_ird, pm_aln, List.getElem?_cons_zero, List.getElem?_cons_succ, List.set_cons_zero, List.set_cons_succ, List.length_cons, List.length_nil, List.length_set, true_and, and_true, Nat.add_zero, Nat.zero_add, Nat.le_refl, Nat.reduceAdd, Nat.reduceLT, Nat.reduceLeDiff, Nat.zero_le, not_false_eq_true, not_true_eq_false, false_implies, implies_true, true_implies, Nat.zero_lt_succ, Nat.lt_add_one, pm_tl_n, pm_tl_s, sc_uL, k1, k2]
  -- the model's cells while it plays
  have P1 : pil g1 m := C.p.keep (K3 _ (by omega))
  -- an empty part
  have part : ∀ (p : Nat) (B : AD) (g : pmH), 1 ≤ p → p ≤ 3 → md_ g m o B → g[m + 3]? = some (.inl (0, 2195, .inl fa)) → pil g m → (∀ i, i ≠ m + 1 → i ≠ m + 3 → i ≠ m + 7 → g[i]? = h[i]?) → g.length = h.length → (∀ g', md_ g' m o (uL B p []) → g'[m + 3]? = some (.inl (0, 2195, .inl fa)) → pil g' m → (∀ i, i ≠ m + 1 → i ≠ m + 3 → i ≠ m + 7 → g'[i]? = h[i]?) → g'.length = h.length → W_X12_againBy (d + 9) (h.length + 0) 0 (fun v h' => v = some (.int (agn A (nI n))) ∧ mm_ h' m o A K bs ws ∧ frM h h' m) 17 [some (.ref m), some (.int (nI n)), some (.int (nI (p + 1))), none] [] g' 0) → W_X12_againBy (d + 9) (h.length + 0) 0 (fun v h' => v = some (.int (agn A (nI n))) ∧ mm_ h' m o A K bs ws ∧ frM h h' m) 17 [some (.ref m), some (.int (nI n)), some (.int (nI p)), none] [] g 0 := by
    intro p B g p1 p3 MB ga P F l kont
    obtain ⟨b0, bf, b1, bR⟩ := MB
    have b0' := b0
    unfold mO at b0'
    have e3 : ¬ (3 : Int32) < nI p := nI_nlt (b := p) (a := 3) p3 (by omega)
    have vi : vp_in (nI (1280 + 68 * p)) 2195 := vp_in_nI (by omega) (by omega)
    have ci : (nI (1280 + 68 * p)).toNatClampNeg = 1280 + 68 * p := nI_clamp (by omega)
    obtain ⟨M3, F3⟩ := md_.set (A' := uL B p []) (f' := upd bf (1280 + 68 * p) 0) b0 b1 (bR.gL p1 p3 (fun k hk => by rw [upd_n (by omega)]) (by rw [List.length_nil]; omega) (by rw [upd_e]; rfl) (fun k hk => by rw [List.length_nil] at hk; omega))
    rw [w_X12_againBy_17]
    simp only [w_X12_againBy_18, w_X12_againBy_19, w_X12_againBy_22, w_X12_againBy_23, w_X12_againBy_26, w_X12_againBy_27, pm_1i_c, pm_2i_c, pm_1l_c, pm_2l_c, pm_1a_c, pm_ia_c, pm_iia_c, pm_va_c, pm_cp_c, pm_k0_c, pm_k1_c, pm_k2_c, pm_k3_c, pm_s1_c, pm_s2_c, pm_s3_c, pm_s4_c, pm_ri_c, pm_ra_c, pm_rn_c, pm_rk_i, pm_rk_z, pm_rk_a, pm_vk_i, pm_vk_z, pm_vk_a, pm_cti, pm_ctr, pm_ldi_z, pm_ldi_s, pm_lda_z, pm_lda_s, pm_cat_n, pm_cat_i, pm_cat_r, pm_cat_l, pm_obj, pm_arr, pm_opt, pm_ird, pm_aln, List.getElem?_cons_zero, List.getElem?_cons_succ, List.set_cons_zero, List.set_cons_succ, List.length_cons, List.length_nil, List.length_set, true_and, and_true, Nat.add_zero, Nat.zero_add, Nat.le_refl, Nat.reduceAdd, Nat.reduceLT, Nat.reduceLeDiff, Nat.zero_le, not_false_eq_true, not_true_eq_false, false_implies, implies_true, true_implies, Nat.zero_lt_succ, Nat.lt_add_one, e3, b0', l]
    refine PM_use (c_M_partAt p (d + 8)) ?_
    rintro v g9 k9 ⟨rfl, rfl⟩
    show W_X12_againBy _ _ _ _ _ _ _ _ _
    simp only [w_X12_againBy_30, w_X12_againBy_31, w_X12_againBy_32, w_X12_againBy_35, pm_1i_c, pm_2i_c, pm_1l_c, pm_2l_c, pm_1a_c, pm_ia_c, pm_iia_c, pm_va_c, pm_cp_c, pm_k0_c, pm_k1_c, pm_k2_c, pm_k3_c, pm_s1_c, pm_s2_c, pm_s3_c, pm_s4_c, pm_ri_c, pm_ra_c, pm_rn_c, pm_rk_i, pm_rk_z, pm_rk_a, pm_vk_i, pm_vk_z, pm_vk_a, pm_cti, pm_ctr, pm_ldi_z, pm_ldi_s, pm_lda_z, pm_lda_s, pm_cat_n, pm_cat_i, pm_cat_r, pm_cat_l, pm_obj, pm_arr, pm_opt, pm_ird, pm_aln, List.getElem?_cons_zero, List.getElem?_cons_succ, List.set_cons_zero, List.set_cons_succ, List.length_cons, List.length_nil, List.length_set, true_and, and_true, Nat.add_zero, Nat.zero_add, Nat.le_refl, Nat.reduceAdd, Nat.reduceLT, Nat.reduceLeDiff, Nat.zero_le, not_false_eq_true, not_true_eq_false, false_implies, implies_true, true_implies, Nat.zero_lt_succ, Nat.lt_add_one, pm_tl_n, pm_tl_s, sc_uL, b1, vi, ci, nI_1]
    exact kont _ M3 (by rw [F3 _ (by omega)]; exact ga) (P.t1 F3) (fun i x y z => by rw [F3 i x]; exact F i x y z) (by rw [List.length_set]; exact l)
  have a2 : g2[m + 3]? = some (.inl (0, 2195, .inl fa)) := (F2 _ (by omega)).trans K1
  have fr2 : ∀ i, i ≠ m + 1 → i ≠ m + 3 → i ≠ m + 7 → g2[i]? = h[i]? := fun i x y z => (F2 i x).trans (K3 i y)
  refine part 1 _ g2 (by omega) (by omega) M2 a2 (P1.t1 F2) fr2 (by omega) (fun g3 M3 a3 P3 F3 l3 => ?_)
  refine part 2 _ g3 (by omega) (by omega) M3 a3 P3 F3 l3 (fun g4 M4 a4 P4 F4 l4 => ?_)
  refine part 3 _ g4 (by omega) (by omega) M4 a4 P4 F4 l4 (fun g5 M5 a5 P5 F5 l5' => ?_)
  obtain ⟨b0, bf, b1, bR⟩ := M5
  have b0' := b0
  unfold mO at b0'
  obtain ⟨M6, F6⟩ := md_.set (A' := ag0 A) (f' := upd bf 1552 0) b0 b1 (bR.gO (l := []) (fun k hk => by rw [upd_n (by omega)]) (by rw [List.length_nil]; omega) (by rw [upd_e]; rfl) (fun k hk => by rw [List.length_nil] at hk; omega))
  rw [w_X12_againBy_17]
  simp only [w_X12_againBy_18, w_X12_againBy_19, w_X12_againBy_38, w_X12_againBy_39, w_X12_againBy_42, w_X12_againBy_45, w_X12_againBy_46, w_X12_againBy_47, w_X12_againBy_50, pm_1i_c, pm_2i_c, pm_1l_c, pm_2l_c, pm_1a_c, pm_ia_c, pm_iia_c, pm_va_c, pm_cp_c, pm_k0_c, pm_k1_c, pm_k2_c, pm_k3_c, pm_s1_c, pm_s2_c, pm_s3_c, pm_s4_c, pm_ri_c, pm_ra_c, pm_rn_c, pm_rk_i, pm_rk_z, pm_rk_a, pm_vk_i, pm_vk_z, pm_vk_a, pm_cti, pm_ctr, pm_ldi_z, pm_ldi_s, pm_lda_z, pm_lda_s, pm_cat_n, pm_cat_i, pm_cat_r, pm_cat_l, pm_obj, pm_arr, pm_opt, pm_ird, pm_aln, List.getElem?_cons_zero, List.getElem?_cons_succ, List.set_cons_zero, List.set_cons_succ, List.length_cons, List.length_nil, List.length_set, true_and, and_true, Nat.add_zero, Nat.zero_add, Nat.le_refl, Nat.reduceAdd, Nat.reduceLT, Nat.reduceLeDiff, Nat.zero_le, not_false_eq_true, not_true_eq_false, false_implies, implies_true, true_implies, Nat.zero_lt_succ, Nat.lt_add_one, show (3 : Int32) < nI (3 + 1) by decide, b0', b1, ix_1552, vi_1552, l5']
  -- the play
  have play : ∀ z k, (li A 5).length - k = z → k ≤ (li A 5).length → ∀ (g : pmH) (x3 : Option Value), md_ g m o (fsF (agX A (nI n)) ((li A 5).take k)) → g[m + 3]? = some (.inl (0, 2195, .inl fa)) → pil g m → (∀ i, i ≠ m + 1 → i ≠ m + 3 → i ≠ m + 7 → g[i]? = h[i]?) → g.length = h.length → W_X12_againBy (d + 9) (h.length + 0) 0 (fun v h' => v = some (.int (agn A (nI n))) ∧ mm_ h' m o A K bs ws ∧ frM h h' m) 91 [some (.ref m), some (.int (nI n)), some (.int (nI k)), x3] [] g 0 := by
    intro z
    induction z with
    | zero =>
      intro k hz hk g x3 MB ga P F l
      have : k = (li A 5).length := by omega
      subst this
      rw [List.take_length] at MB
      obtain ⟨c0, cf, c1, cR⟩ := MB
      have c0' := c0
      unfold mO at c0'
      have e4 : ¬ nI (li A 5).length < nI (li A 5).length := nI_nlt (Nat.le_refl _) (by omega)
      have s3 : cf 1673 = agn A (nI n) := (cR.s (i := 3) (by omega)).trans (agn_X I n1 n2).symm
      rw [w_X12_againBy_91]
      simp only [w_X12_againBy_92, w_X12_againBy_93, w_X12_againBy_96, w_X12_againBy_99, w_X12_againBy_100, w_X12_againBy_124, w_X12_againBy_125, w_X12_againBy_128, w_X12_againBy_131, w_X12_againBy_132, w_X12_againBy_133, w_X12_againBy_134, w_X12_againBy_137, w_X12_againBy_138, w_X12_againBy_141, pm_1i_c, pm_2i_c, pm_1l_c, pm_2l_c, pm_1a_c, pm_ia_c, pm_iia_c, pm_va_c, pm_cp_c, pm_k0_c, pm_k1_c, pm_k2_c, pm_k3_c, pm_s1_c, pm_s2_c, pm_s3_c, pm_s4_c, pm_ri_c, pm_ra_c, pm_rn_c, pm_rk_i, pm_rk_z, pm_rk_a, pm_vk_i, pm_vk_z, pm_vk_a, pm_cti, pm_ctr, pm_ldi_z, pm_ldi_s, pm_lda_z, pm_lda_s, pm_cat_n, pm_cat_i, pm_cat_r, pm_cat_l, pm_obj, pm_arr, pm_opt, pm_ird, pm_aln, List.getElem?_cons_zero, List.getElem?_cons_succ, List.set_cons_zero, List.set_cons_succ, List.length_cons, List.length_nil, List.length_set, true_and, and_true, Nat.add_zero, Nat.zero_add, Nat.le_refl, Nat.reduceAdd, Nat.reduceLT, Nat.reduceLeDiff, Nat.zero_le, not_false_eq_true, not_true_eq_false, false_implies, implies_true, true_implies, Nat.zero_lt_succ, Nat.lt_add_one, c0', ga, ix_1569, vi_1569, fa5, e4, c1, ix_1673, vi_1673, s3, l]
      refine PM_use (c_M_copies ga c1 (by omega) (d + 8)) ?_
      rintro v g9 k9 ⟨rfl, ⟨fz, Z1, Z2⟩, Z3⟩
      show W_X12_againBy _ _ _ _ _ _ _ _ _
      simp only [w_X12_againBy_144, w_X12_againBy_145, pm_1i_c, pm_2i_c, pm_1l_c, pm_2l_c, pm_1a_c, pm_ia_c, pm_iia_c, pm_va_c, pm_cp_c, pm_k0_c, pm_k1_c, pm_k2_c, pm_k3_c, pm_s1_c, pm_s2_c, pm_s3_c, pm_s4_c, pm_ri_c, pm_ra_c, pm_rn_c, pm_rk_i, pm_rk_z, pm_rk_a, pm_vk_i, pm_vk_z, pm_vk_a, pm_cti, pm_ctr, pm_ldi_z, pm_ldi_s, pm_lda_z, pm_lda_s, pm_cat_n, pm_cat_i, pm_cat_r, pm_cat_l, pm_obj, pm_arr, pm_opt, pm_ird, pm_aln, List.getElem?_cons_zero, List.getElem?_cons_succ, List.set_cons_zero, List.set_cons_succ, List.length_cons, List.length_nil, List.length_set, true_and, and_true, Nat.add_zero, Nat.zero_add, Nat.le_refl, Nat.reduceAdd, Nat.reduceLT, Nat.reduceLeDiff, Nat.zero_le, not_false_eq_true, not_true_eq_false, false_implies, implies_true, true_implies, Nat.zero_lt_succ, Nat.lt_add_one, pm_tl_n, pm_tl_s, sc_uL, l, k9]
      refine C.u4 ((Z3 m (by omega)).trans c0) ⟨fz, Z1, (Rf.cg K2).cg Z2⟩ (P.keep (Z3 _ (by omega))) ⟨fa, (Z3 _ (by omega)).trans ga⟩ (fun i x y w => (Z3 i x).trans (F i x y w))
    | succ z ih =>
      intro k hz hk g x3 MB ga P F l
      have hk2 : k < (li A 5).length := by omega
      have MB' := MB
      obtain ⟨c0, cf, c1, cR⟩ := MB
      have c0' := c0
      unfold mO at c0'
      have e4 : nI k < nI (li A 5).length := nI_lt hk2 (by omega)
      have vi : vp_in (nI (1570 + k)) 2195 := vp_in_nI (by omega) (by omega)
      have ci : (nI (1570 + k)).toNatClampNeg = 1570 + k := nI_clamp (by omega)
      have fk := fak k hk2
      have mem : (li A 5).getD k (-1) ∈ li A 5 := by
        rw [List.getD_eq_getElem?_getD, List.getElem?_eq_getElem hk2]
        exact List.getElem_mem hk2
      have IK : mI (fsF (agX A (nI n)) ((li A 5).take k)) := fsF_ok _ IX (fun x hx => I.kh (List.mem_of_mem_take hx))
      rw [w_X12_againBy_91]
      simp only [w_X12_againBy_92, w_X12_againBy_93, w_X12_againBy_96, w_X12_againBy_99, w_X12_againBy_100, w_X12_againBy_103, w_X12_againBy_104, w_X12_againBy_105, w_X12_againBy_108, w_X12_againBy_111, w_X12_againBy_112, w_X12_againBy_113, w_X12_againBy_114, pm_1i_c, pm_2i_c, pm_1l_c, pm_2l_c, pm_1a_c, pm_ia_c, pm_iia_c, pm_va_c, pm_cp_c, pm_k0_c, pm_k1_c, pm_k2_c, pm_k3_c, pm_s1_c, pm_s2_c, pm_s3_c, pm_s4_c, pm_ri_c, pm_ra_c, pm_rn_c, pm_rk_i, pm_rk_z, pm_rk_a, pm_vk_i, pm_vk_z, pm_vk_a, pm_cti, pm_ctr, pm_ldi_z, pm_ldi_s, pm_lda_z, pm_lda_s, pm_cat_n, pm_cat_i, pm_cat_r, pm_cat_l, pm_obj, pm_arr, pm_opt, pm_ird, pm_aln, List.getElem?_cons_zero, List.getElem?_cons_succ, List.set_cons_zero, List.set_cons_succ, List.length_cons, List.length_nil, List.length_set, true_and, and_true, Nat.add_zero, Nat.zero_add, Nat.le_refl, Nat.reduceAdd, Nat.reduceLT, Nat.reduceLeDiff, Nat.zero_le, not_false_eq_true, not_true_eq_false, false_implies, implies_true, true_implies, Nat.zero_lt_succ, Nat.lt_add_one, c0', ga, ix_1569, vi_1569, fa5, e4, nI1570, vi, ci, fk, l]
      refine PM_use (c_M_asks MB' P IK (I.kh mem) d) ?_
      rintro v g9 k9 ⟨rfl, Z1, Z2, Z3⟩
      show W_X12_againBy _ _ _ _ _ _ _ _ _
      simp only [w_X12_againBy_117, w_X12_againBy_118, w_X12_againBy_121, pm_1i_c, pm_2i_c, pm_1l_c, pm_2l_c, pm_1a_c, pm_ia_c, pm_iia_c, pm_va_c, pm_cp_c, pm_k0_c, pm_k1_c, pm_k2_c, pm_k3_c, pm_s1_c, pm_s2_c, pm_s3_c, pm_s4_c, pm_ri_c, pm_ra_c, pm_rn_c, pm_rk_i, pm_rk_z, pm_rk_a, pm_vk_i, pm_vk_z, pm_vk_a, pm_cti, pm_ctr, pm_ldi_z, pm_ldi_s, pm_lda_z, pm_lda_s, pm_cat_n, pm_cat_i, pm_cat_r, pm_cat_l, pm_obj, pm_arr, pm_opt, pm_ird, pm_aln, List.getElem?_cons_zero, List.getElem?_cons_succ, List.set_cons_zero, List.set_cons_succ, List.length_cons, List.length_nil, List.length_set, true_and, and_true, Nat.add_zero, Nat.zero_add, Nat.le_refl, Nat.reduceAdd, Nat.reduceLT, Nat.reduceLeDiff, Nat.zero_le, not_false_eq_true, not_true_eq_false, false_implies, implies_true, true_implies, Nat.zero_lt_succ, Nat.lt_add_one, pm_tl_n, pm_tl_s, sc_uL, l, k9, nI_1]
      have et : fsF (agX A (nI n)) ((li A 5).take (k + 1)) = srvF (fsF (agX A (nI n)) ((li A 5).take k)) ((li A 5).getD k (-1)) := by
        unfold fsF
        rw [take_foldA hk2]
      refine ih (k + 1) (by omega) (by omega) g9 _ (by rw [et]; exact Z1) ((Z3 _ (by omega) (by omega)).trans ga) Z2 (fun i x y w => (Z3 i x w).trans (F i x y w)) (by omega)
  -- the counts
  have zero : ∀ z k, 8 - k = z → k ≤ 8 → ∀ (g : pmH), md_ g m o (zr k (ag0 A)) → g[m + 3]? = some (.inl (0, 2195, .inl fa)) → pil g m → (∀ i, i ≠ m + 1 → i ≠ m + 3 → i ≠ m + 7 → g[i]? = h[i]?) → g.length = h.length → W_X12_againBy (d + 9) (h.length + 0) 0 (fun v h' => v = some (.int (agn A (nI n))) ∧ mm_ h' m o A K bs ws ∧ frM h h' m) 51 [some (.ref m), some (.int (nI n)), some (.int (nI (1670 + k))), none] [] g 0 := by
    intro z
    induction z with
    | zero =>
      intro k hz hk g MB ga P F l
      have : k = 8 := by omega
      subst this
      obtain ⟨c0, cf, c1, cR⟩ := MB
      have c0' := c0
      unfold mO at c0'
      obtain ⟨r1, e1, t1, T1, R0, rf, R1, RR⟩ := md_.st c0 c1 cR (i := 9) (by omega) (k := 1679) rfl (nI n)
      have R0' := R0
      unfold mO at R0'
      obtain ⟨r2, e2, t2, T2, S0, sf, S1, SR⟩ := md_.st R0 R1 RR (i := 12) (by omega) (k := 1682) rfl 0
      have e4 : (1677 : Int32) < nI (1670 + 8) := by decide
      rw [w_X12_againBy_51]
      simp only [w_X12_againBy_52, w_X12_againBy_55, w_X12_againBy_71, w_X12_againBy_72, w_X12_againBy_75, w_X12_againBy_78, w_X12_againBy_79, w_X12_againBy_80, w_X12_againBy_81, w_X12_againBy_84, w_X12_againBy_87, w_X12_againBy_88, w_X12_againBy_89, w_X12_againBy_90, pm_1i_c, pm_2i_c, pm_1l_c, pm_2l_c, pm_1a_c, pm_ia_c, pm_iia_c, pm_va_c, pm_cp_c, pm_k0_c, pm_k1_c, pm_k2_c, pm_k3_c, pm_s1_c, pm_s2_c, pm_s3_c, pm_s4_c, pm_ri_c, pm_ra_c, pm_rn_c, pm_rk_i, pm_rk_z, pm_rk_a, pm_vk_i, pm_vk_z, pm_vk_a, pm_cti, pm_ctr, pm_ldi_z, pm_ldi_s, pm_lda_z, pm_lda_s, pm_cat_n, pm_cat_i, pm_cat_r, pm_cat_l, pm_obj, pm_arr, pm_opt, pm_ird, pm_aln, List.getElem?_cons_zero, List.getElem?_cons_succ, List.set_cons_zero, List.set_cons_succ, List.length_cons, List.length_nil, List.length_set, true_and, and_true, Nat.add_zero, Nat.zero_add, Nat.le_refl, Nat.reduceAdd, Nat.reduceLT, Nat.reduceLeDiff, Nat.zero_le, not_false_eq_true, not_true_eq_false, false_implies, implies_true, true_implies, Nat.zero_lt_succ, Nat.lt_add_one, e4, c0', c1, ix_1679, vi_1679, e1, R0', R1, ix_1682, vi_1682, e2]
      exact play _ 0 rfl (Nat.zero_le _) r2 _ ⟨S0, sf, S1, SR⟩ (by rw [T2 _ (by omega), T1 _ (by omega)]; exact ga) ((P.t1 T1).t1 T2) (fun i x y w => by rw [T2 i x, T1 i x]; exact F i x y w) (by omega)
    | succ z ih =>
      intro k hz hk g MB ga P F l
      obtain ⟨c0, cf, c1, cR⟩ := MB
      have c0' := c0
      unfold mO at c0'
      obtain ⟨r1, e1, t1, T1, R0, rf, R1, RR⟩ := md_.st c0 c1 cR (i := k) (by omega) (k := 1670 + k) rfl 0
      have e4 : ¬ (1677 : Int32) < nI (1670 + k) := nI_nlt (b := 1670 + k) (a := 1677) (by omega) (by omega)
      have vi : vp_in (nI (1670 + k)) 2195 := vp_in_nI (by omega) (by omega)
      have ci : (nI (1670 + k)).toNatClampNeg = 1670 + k := nI_clamp (by omega)
      rw [w_X12_againBy_51]
      simp only [w_X12_againBy_52, w_X12_againBy_55, w_X12_againBy_58, w_X12_againBy_59, w_X12_againBy_62, w_X12_againBy_63, w_X12_againBy_64, w_X12_againBy_65, w_X12_againBy_68, pm_1i_c, pm_2i_c, pm_1l_c, pm_2l_c, pm_1a_c, pm_ia_c, pm_iia_c, pm_va_c, pm_cp_c, pm_k0_c, pm_k1_c, pm_k2_c, pm_k3_c, pm_s1_c, pm_s2_c, pm_s3_c, pm_s4_c, pm_ri_c, pm_ra_c, pm_rn_c, pm_rk_i, pm_rk_z, pm_rk_a, pm_vk_i, pm_vk_z, pm_vk_a, pm_cti, pm_ctr, pm_ldi_z, pm_ldi_s, pm_lda_z, pm_lda_s, pm_cat_n, pm_cat_i, pm_cat_r, pm_cat_l, pm_obj, pm_arr, pm_opt, pm_ird, pm_aln, List.getElem?_cons_zero, List.getElem?_cons_succ, List.set_cons_zero, List.set_cons_succ, List.length_cons, List.length_nil, List.length_set, true_and, and_true, Nat.add_zero, Nat.zero_add, Nat.le_refl, Nat.reduceAdd, Nat.reduceLT, Nat.reduceLeDiff, Nat.zero_le, not_false_eq_true, not_true_eq_false, false_implies, implies_true, true_implies, Nat.zero_lt_succ, Nat.lt_add_one, e4, c0', c1, vi, ci, e1, nI_1]
      exact ih (k + 1) (by omega) (by omega) r1 ⟨R0, rf, R1, RR⟩ (by rw [T1 _ (by omega)]; exact ga) (P.t1 T1) (fun i x y w => by rw [T1 i x]; exact F i x y w) (by omega)
  exact zero 8 0 rfl (by omega) _ M6 (by rw [F6 _ (by omega)]; exact a5) (P5.t1 F6) (fun i x y w => by rw [F6 i x]; exact F5 i x y w) (by rw [List.length_set]; exact l5')
theorem drB_of {x : Int32} (c : drB x = true) : ∃ n, 1 ≤ n ∧ n ≤ 99 ∧ x = nI n := inB_nI (a := 1) (b := 99) (by omega) (by omega) (v := x) c
theorem c_P_again (C : mm_ h m o A K bs ws) (I : mI A) (x : Int32) (d : Nat) : PM (d + 11) 231 [.ref m, .int x] h (rq_ h m A K bs ws (o 0) (o 7) (drB x) (agn A x)) := by
  have H0 := C.ob
  unfold mO at H0
  obtain ⟨h1, e1, l1, F1, C1, H1⟩ := C.th 0
  have ed : inB x 1 99 = drB x := rfl
  refine en_X12_again rfl rfl ?_
  simp only [w_X12_again_0, w_X12_again_1, w_X12_again_2, w_X12_again_5, w_X12_again_6, w_X12_again_7, w_X12_again_8, w_X12_again_10, pm_1i_c, pm_2i_c, pm_1l_c, pm_2l_c, pm_1a_c, pm_ia_c, pm_iia_c, pm_va_c, pm_cp_c, pm_k0_c, pm_k1_c, pm_k2_c, pm_k3_c, pm_s1_c, pm_s2_c, pm_s3_c, pm_s4_c, pm_ri_c, pm_ra_c, pm_rn_c, pm_rk_i, pm_rk_z, pm_rk_a, pm_vk_i, pm_vk_z, pm_vk_a, pm_cti, pm_ctr, pm_ldi_z, pm_ldi_s, pm_lda_z, pm_lda_s, pm_cat_n, pm_cat_i, pm_cat_r, pm_cat_l, pm_obj, pm_arr, pm_opt, pm_ird, pm_aln, List.getElem?_cons_zero, List.getElem?_cons_succ, List.set_cons_zero, List.set_cons_succ, List.length_cons, List.length_nil, List.length_set, true_and, and_true, Nat.add_zero, Nat.zero_add, Nat.le_refl, Nat.reduceAdd, Nat.reduceLT, Nat.reduceLeDiff, Nat.zero_le, not_false_eq_true, not_true_eq_false, false_implies, implies_true, true_implies, Nat.zero_lt_succ, Nat.lt_add_one, H0, e1, H1, l1]
  refine PM_use (c_M_in x 1 99 (d + 9)) ?_
  rintro v g1 k1 ⟨rfl, rfl⟩
  rw [ed]
  cases hx : drB x with
  | false =>
    show W_X12_again _ _ _ _ _ _ _ _ _
    simp only [w_X12_again_13, w_X12_again_16, w_X12_again_17, w_X12_again_20, w_X12_again_21, w_X12_again_22, pm_1i_c, pm_2i_c, pm_1l_c, pm_2l_c, pm_1a_c, pm_ia_c, pm_iia_c, pm_va_c, pm_cp_c, pm_k0_c, pm_k1_c, pm_k2_c, pm_k3_c, pm_s1_c, pm_s2_c, pm_s3_c, pm_s4_c, pm_ri_c, pm_ra_c, pm_rn_c, pm_rk_i, pm_rk_z, pm_rk_a, pm_vk_i, pm_vk_z, pm_vk_a, pm_cti, pm_ctr, pm_ldi_z, pm_ldi_s, pm_lda_z, pm_lda_s, pm_cat_n, pm_cat_i, pm_cat_r, pm_cat_l, pm_obj, pm_arr, pm_opt, pm_ird, pm_aln, List.getElem?_cons_zero, List.getElem?_cons_succ, List.set_cons_zero, List.set_cons_succ, List.length_cons, List.length_nil, List.length_set, true_and, and_true, Nat.add_zero, Nat.zero_add, Nat.le_refl, Nat.reduceAdd, Nat.reduceLT, Nat.reduceLeDiff, Nat.zero_le, not_false_eq_true, not_true_eq_false, false_implies, implies_true, true_implies, Nat.zero_lt_succ, Nat.lt_add_one, pm_tl_n, pm_tl_s, sc_uL, Bool.false_eq_true, if_false, H1, l1]
    refine PM_use (c_P_throwsIf1 C1 1 (d + 9)) ?_
    rintro v g1 k1 ⟨rfl, K1, K2⟩
    show W_X12_again _ _ _ _ _ _ _ _ _
    simp only [w_X12_again_25, w_X12_again_28, w_X12_again_29, w_X12_again_37, pm_1i_c, pm_2i_c, pm_1l_c, pm_2l_c, pm_1a_c, pm_ia_c, pm_iia_c, pm_va_c, pm_cp_c, pm_k0_c, pm_k1_c, pm_k2_c, pm_k3_c, pm_s1_c, pm_s2_c, pm_s3_c, pm_s4_c, pm_ri_c, pm_ra_c, pm_rn_c, pm_rk_i, pm_rk_z, pm_rk_a, pm_vk_i, pm_vk_z, pm_vk_a, pm_cti, pm_ctr, pm_ldi_z, pm_ldi_s, pm_lda_z, pm_lda_s, pm_cat_n, pm_cat_i, pm_cat_r, pm_cat_l, pm_obj, pm_arr, pm_opt, pm_ird, pm_aln, List.getElem?_cons_zero, List.getElem?_cons_succ, List.set_cons_zero, List.set_cons_succ, List.length_cons, List.length_nil, List.length_set, true_and, and_true, Nat.add_zero, Nat.zero_add, Nat.le_refl, Nat.reduceAdd, Nat.reduceLT, Nat.reduceLeDiff, Nat.zero_le, not_false_eq_true, not_true_eq_false, false_implies, implies_true, true_implies, Nat.zero_lt_succ, Nat.lt_add_one, pm_tl_n, pm_tl_s, sc_uL, one0, l1, k1]
    rw [upd_upd] at K1
    exact rq_F (K1.q (F1.tr K2))
  | true =>
    obtain ⟨n, n1, n2, rfl⟩ := drB_of hx
    show W_X12_again _ _ _ _ _ _ _ _ _
    simp only [w_X12_again_13, w_X12_again_20, w_X12_again_21, w_X12_again_22, pm_1i_c, pm_2i_c, pm_1l_c, pm_2l_c, pm_1a_c, pm_ia_c, pm_iia_c, pm_va_c, pm_cp_c, pm_k0_c, pm_k1_c, pm_k2_c, pm_k3_c, pm_s1_c, pm_s2_c, pm_s3_c, pm_s4_c, pm_ri_c, pm_ra_c, pm_rn_c, pm_rk_i, pm_rk_z, pm_rk_a, pm_vk_i, pm_vk_z, pm_vk_a, pm_cti, pm_ctr, pm_ldi_z, pm_ldi_s, pm_lda_z, pm_lda_s, pm_cat_n, pm_cat_i, pm_cat_r, pm_cat_l, pm_obj, pm_arr, pm_opt, pm_ird, pm_aln, List.getElem?_cons_zero, List.getElem?_cons_succ, List.set_cons_zero, List.set_cons_succ, List.length_cons, List.length_nil, List.length_set, true_and, and_true, Nat.add_zero, Nat.zero_add, Nat.le_refl, Nat.reduceAdd, Nat.reduceLT, Nat.reduceLeDiff, Nat.zero_le, not_false_eq_true, not_true_eq_false, false_implies, implies_true, true_implies, Nat.zero_lt_succ, Nat.lt_add_one, pm_tl_n, pm_tl_s, sc_uL, if_true, one0, H1, l1]
    refine PM_use (c_P_throwsIf0 C1 1 (d + 9)) ?_
    rintro v g1 k1 ⟨rfl, rfl⟩
    show W_X12_again _ _ _ _ _ _ _ _ _
    simp only [w_X12_again_25, w_X12_again_32, w_X12_again_33, w_X12_again_34, pm_1i_c, pm_2i_c, pm_1l_c, pm_2l_c, pm_1a_c, pm_ia_c, pm_iia_c, pm_va_c, pm_cp_c, pm_k0_c, pm_k1_c, pm_k2_c, pm_k3_c, pm_s1_c, pm_s2_c, pm_s3_c, pm_s4_c, pm_ri_c, pm_ra_c, pm_rn_c, pm_rk_i, pm_rk_z, pm_rk_a, pm_vk_i, pm_vk_z, pm_vk_a, pm_cti, pm_ctr, pm_ldi_z, pm_ldi_s, pm_lda_z, pm_lda_s, pm_cat_n, pm_cat_i, pm_cat_r, pm_cat_l, pm_obj, pm_arr, pm_opt, pm_ird, pm_aln, List.getElem?_cons_zero, List.getElem?_cons_succ, List.set_cons_zero, List.set_cons_succ, List.length_cons, List.length_nil, List.length_set, true_and, and_true, Nat.add_zero, Nat.zero_add, Nat.le_refl, Nat.reduceAdd, Nat.reduceLT, Nat.reduceLeDiff, Nat.zero_le, not_false_eq_true, not_true_eq_false, false_implies, implies_true, true_implies, Nat.zero_lt_succ, Nat.lt_add_one, pm_tl_n, pm_tl_s, sc_uL, H1, l1]
    refine PM_use (c_M_againBy C1 I n1 n2 d) ?_
    rintro v g2 k2 ⟨rfl, K1, K2⟩
    show W_X12_again _ _ _ _ _ _ _ _ _
    simp only [w_X12_again_37, pm_1i_c, pm_2i_c, pm_1l_c, pm_2l_c, pm_1a_c, pm_ia_c, pm_iia_c, pm_va_c, pm_cp_c, pm_k0_c, pm_k1_c, pm_k2_c, pm_k3_c, pm_s1_c, pm_s2_c, pm_s3_c, pm_s4_c, pm_ri_c, pm_ra_c, pm_rn_c, pm_rk_i, pm_rk_z, pm_rk_a, pm_vk_i, pm_vk_z, pm_vk_a, pm_cti, pm_ctr, pm_ldi_z, pm_ldi_s, pm_lda_z, pm_lda_s, pm_cat_n, pm_cat_i, pm_cat_r, pm_cat_l, pm_obj, pm_arr, pm_opt, pm_ird, pm_aln, List.getElem?_cons_zero, List.getElem?_cons_succ, List.set_cons_zero, List.set_cons_succ, List.length_cons, List.length_nil, List.length_set, true_and, and_true, Nat.add_zero, Nat.zero_add, Nat.le_refl, Nat.reduceAdd, Nat.reduceLT, Nat.reduceLeDiff, Nat.zero_le, not_false_eq_true, not_true_eq_false, false_implies, implies_true, true_implies, Nat.zero_lt_succ, Nat.lt_add_one, pm_tl_n, pm_tl_s, sc_uL, l1, k2]
    exact rq_T (K1.q (F1.tr K2))
theorem bsS_2 (I : mI A) : ∀ i, i ≤ 9 → ∃ z, z ≤ 100 ∧ (bsS A i).2 = nI z
  | 0, _ => agn_le I (n := 1) (by omega) (by omega)
  | i + 1, hi => by
    rw [bsS_s]
    split
    · exact agn_le I (n := 10 * (i + 1)) (by omega) (by omega)
    · exact bsS_2 I i (by omega)
set_option maxHeartbeats 1000000 in
theorem c_P_best (C : mm_ h m o A K bs ws) (I : mI A) {b : Int32} (hb : b = 0 ∨ b = 1) (d : Nat) : PM (d + 11) 232 [.ref m, .int b] h (rq_ h m A K bs ws (o 0) (o 7) true (if b = 0 then (bsS A 9).1 else (bsS A 9).2)) := by
  have H0 := C.ob
  unfold mO at H0
  obtain ⟨h1, e1, l1, F1, C1, H1⟩ := C.th 0
  refine en_X12_best rfl rfl ?_
  have loop : ∀ z i, 9 - i = z → i ≤ 9 → ∀ (g : pmH) (x5 : Option Value), mm_ g m (upd o 1 0) A K bs ws → frM h g m → g.length = h.length → W_X12_best (d + 10) (h.length + 0) 0 (rq_ h m A K bs ws (o 0) (o 7) true (if b = 0 then (bsS A 9).1 else (bsS A 9).2)) 12 [some (.ref m), some (.int b), some (.int (bsS A i).1), some (.int (bsS A i).2), some (.int (nI (10 * (i + 1)))), x5] [] g 0 := by
    intro z
    induction z with
    | zero =>
      intro i hz hi g x5 M F l
      have : i = 9 := by omega
      subst this
      have e4 : ¬ nI (10 * (9 + 1)) < 100 := by decide
      rw [w_X12_best_12]
      rcases hb with rfl | rfl
      · simp only [w_X12_best_14, w_X12_best_16, w_X12_best_56, w_X12_best_57, w_X12_best_60, w_X12_best_61, w_X12_best_64, w_X12_best_65, pm_1i_c, pm_2i_c, pm_1l_c, pm_2l_c, pm_1a_c, pm_ia_c, pm_iia_c, pm_va_c, pm_cp_c, pm_k0_c, pm_k1_c, pm_k2_c, pm_k3_c, pm_s1_c, pm_s2_c, pm_s3_c, pm_s4_c, pm_ri_c, pm_ra_c, pm_rn_c, pm_rk_i, pm_rk_z, pm_rk_a, pm_vk_i, pm_vk_z, pm_vk_a, pm_cti, pm_ctr, pm_ldi_z, pm_ldi_s, pm_lda_z, pm_lda_s, pm_cat_n, pm_cat_i, pm_cat_r, pm_cat_l, pm_obj, pm_arr, pm_opt, pm_ird, pm_aln, List.getElem?_cons_zero, List.getElem?_cons_succ, List.set_cons_zero, List.set_cons_succ, List.length_cons, List.length_nil, List.length_set, true_and, and_true, Nat.add_zero, Nat.zero_add, Nat.le_refl, Nat.reduceAdd, Nat.reduceLT, Nat.reduceLeDiff, Nat.zero_le, not_false_eq_true, not_true_eq_false, false_implies, implies_true, true_implies, Nat.zero_lt_succ, Nat.lt_add_one, e4, l, if_true]
        exact rq_T (M.q F)
      · simp only [w_X12_best_14, w_X12_best_16, w_X12_best_56, w_X12_best_57, w_X12_best_60, w_X12_best_61, w_X12_best_64, w_X12_best_65, pm_1i_c, pm_2i_c, pm_1l_c, pm_2l_c, pm_1a_c, pm_ia_c, pm_iia_c, pm_va_c, pm_cp_c, pm_k0_c, pm_k1_c, pm_k2_c, pm_k3_c, pm_s1_c, pm_s2_c, pm_s3_c, pm_s4_c, pm_ri_c, pm_ra_c, pm_rn_c, pm_rk_i, pm_rk_z, pm_rk_a, pm_vk_i, pm_vk_z, pm_vk_a, pm_cti, pm_ctr, pm_ldi_z, pm_ldi_s, pm_lda_z, pm_lda_s, pm_cat_n, pm_cat_i, pm_cat_r, pm_cat_l, pm_obj, pm_arr, pm_opt, pm_ird, pm_aln, List.getElem?_cons_zero, List.getElem?_cons_succ, List.set_cons_zero, List.set_cons_succ, List.length_cons, List.length_nil, List.length_set, true_and, and_true, Nat.add_zero, Nat.zero_add, Nat.le_refl, Nat.reduceAdd, Nat.reduceLT, Nat.reduceLeDiff, Nat.zero_le, not_false_eq_true, not_true_eq_false, false_implies, implies_true, true_implies, Nat.zero_lt_succ, Nat.lt_add_one, e4, l, one0, if_false]
        exact rq_T (M.q F)
    | succ z ih =>
      intro i hz hi g x5 M F l
      have e4 : nI (10 * (i + 1)) < 100 := nI_lt (b := 100) (by omega) (by omega)
      have e5 : (1 : Int32) < nI (10 * (i + 1)) := nI_lt (a := 1) (by omega) (by omega)
      have M0 : g[m]? = some (.inr (12, [.ref (m + 1), .ref (m + 2), .ref (m + 3), .int (o 0), .int 0, .ref (m + 4), .int (o 2), .ref (m + 5), .int (o 3), .int (o 4), .int (o 5), .int (o 6), .int (o 7), .int (o 8), .int (o 9), .int (o 10), .ref (m + 6), .ref (m + 7), .ref (m + 8), .int (o 11), .ref (m + 9), .ref (m + 10), .int (o 12)])) := M.1
      have n10 : nI (10 * (i + 1)) + 10 = nI (10 * (i + 1 + 1)) := by
        rw [show (10 : Int32) = nI 10 from rfl, nI_add]
        congr 1
      have bs1 := bsS_s A i
      rw [w_X12_best_12]
      simp only [w_X12_best_14, w_X12_best_16, w_X12_best_19, w_X12_best_20, w_X12_best_21, w_X12_best_23, w_X12_best_26, pm_1i_c, pm_2i_c, pm_1l_c, pm_2l_c, pm_1a_c, pm_ia_c, pm_iia_c, pm_va_c, pm_cp_c, pm_k0_c, pm_k1_c, pm_k2_c, pm_k3_c, pm_s1_c, pm_s2_c, pm_s3_c, pm_s4_c, pm_ri_c, pm_ra_c, pm_rn_c, pm_rk_i, pm_rk_z, pm_rk_a, pm_vk_i, pm_vk_z, pm_vk_a, pm_cti, pm_ctr, pm_ldi_z, pm_ldi_s, pm_lda_z, pm_lda_s, pm_cat_n, pm_cat_i, pm_cat_r, pm_cat_l, pm_obj, pm_arr, pm_opt, pm_ird, pm_aln, List.getElem?_cons_zero, List.getElem?_cons_succ, List.set_cons_zero, List.set_cons_succ, List.length_cons, List.length_nil, List.length_set, true_and, and_true, Nat.add_zero, Nat.zero_add, Nat.le_refl, Nat.reduceAdd, Nat.reduceLT, Nat.reduceLeDiff, Nat.zero_le, not_false_eq_true, not_true_eq_false, false_implies, implies_true, true_implies, Nat.zero_lt_succ, Nat.lt_add_one, e4, e5, if_true, M0, l]
      refine PM_use (c_M_againBy M I (n := 10 * (i + 1)) (by omega) (by omega) d) ?_
      rintro v g2 k2 ⟨rfl, K1, K2⟩
      by_cases c : (bsS A i).2 < agn A (nI (10 * (i + 1)))
      · rw [if_pos c] at bs1
        have N := ih (i + 1) (by omega) (by omega) g2 (some (.int (agn A (nI (10 * (i + 1)))))) K1 (F.tr K2) (by omega)
        rw [bs1] at N
        show W_X12_best _ _ _ _ _ _ _ _ _
        simp only [w_X12_best_29, w_X12_best_31, w_X12_best_33, w_X12_best_34, w_X12_best_37, w_X12_best_40, w_X12_best_42, w_X12_best_43, w_X12_best_44, w_X12_best_46, w_X12_best_49, w_X12_best_50, w_X12_best_53, pm_1i_c, pm_2i_c, pm_1l_c, pm_2l_c, pm_1a_c, pm_ia_c, pm_iia_c, pm_va_c, pm_cp_c, pm_k0_c, pm_k1_c, pm_k2_c, pm_k3_c, pm_s1_c, pm_s2_c, pm_s3_c, pm_s4_c, pm_ri_c, pm_ra_c, pm_rn_c, pm_rk_i, pm_rk_z, pm_rk_a, pm_vk_i, pm_vk_z, pm_vk_a, pm_cti, pm_ctr, pm_ldi_z, pm_ldi_s, pm_lda_z, pm_lda_s, pm_cat_n, pm_cat_i, pm_cat_r, pm_cat_l, pm_obj, pm_arr, pm_opt, pm_ird, pm_aln, List.getElem?_cons_zero, List.getElem?_cons_succ, List.set_cons_zero, List.set_cons_succ, List.length_cons, List.length_nil, List.length_set, true_and, and_true, Nat.add_zero, Nat.zero_add, Nat.le_refl, Nat.reduceAdd, Nat.reduceLT, Nat.reduceLeDiff, Nat.zero_le, not_false_eq_true, not_true_eq_false, false_implies, implies_true, true_implies, Nat.zero_lt_succ, Nat.lt_add_one, pm_tl_n, pm_tl_s, sc_uL, c, e5, if_true, n10]
        exact N
      · rw [if_neg c] at bs1
        have N := ih (i + 1) (by omega) (by omega) g2 (some (.int (agn A (nI (10 * (i + 1)))))) K1 (F.tr K2) (by omega)
        rw [bs1] at N
        show W_X12_best _ _ _ _ _ _ _ _ _
        simp only [w_X12_best_29, w_X12_best_31, w_X12_best_33, w_X12_best_34, w_X12_best_37, w_X12_best_40, w_X12_best_42, w_X12_best_43, w_X12_best_44, w_X12_best_46, w_X12_best_49, w_X12_best_50, w_X12_best_53, pm_1i_c, pm_2i_c, pm_1l_c, pm_2l_c, pm_1a_c, pm_ia_c, pm_iia_c, pm_va_c, pm_cp_c, pm_k0_c, pm_k1_c, pm_k2_c, pm_k3_c, pm_s1_c, pm_s2_c, pm_s3_c, pm_s4_c, pm_ri_c, pm_ra_c, pm_rn_c, pm_rk_i, pm_rk_z, pm_rk_a, pm_vk_i, pm_vk_z, pm_vk_a, pm_cti, pm_ctr, pm_ldi_z, pm_ldi_s, pm_lda_z, pm_lda_s, pm_cat_n, pm_cat_i, pm_cat_r, pm_cat_l, pm_obj, pm_arr, pm_opt, pm_ird, pm_aln, List.getElem?_cons_zero, List.getElem?_cons_succ, List.set_cons_zero, List.set_cons_succ, List.length_cons, List.length_nil, List.length_set, true_and, and_true, Nat.add_zero, Nat.zero_add, Nat.le_refl, Nat.reduceAdd, Nat.reduceLT, Nat.reduceLeDiff, Nat.zero_le, not_false_eq_true, not_true_eq_false, false_implies, implies_true, true_implies, Nat.zero_lt_succ, Nat.lt_add_one, pm_tl_n, pm_tl_s, sc_uL, c, n10]
        exact N
  obtain ⟨z, z1, z2⟩ := agn_le I (n := 1) (by omega) (by omega)
  have e6 : (-1 : Int32) < agn A 1 := by
    rw [show agn A 1 = nI z from z2]
    refine Int32.lt_iff_toInt_lt.mpr ?_
    rw [nI_toInt (by omega), show (-1 : Int32).toInt = -1 from rfl]
    omega
  simp only [w_X12_best_0, w_X12_best_1, w_X12_best_2, w_X12_best_5, w_X12_best_6, w_X12_best_7, w_X12_best_8, w_X12_best_9, w_X12_best_10, pm_1i_c, pm_2i_c, pm_1l_c, pm_2l_c, pm_1a_c, pm_ia_c, pm_iia_c, pm_va_c, pm_cp_c, pm_k0_c, pm_k1_c, pm_k2_c, pm_k3_c, pm_s1_c, pm_s2_c, pm_s3_c, pm_s4_c, pm_ri_c, pm_ra_c, pm_rn_c, pm_rk_i, pm_rk_z, pm_rk_a, pm_vk_i, pm_vk_z, pm_vk_a, pm_cti, pm_ctr, pm_ldi_z, pm_ldi_s, pm_lda_z, pm_lda_s, pm_cat_n, pm_cat_i, pm_cat_r, pm_cat_l, pm_obj, pm_arr, pm_opt, pm_ird, pm_aln, List.getElem?_cons_zero, List.getElem?_cons_succ, List.set_cons_zero, List.set_cons_succ, List.length_cons, List.length_nil, List.length_set, true_and, and_true, Nat.add_zero, Nat.zero_add, Nat.le_refl, Nat.reduceAdd, Nat.reduceLT, Nat.reduceLeDiff, Nat.zero_le, not_false_eq_true, not_true_eq_false, false_implies, implies_true, true_implies, Nat.zero_lt_succ, Nat.lt_add_one, H0, e1, l1]
  rw [w_X12_best_12]
  simp only [w_X12_best_14, w_X12_best_16, w_X12_best_19, w_X12_best_20, w_X12_best_21, w_X12_best_23, w_X12_best_26, pm_1i_c, pm_2i_c, pm_1l_c, pm_2l_c, pm_1a_c, pm_ia_c, pm_iia_c, pm_va_c, pm_cp_c, pm_k0_c, pm_k1_c, pm_k2_c, pm_k3_c, pm_s1_c, pm_s2_c, pm_s3_c, pm_s4_c, pm_ri_c, pm_ra_c, pm_rn_c, pm_rk_i, pm_rk_z, pm_rk_a, pm_vk_i, pm_vk_z, pm_vk_a, pm_cti, pm_ctr, pm_ldi_z, pm_ldi_s, pm_lda_z, pm_lda_s, pm_cat_n, pm_cat_i, pm_cat_r, pm_cat_l, pm_obj, pm_arr, pm_opt, pm_ird, pm_aln, List.getElem?_cons_zero, List.getElem?_cons_succ, List.set_cons_zero, List.set_cons_succ, List.length_cons, List.length_nil, List.length_set, true_and, and_true, Nat.add_zero, Nat.zero_add, Nat.le_refl, Nat.reduceAdd, Nat.reduceLT, Nat.reduceLeDiff, Nat.zero_le, not_false_eq_true, not_true_eq_false, false_implies, implies_true, true_implies, Nat.zero_lt_succ, Nat.lt_add_one, show (0 : Int32) < 100 by decide, show ¬ (1 : Int32) < 0 by decide, if_false, H1, l1]
  refine PM_use (c_M_againBy C1 I (n := 1) (by omega) (by omega) d) ?_
  rintro v g2 k2 ⟨rfl, K1, K2⟩
  have e7 : (-1 : Int32) < agn A (nI 1) := e6
  have N := loop 9 0 rfl (by omega) g2 (some (.int (agn A (nI 1)))) K1 (F1.tr K2) (by omega)
  show W_X12_best _ _ _ _ _ _ _ _ _
  simp only [w_X12_best_29, w_X12_best_31, w_X12_best_33, w_X12_best_34, w_X12_best_37, w_X12_best_40, w_X12_best_42, w_X12_best_43, w_X12_best_44, w_X12_best_46, w_X12_best_49, w_X12_best_50, w_X12_best_53, pm_1i_c, pm_2i_c, pm_1l_c, pm_2l_c, pm_1a_c, pm_ia_c, pm_iia_c, pm_va_c, pm_cp_c, pm_k0_c, pm_k1_c, pm_k2_c, pm_k3_c, pm_s1_c, pm_s2_c, pm_s3_c, pm_s4_c, pm_ri_c, pm_ra_c, pm_rn_c, pm_rk_i, pm_rk_z, pm_rk_a, pm_vk_i, pm_vk_z, pm_vk_a, pm_cti, pm_ctr, pm_ldi_z, pm_ldi_s, pm_lda_z, pm_lda_s, pm_cat_n, pm_cat_i, pm_cat_r, pm_cat_l, pm_obj, pm_arr, pm_opt, pm_ird, pm_aln, List.getElem?_cons_zero, List.getElem?_cons_succ, List.set_cons_zero, List.set_cons_succ, List.length_cons, List.length_nil, List.length_set, true_and, and_true, Nat.add_zero, Nat.zero_add, Nat.le_refl, Nat.reduceAdd, Nat.reduceLT, Nat.reduceLeDiff, Nat.zero_le, not_false_eq_true, not_true_eq_false, false_implies, implies_true, true_implies, Nat.zero_lt_succ, Nat.lt_add_one, pm_tl_n, pm_tl_s, sc_uL, e7, show ¬ (1 : Int32) < 0 by decide, if_false, show (0 : Int32) + 10 = nI (10 * (0 + 1)) from rfl]
  exact N
end MT
