/-! AdmissionDeskModel: settings; what keeps the invariant. -/
section MR
variable {h h' : pmH} {m : Nat} {o : Nat → Int32} {A A' K K' B : AD} {bs ws bs' ws' : List Int32} {ik ft : Int32}
/-- the invariant at other numbers of the sketch, the period, the law -/
theorem mI.al (I : mI A) (hl : li B = li A) (e8 : sc B 8 = sc A 8) (e9 : sc B 9 = sc A 9) (e10 : sc B 10 = sc A 10) (V : skV B) (C : cV B) (D : ∃ n s, n < s ∧ 10 ≤ s ∧ s ≤ 20000 ∧ sc B 0 = nI n ∧ sc B 11 = nI s) (P : ∃ n, n ≤ 1000 ∧ sc B 12 = nI n) : mI B := by
  obtain ⟨V1, w1, m1, s1⟩ := I.sh.cg e8 e9 e10
  have tcE : ∀ x, tc B x = tc A x := fun x => by
    unfold tc
    rw [hl]
  refine ⟨V, C, V1, ?_, fun x => by rw [tcE]; exact I.nd x, ⟨fun x hx => I.ky (by rw [← tcE]; exact hx), fun x hx => I.kh (by rw [hl] at hx; exact hx)⟩, D, P, by rw [hl]; exact I.l4, by rw [hl]; exact I.l5⟩
  unfold ptV
  rw [hl, w1, m1, s1]
  exact I.pt
theorem halF_c (C : cV A) : cV (halF A) := fun k hk => by
  obtain ⟨w, w1, w2⟩ := C k hk
  refine ⟨w / 2, by omega, ?_⟩
  show cn A k / 2 = nI (w / 2)
  rw [w2, show (2 : Int32) = nI 2 from rfl, pk_div (by omega) (by omega) (by omega)]
theorem halF_0 {n : Nat} (hn : n < 2 ^ 31) (e : sc A 0 = nI n) : sc (halF A) 0 = nI (n / 2) := by
  unfold halF
  rw [sc_ne (by omega), sc_uS, if_pos rfl, e, show (2 : Int32) = nI 2 from rfl, pk_div hn (by omega) (by omega)]
theorem halF_n {i : Nat} (h0 : i ≠ 0) (h1 : i ≠ 1) : sc (halF A) i = sc A i := by
  unfold halF
  rw [sc_ne h1, sc_ne h0]
  rfl
theorem halF_I (I : mI A) : mI (halF A) := by
  obtain ⟨n, s, n1, n2, n3, n4, n5⟩ := I.ad
  obtain ⟨p, p1, p2⟩ := I.pe
  exact I.al rfl (halF_n (by omega) (by omega)) (halF_n (by omega) (by omega)) (halF_n (by omega) (by omega)) (skV_halF I.sk) (halF_c I.c) ⟨n / 2, s, by omega, n2, n3, halF_0 (by omega) n4, (halF_n (by omega) (by omega)).trans n5⟩ ⟨p, p1, (halF_n (by omega) (by omega)).trans p2⟩
theorem doF_I (I : mI A) {b : Int32} (hb : b = 0 ∨ b = 1) : mI (doF A b) := by
  obtain ⟨n, s, n1, n2, n3, n4, n5⟩ := I.ad
  obtain ⟨p, p1, p2⟩ := I.pe
  have e : ∀ i, i ≠ 14 → sc (doF A b) i = sc A i := fun i hi => by
    unfold doF
    rw [sc_uN, sc_ne hi]
  refine I.al rfl (e 8 (by omega)) (e 9 (by omega)) (e 10 (by omega)) ⟨?_, ?_, fun k hk => Or.inl rfl⟩ (fun k hk => I.c k hk) ⟨n, s, n1, n2, n3, (e 0 (by omega)).trans n4, (e 11 (by omega)).trans n5⟩ ⟨p, p1, (e 12 (by omega)).trans p2⟩
  · obtain ⟨w, w1, w2, w3⟩ := I.sk.1
    exact ⟨w, w1, w2, (e 13 (by omega)).trans w3⟩
  · unfold doF
    rw [sc_uN, sc_uS, if_pos rfl]
    exact hb
theorem fre_I (I : mI A) (p : Int32) : mI (uS A 23 p) := by
  obtain ⟨n, s, n1, n2, n3, n4, n5⟩ := I.ad
  obtain ⟨q, p1, p2⟩ := I.pe
  have e : ∀ i, i ≠ 23 → sc (uS A 23 p) i = sc A i := fun i hi => sc_ne hi
  exact I.al rfl (e 8 (by omega)) (e 9 (by omega)) (e 10 (by omega)) (I.sk.cg (e 13 (by omega)) (e 14 (by omega)) rfl) (fun k hk => I.c k hk) ⟨n, s, n1, n2, n3, (e 0 (by omega)).trans n4, (e 11 (by omega)).trans n5⟩ ⟨q, p1, (e 12 (by omega)).trans p2⟩
/-- halved till fewer than the sample -/
theorem halN_ok : ∀ (j : Nat) (B : AD) (a s : Nat), sc B 0 = nI a → a < 10 * 2 ^ j → a < 2 ^ 31 → sc B 11 = nI s → 10 ≤ s → s ≤ 20000 → ∃ a', a' < s ∧ sc (halN j B) 0 = nI a' ∧ sc (halN j B) 11 = nI s ∧ (cV B → cV (halN j B)) ∧ skEq B (halN j B)
  | 0, B, a, s, h1, h2, h3, h4, h5, h6 => ⟨a, by omega, h1, h4, id, skEq.rf⟩
  | j + 1, B, a, s, h1, h2, h3, h4, h5, h6 => by
    have e : halN (j + 1) B = if sc B 0 < sc B 11 then B else halN j (halF B) := rfl
    rw [e, h1, h4]
    by_cases c : nI a < nI s
    · rw [if_pos c]
      exact ⟨a, (nI_ltI h3 (by omega)).mp c, h1, h4, id, skEq.rf⟩
    · rw [if_neg c]
      have c' : ¬ a < s := fun z => c (nI_lt z (by omega))
      have pw : 2 ^ (j + 1) = 2 * 2 ^ j := by rw [Nat.pow_succ, Nat.mul_comm]
      obtain ⟨a', q1, q2, q3, q4, q5⟩ := halN_ok j (halF B) (a / 2) s (halF_0 h3 h1) (by omega) (by omega) ((halF_n (by omega) (by omega)).trans h4) h5 h6
      exact ⟨a', q1, q2, q3, fun C => q4 (halF_c C), (skEq_halF B).tr q5⟩
theorem setJ (I : mI A) {j : Nat} (hj : j < 3) {n : Int32} (hs : stB (nI j) n = true) : mJ (uS A (8 + j) n) := by
  obtain ⟨q, s, n1, n2, n3, n4, n5⟩ := I.ad
  obtain ⟨p, p1, p2⟩ := I.pe
  have e : ∀ i, i ≠ 8 + j → sc (uS A (8 + j) n) i = sc A i := fun i hi => sc_ne hi
  obtain ⟨⟨a0, a1, a2⟩, ⟨b0, b1, b2⟩, c0, c1⟩ := I.sh
  have V1 : shV (uS A (8 + j) n) := by
    have : j = 0 ∨ j = 1 ∨ j = 2 := by omega
    rcases this with rfl | rfl | rfl
    · obtain ⟨r, r1, r2, r3⟩ := inB_nI (a := 1) (b := 64) (by omega) (by omega) (v := n) hs
      exact shV.mk (A := uS A 8 n) (by rw [sc_uS, if_pos rfl]; exact r3) r1 r2 ((e 9 (by omega)).trans b0) b1 b2 ((e 10 (by omega)).trans c0) c1
    · obtain ⟨r, r1, r2, r3⟩ := inB_nI (a := 1) (b := 99) (by omega) (by omega) (v := n) hs
      exact shV.mk (A := uS A 9 n) ((e 8 (by omega)).trans a0) a1 a2 (by rw [sc_uS, if_pos rfl]; exact r3) r1 r2 ((e 10 (by omega)).trans c0) c1
    · obtain ⟨r, r1, r2, r3⟩ := inB_nI (a := 0) (b := 99) (by omega) (by omega) (v := n) hs
      exact shV.mk (A := uS A 10 n) ((e 8 (by omega)).trans a0) a1 a2 ((e 9 (by omega)).trans b0) b1 b2 (by rw [sc_uS, if_pos rfl]; exact r3) r2
  exact ⟨I.sk.cg (e 13 (by omega)) (e 14 (by omega)) rfl, fun k hk => I.c k hk, V1, I.tt, fun x => I.nd x, ⟨fun x hx => I.ky hx, fun x hx => I.kh hx⟩, ⟨q, s, n1, n2, n3, (e 0 (by omega)).trans n4, (e 11 (by omega)).trans n5⟩, ⟨p, p1, (e 12 (by omega)).trans p2⟩, I.l4, I.l5⟩
theorem setF_0 {n : Int32} : setF A (nI 0) n = fitF (uS A 8 n) := by
  unfold setF
  rw [if_pos (by decide)]
theorem setF_1 {n : Int32} : setF A (nI 1) n = fitF (uS A 9 n) := by
  unfold setF
  rw [if_neg (by decide), if_pos (by decide)]
theorem setF_2 {n : Int32} : setF A (nI 2) n = fitF (uS A 10 n) := by
  unfold setF
  rw [if_neg (by decide), if_neg (by decide), if_pos (by decide)]
theorem setF_3 {n : Int32} : setF A (nI 3) n = halN 32 (uS A 11 n) := by
  unfold setF
  rw [if_neg (by decide), if_neg (by decide), if_neg (by decide), if_pos (by decide)]
theorem setF_4 {n : Int32} : setF A (nI 4) n = begF A n := by
  unfold setF
  rw [if_neg (by decide), if_neg (by decide), if_neg (by decide), if_neg (by decide), if_pos (by decide)]
theorem setF_5 {n : Int32} : setF A (nI 5) n = widF A n := by
  unfold setF
  rw [if_neg (by decide), if_neg (by decide), if_neg (by decide), if_neg (by decide), if_neg (by decide)]
theorem setF_I (I : mI A) {w n : Int32} (hw : whB w = true) (hs : stB w n = true) : mI (setF A w n) := by
  obtain ⟨q, s, n1, n2, n3, n4, n5⟩ := I.ad
  obtain ⟨p, p1, p2⟩ := I.pe
  obtain ⟨j, hj, rfl⟩ := whB_of hw
  have : j = 0 ∨ j = 1 ∨ j = 2 ∨ j = 3 ∨ j = 4 ∨ j = 5 := by omega
  rcases this with rfl | rfl | rfl | rfl | rfl | rfl
  · rw [setF_0]
    exact (setJ I (j := 0) (by omega) hs).fit
  · rw [setF_1]
    exact (setJ I (j := 1) (by omega) hs).fit
  · rw [setF_2]
    exact (setJ I (j := 2) (by omega) hs).fit
  · obtain ⟨r, r1, r2, r3⟩ := inB_nI (a := 10) (b := 20000) (by omega) (by omega) (v := n) hs
    have e : ∀ i, i ≠ 11 → sc (uS A 11 n) i = sc A i := fun i hi => sc_ne hi
    have V1 : skV (uS A 11 n) := I.sk.cg (e 13 (by omega)) (e 14 (by omega)) rfl
    obtain ⟨a', q1, q2, q3, q4, q5⟩ := halN_ok 32 (uS A 11 n) q r ((e 0 (by omega)).trans n4) (by omega) (by omega) (by rw [sc_uS, if_pos rfl]; exact r3) r1 r2
    rw [setF_3]
    have s2 : ∀ i, i ≠ 0 → i ≠ 1 → i ≠ 11 → i ≠ 13 → i ≠ 14 → sc (halN 32 (uS A 11 n)) i = sc A i := fun i a b c d f => (q5.2.2 i a b c d f).trans (e i c)
    exact I.al q5.1 (s2 8 (by omega) (by omega) (by omega) (by omega) (by omega)) (s2 9 (by omega) (by omega) (by omega) (by omega) (by omega)) (s2 10 (by omega) (by omega) (by omega) (by omega) (by omega)) (skV_halN 32 V1) (q4 (fun k hk => I.c k hk)) ⟨a', r, q1, r1, r2, q2, q3⟩ ⟨p, p1, (s2 12 (by omega) (by omega) (by omega) (by omega) (by omega)).trans p2⟩
  · have e : ∀ i, (i < 12 ∨ 12 < i ∧ i < 15 ∨ 18 < i) → sc (begF A n) i = sc A i := fun i hi => by
      unfold begF
      rw [sc_ne (by omega), sc_ne (by omega), sc_ne (by omega), sc_ne (by omega), sc_ne (by omega)]
    have e12 : sc (begF A n) 12 = n := by
      unfold begF
      rw [sc_ne (by omega), sc_ne (by omega), sc_ne (by omega), sc_ne (by omega), sc_uS, if_pos rfl]
    rw [setF_4]
    have hn : ∃ z, z ≤ 1000 ∧ n = nI z := by
      have hs' : decide (n = 0 ∨ ¬ n < 10 ∧ ¬ 1000 < n) = true := hs
      rcases of_decide_eq_true hs' with z | z
      · exact ⟨0, by omega, z⟩
      · obtain ⟨r, r1, r2, r3⟩ := inB_nI (a := 10) (b := 1000) (by omega) (by omega) (v := n) (decide_eq_true z)
        exact ⟨r, r2, r3⟩
    obtain ⟨z, z1, z2⟩ := hn
    exact I.al rfl (e 8 (by omega)) (e 9 (by omega)) (e 10 (by omega)) (I.sk.cg (e 13 (by omega)) (e 14 (by omega)) rfl) (fun k hk => I.c k hk) ⟨q, s, n1, n2, n3, (e 0 (by omega)).trans n4, (e 11 (by omega)).trans n5⟩ ⟨z, z1, e12.trans z2⟩
  · obtain ⟨r, r1, r2, r3⟩ := inB_nI (a := 1) (b := 16) (by omega) (by omega) (v := n) hs
    have e : ∀ i, i ≠ 13 → i ≠ 0 → sc (widF A n) i = sc A i := fun i h1 h2 => by
      unfold widF
      rw [sc_uN, sc_uC, sc_ne h2, sc_ne h1]
    have e13 : sc (widF A n) 13 = n := by
      unfold widF
      rw [sc_uN, sc_uC, sc_ne (by omega), sc_uS, if_pos rfl]
    have e0 : sc (widF A n) 0 = 0 := by
      unfold widF
      rw [sc_uN, sc_uC, sc_uS, if_pos rfl]
    rw [setF_5]
    exact I.al rfl (e 8 (by omega) (by omega)) (e 9 (by omega) (by omega)) (e 10 (by omega) (by omega)) ⟨⟨r, r1, r2, e13.trans r3⟩, by rw [e 14 (by omega) (by omega)]; exact I.sk.2.1, fun k hk => Or.inl rfl⟩ (fun k hk => ⟨0, by omega, rfl⟩) ⟨0, s, by omega, n2, n3, e0, (e 11 (by omega) (by omega)).trans n5⟩ ⟨p, p1, (e 12 (by omega) (by omega)).trans p2⟩
set_option maxHeartbeats 1000000 in
theorem c_P_tell (C : mm_ h m o A K bs ws) (I : mI A) (w n : Int32) (d : Nat) : PM (d + 6) 226 [.ref m, .int w, .int n] h (fun v h' => if whB w = true then (if stB w n = true then rq_ h m (setF A w n) K bs ws (o 0) (o 7) true (setG A w) v h' else v = some (.int 0) ∧ mq_ h m A K bs ws (o 0) 2 (o 7) h') else v = some (.int 0) ∧ mq_ h m A K bs ws (o 0) 1 (o 7) h') := by
  have H0 := C.ob
  unfold mO at H0
  obtain ⟨h1, e1, l1, F1, C1, H1⟩ := C.th 0
  refine en_X12_tell rfl rfl rfl ?_
  simp only [w_X12_tell_0, w_X12_tell_1, w_X12_tell_2, w_X12_tell_5, w_X12_tell_6, w_X12_tell_7, w_X12_tell_8, w_X12_tell_9, pm_1i_c, pm_2i_c, pm_1l_c, pm_2l_c, pm_1a_c, pm_ia_c, pm_iia_c, pm_va_c, pm_cp_c, pm_k0_c, pm_k1_c, pm_k2_c, pm_k3_c, pm_s1_c, pm_s2_c, pm_s3_c, pm_s4_c, pm_ri_c, pm_ra_c, pm_rn_c, pm_rk_i, pm_rk_z, pm_rk_a, pm_vk_i, pm_vk_z, pm_vk_a, pm_cti, pm_ctr, pm_ldi_z, pm_ldi_s, pm_lda_z, pm_lda_s, pm_cat_n, pm_cat_i, pm_cat_r, pm_cat_l, pm_obj, pm_arr, pm_opt, pm_ird, pm_aln, List.getElem?_cons_zero, List.getElem?_cons_succ, List.set_cons_zero, List.set_cons_succ, List.length_cons, List.length_nil, List.length_set, true_and, and_true, Nat.add_zero, Nat.zero_add, Nat.le_refl, Nat.reduceAdd, Nat.reduceLT, Nat.reduceLeDiff, Nat.zero_le, not_false_eq_true, not_true_eq_false, false_implies, implies_true, true_implies, Nat.zero_lt_succ, Nat.lt_add_one, H0, e1, H1, l1]
  refine PM_use (c_M_in w 0 5 (d + 4)) ?_
  rintro v g1 k1 ⟨rfl, rfl⟩
  have ew : inB w 0 5 = whB w := rfl
  rw [ew]
  cases hw : whB w with
  | false =>
    simp only [Bool.false_eq_true, if_false]
    show W_X12_tell _ _ _ _ _ _ _ _ _
    simp only [w_X12_tell_12, w_X12_tell_15, w_X12_tell_16, w_X12_tell_19, w_X12_tell_20, w_X12_tell_21, pm_1i_c, pm_2i_c, pm_1l_c, pm_2l_c, pm_1a_c, pm_ia_c, pm_iia_c, pm_va_c, pm_cp_c, pm_k0_c, pm_k1_c, pm_k2_c, pm_k3_c, pm_s1_c, pm_s2_c, pm_s3_c, pm_s4_c, pm_ri_c, pm_ra_c, pm_rn_c, pm_rk_i, pm_rk_z, pm_rk_a, pm_vk_i, pm_vk_z, pm_vk_a, pm_cti, pm_ctr, pm_ldi_z, pm_ldi_s, pm_lda_z, pm_lda_s, pm_cat_n, pm_cat_i, pm_cat_r, pm_cat_l, pm_obj, pm_arr, pm_opt, pm_ird, pm_aln, List.getElem?_cons_zero, List.getElem?_cons_succ, List.set_cons_zero, List.set_cons_succ, List.length_cons, List.length_nil, List.length_set, true_and, and_true, Nat.add_zero, Nat.zero_add, Nat.le_refl, Nat.reduceAdd, Nat.reduceLT, Nat.reduceLeDiff, Nat.zero_le, not_false_eq_true, not_true_eq_false, false_implies, implies_true, true_implies, Nat.zero_lt_succ, Nat.lt_add_one, pm_tl_n, pm_tl_s, sc_uL, H1, l1]
    refine PM_use (c_P_throwsIf1 C1 1 (d + 4)) ?_
    rintro v g1 k1 ⟨rfl, K1, K2⟩
    show W_X12_tell _ _ _ _ _ _ _ _ _
    simp only [w_X12_tell_24, w_X12_tell_48, w_X12_tell_49, pm_1i_c, pm_2i_c, pm_1l_c, pm_2l_c, pm_1a_c, pm_ia_c, pm_iia_c, pm_va_c, pm_cp_c, pm_k0_c, pm_k1_c, pm_k2_c, pm_k3_c, pm_s1_c, pm_s2_c, pm_s3_c, pm_s4_c, pm_ri_c, pm_ra_c, pm_rn_c, pm_rk_i, pm_rk_z, pm_rk_a, pm_vk_i, pm_vk_z, pm_vk_a, pm_cti, pm_ctr, pm_ldi_z, pm_ldi_s, pm_lda_z, pm_lda_s, pm_cat_n, pm_cat_i, pm_cat_r, pm_cat_l, pm_obj, pm_arr, pm_opt, pm_ird, pm_aln, List.getElem?_cons_zero, List.getElem?_cons_succ, List.set_cons_zero, List.set_cons_succ, List.length_cons, List.length_nil, List.length_set, true_and, and_true, Nat.add_zero, Nat.zero_add, Nat.le_refl, Nat.reduceAdd, Nat.reduceLT, Nat.reduceLeDiff, Nat.zero_le, not_false_eq_true, not_true_eq_false, false_implies, implies_true, true_implies, Nat.zero_lt_succ, Nat.lt_add_one, pm_tl_n, pm_tl_s, sc_uL, one0, l1, k1]
    rw [upd_upd] at K1
    exact K1.q (F1.tr K2)
  | true =>
    simp only [if_true]
    show W_X12_tell _ _ _ _ _ _ _ _ _
    simp only [w_X12_tell_12, w_X12_tell_19, w_X12_tell_20, w_X12_tell_21, pm_1i_c, pm_2i_c, pm_1l_c, pm_2l_c, pm_1a_c, pm_ia_c, pm_iia_c, pm_va_c, pm_cp_c, pm_k0_c, pm_k1_c, pm_k2_c, pm_k3_c, pm_s1_c, pm_s2_c, pm_s3_c, pm_s4_c, pm_ri_c, pm_ra_c, pm_rn_c, pm_rk_i, pm_rk_z, pm_rk_a, pm_vk_i, pm_vk_z, pm_vk_a, pm_cti, pm_ctr, pm_ldi_z, pm_ldi_s, pm_lda_z, pm_lda_s, pm_cat_n, pm_cat_i, pm_cat_r, pm_cat_l, pm_obj, pm_arr, pm_opt, pm_ird, pm_aln, List.getElem?_cons_zero, List.getElem?_cons_succ, List.set_cons_zero, List.set_cons_succ, List.length_cons, List.length_nil, List.length_set, true_and, and_true, Nat.add_zero, Nat.zero_add, Nat.le_refl, Nat.reduceAdd, Nat.reduceLT, Nat.reduceLeDiff, Nat.zero_le, not_false_eq_true, not_true_eq_false, false_implies, implies_true, true_implies, Nat.zero_lt_succ, Nat.lt_add_one, pm_tl_n, pm_tl_s, sc_uL, one0, H1, l1]
    refine PM_use (c_P_throwsIf0 C1 1 (d + 4)) ?_
    rintro v g1 k1 ⟨rfl, rfl⟩
    show W_X12_tell _ _ _ _ _ _ _ _ _
    simp only [w_X12_tell_24, w_X12_tell_27, w_X12_tell_28, w_X12_tell_29, w_X12_tell_30, pm_1i_c, pm_2i_c, pm_1l_c, pm_2l_c, pm_1a_c, pm_ia_c, pm_iia_c, pm_va_c, pm_cp_c, pm_k0_c, pm_k1_c, pm_k2_c, pm_k3_c, pm_s1_c, pm_s2_c, pm_s3_c, pm_s4_c, pm_ri_c, pm_ra_c, pm_rn_c, pm_rk_i, pm_rk_z, pm_rk_a, pm_vk_i, pm_vk_z, pm_vk_a, pm_cti, pm_ctr, pm_ldi_z, pm_ldi_s, pm_lda_z, pm_lda_s, pm_cat_n, pm_cat_i, pm_cat_r, pm_cat_l, pm_obj, pm_arr, pm_opt, pm_ird, pm_aln, List.getElem?_cons_zero, List.getElem?_cons_succ, List.set_cons_zero, List.set_cons_succ, List.length_cons, List.length_nil, List.length_set, true_and, and_true, Nat.add_zero, Nat.zero_add, Nat.le_refl, Nat.reduceAdd, Nat.reduceLT, Nat.reduceLeDiff, Nat.zero_le, not_false_eq_true, not_true_eq_false, false_implies, implies_true, true_implies, Nat.zero_lt_succ, Nat.lt_add_one, pm_tl_n, pm_tl_s, sc_uL, H1, l1]
    refine PM_use (c_M_isRight hw n (d + 3)) ?_
    rintro v g1 k1 ⟨rfl, rfl⟩
    cases hs : stB w n with
    | false =>
      simp only [Bool.false_eq_true, if_false]
      show W_X12_tell _ _ _ _ _ _ _ _ _
      simp only [w_X12_tell_33, w_X12_tell_36, w_X12_tell_37, w_X12_tell_40, w_X12_tell_41, w_X12_tell_42, pm_1i_c, pm_2i_c, pm_1l_c, pm_2l_c, pm_1a_c, pm_ia_c, pm_iia_c, pm_va_c, pm_cp_c, pm_k0_c, pm_k1_c, pm_k2_c, pm_k3_c, pm_s1_c, pm_s2_c, pm_s3_c, pm_s4_c, pm_ri_c, pm_ra_c, pm_rn_c, pm_rk_i, pm_rk_z, pm_rk_a, pm_vk_i, pm_vk_z, pm_vk_a, pm_cti, pm_ctr, pm_ldi_z, pm_ldi_s, pm_lda_z, pm_lda_s, pm_cat_n, pm_cat_i, pm_cat_r, pm_cat_l, pm_obj, pm_arr, pm_opt, pm_ird, pm_aln, List.getElem?_cons_zero, List.getElem?_cons_succ, List.set_cons_zero, List.set_cons_succ, List.length_cons, List.length_nil, List.length_set, true_and, and_true, Nat.add_zero, Nat.zero_add, Nat.le_refl, Nat.reduceAdd, Nat.reduceLT, Nat.reduceLeDiff, Nat.zero_le, not_false_eq_true, not_true_eq_false, false_implies, implies_true, true_implies, Nat.zero_lt_succ, Nat.lt_add_one, pm_tl_n, pm_tl_s, sc_uL, H1, l1]
      refine PM_use (c_P_throwsIf1 C1 2 (d + 4)) ?_
      rintro v g1 k1 ⟨rfl, K1, K2⟩
      show W_X12_tell _ _ _ _ _ _ _ _ _
      simp only [w_X12_tell_45, w_X12_tell_48, w_X12_tell_49, pm_1i_c, pm_2i_c, pm_1l_c, pm_2l_c, pm_1a_c, pm_ia_c, pm_iia_c, pm_va_c, pm_cp_c, pm_k0_c, pm_k1_c, pm_k2_c, pm_k3_c, pm_s1_c, pm_s2_c, pm_s3_c, pm_s4_c, pm_ri_c, pm_ra_c, pm_rn_c, pm_rk_i, pm_rk_z, pm_rk_a, pm_vk_i, pm_vk_z, pm_vk_a, pm_cti, pm_ctr, pm_ldi_z, pm_ldi_s, pm_lda_z, pm_lda_s, pm_cat_n, pm_cat_i, pm_cat_r, pm_cat_l, pm_obj, pm_arr, pm_opt, pm_ird, pm_aln, List.getElem?_cons_zero, List.getElem?_cons_succ, List.set_cons_zero, List.set_cons_succ, List.length_cons, List.length_nil, List.length_set, true_and, and_true, Nat.add_zero, Nat.zero_add, Nat.le_refl, Nat.reduceAdd, Nat.reduceLT, Nat.reduceLeDiff, Nat.zero_le, not_false_eq_true, not_true_eq_false, false_implies, implies_true, true_implies, Nat.zero_lt_succ, Nat.lt_add_one, pm_tl_n, pm_tl_s, sc_uL, one0, l1, k1]
      rw [upd_upd] at K1
      exact K1.q (F1.tr K2)
    | true =>
      simp only [if_true]
      show W_X12_tell _ _ _ _ _ _ _ _ _
      simp only [w_X12_tell_33, w_X12_tell_40, w_X12_tell_41, w_X12_tell_42, pm_1i_c, pm_2i_c, pm_1l_c, pm_2l_c, pm_1a_c, pm_ia_c, pm_iia_c, pm_va_c, pm_cp_c, pm_k0_c, pm_k1_c, pm_k2_c, pm_k3_c, pm_s1_c, pm_s2_c, pm_s3_c, pm_s4_c, pm_ri_c, pm_ra_c, pm_rn_c, pm_rk_i, pm_rk_z, pm_rk_a, pm_vk_i, pm_vk_z, pm_vk_a, pm_cti, pm_ctr, pm_ldi_z, pm_ldi_s, pm_lda_z, pm_lda_s, pm_cat_n, pm_cat_i, pm_cat_r, pm_cat_l, pm_obj, pm_arr, pm_opt, pm_ird, pm_aln, List.getElem?_cons_zero, List.getElem?_cons_succ, List.set_cons_zero, List.set_cons_succ, List.length_cons, List.length_nil, List.length_set, true_and, and_true, Nat.add_zero, Nat.zero_add, Nat.le_refl, Nat.reduceAdd, Nat.reduceLT, Nat.reduceLeDiff, Nat.zero_le, not_false_eq_true, not_true_eq_false, false_implies, implies_true, true_implies, Nat.zero_lt_succ, Nat.lt_add_one, pm_tl_n, pm_tl_s, sc_uL, one0, H1, l1]
      refine PM_use (c_P_throwsIf0 C1 2 (d + 4)) ?_
      rintro v g1 k1 ⟨rfl, rfl⟩
      obtain ⟨f, Hf, Rf⟩ := C1.n
      obtain ⟨j, hj, rfl⟩ := whB_of hw
      have vi : vp_in (nI (1678 + j)) 2195 := vp_in_nI (by omega) (by omega)
      have ci : (nI (1678 + j)).toNatClampNeg = 1678 + j := nI_clamp (by omega)
      have ni : (1678 : Int32) + nI j = nI (1678 + j) := nI_add 1678 j
      have fs : f (1678 + j) = sc A (8 + j) := by
        have := Rf.s (i := 8 + j) (by omega)
        rw [show 1670 + (8 + j) = 1678 + j by omega] at this
        exact this
      have eg : setG A (nI j) = sc A (8 + j) := by
        have : j = 0 ∨ j = 1 ∨ j = 2 ∨ j = 3 ∨ j = 4 ∨ j = 5 := by omega
        rcases this with rfl | rfl | rfl | rfl | rfl | rfl <;> rfl
      obtain ⟨g2, e2, l2, F2, M0, f2, M1, MR⟩ := md_.st C1.ob Hf Rf (i := 8 + j) (by omega) (k := 1678 + j) (by omega) n
      have M2 : md_ g2 m (upd o 1 0) (uS A (8 + j) n) := ⟨M0, f2, M1, MR⟩
      have M0' : g2[m]? = some (.inr (12, [.ref (m + 1), .ref (m + 2), .ref (m + 3), .int (o 0), .int 0, .ref (m + 4), .int (o 2), .ref (m + 5), .int (o 3), .int (o 4), .int (o 5), .int (o 6), .int (o 7), .int (o 8), .int (o 9), .int (o 10), .ref (m + 6), .ref (m + 7), .ref (m + 8), .int (o 11), .ref (m + 9), .ref (m + 10), .int (o 12)])) := M0
      rw [eg]
      show W_X12_tell _ _ _ _ _ _ _ _ _
      simp only [w_X12_tell_45, w_X12_tell_50, w_X12_tell_51, w_X12_tell_54, w_X12_tell_57, w_X12_tell_58, w_X12_tell_59, w_X12_tell_60, w_X12_tell_61, w_X12_tell_62, w_X12_tell_65, w_X12_tell_68, w_X12_tell_69, w_X12_tell_70, w_X12_tell_71, pm_1i_c, pm_2i_c, pm_1l_c, pm_2l_c, pm_1a_c, pm_ia_c, pm_iia_c, pm_va_c, pm_cp_c, pm_k0_c, pm_k1_c, pm_k2_c, pm_k3_c, pm_s1_c, pm_s2_c, pm_s3_c, pm_s4_c, pm_ri_c, pm_ra_c, pm_rn_c, pm_rk_i, pm_rk_z, pm_rk_a, pm_vk_i, pm_vk_z, pm_vk_a, pm_cti, pm_ctr, pm_ldi_z, pm_ldi_s, pm_lda_z, pm_lda_s, pm_cat_n, pm_cat_i, pm_cat_r, pm_cat_l, pm_obj, pm_arr, pm_opt, pm_ird, pm_aln, List.getElem?_cons_zero, List.getElem?_cons_succ, List.set_cons_zero, List.set_cons_succ, List.length_cons, List.length_nil, List.length_set, true_and, and_true, Nat.add_zero, Nat.zero_add, Nat.le_refl, Nat.reduceAdd, Nat.reduceLT, Nat.reduceLeDiff, Nat.zero_le, not_false_eq_true, not_true_eq_false, false_implies, implies_true, true_implies, Nat.zero_lt_succ, Nat.lt_add_one, pm_tl_n, pm_tl_s, sc_uL, H1, l1, Hf, ni, vi, ci, fs, e2, one0]
      -- the end
      have fin : ∀ (g : pmH) (B : AD), md_ g m (upd o 1 0) B → g.length = g1.length → fr1 g1 g (m + 1) → B = setF A (nI j) n → rq_ h m (setF A (nI j) n) K bs ws (o 0) (o 7) true (sc A (8 + j)) (some (.int (sc A (8 + j)))) g := by
        intro g B MB _ FB eB
        subst eB
        obtain ⟨C2, G2⟩ := C1.ud MB FB
        exact rq_T (C2.q (F1.tr G2))
      have : j = 0 ∨ j = 1 ∨ j = 2 ∨ j = 3 ∨ j = 4 ∨ j = 5 := by omega
      rcases this with rfl | rfl | rfl | rfl | rfl | rfl
      · have J := setJ I (j := 0) (by omega) hs
        show W_X12_tell _ _ _ _ _ _ _ _ _
        simp only [w_X12_tell_72, w_X12_tell_73, w_X12_tell_74, w_X12_tell_77, w_X12_tell_78, pm_1i_c, pm_2i_c, pm_1l_c, pm_2l_c, pm_1a_c, pm_ia_c, pm_iia_c, pm_va_c, pm_cp_c, pm_k0_c, pm_k1_c, pm_k2_c, pm_k3_c, pm_s1_c, pm_s2_c, pm_s3_c, pm_s4_c, pm_ri_c, pm_ra_c, pm_rn_c, pm_rk_i, pm_rk_z, pm_rk_a, pm_vk_i, pm_vk_z, pm_vk_a, pm_cti, pm_ctr, pm_ldi_z, pm_ldi_s, pm_lda_z, pm_lda_s, pm_cat_n, pm_cat_i, pm_cat_r, pm_cat_l, pm_obj, pm_arr, pm_opt, pm_ird, pm_aln, List.getElem?_cons_zero, List.getElem?_cons_succ, List.set_cons_zero, List.set_cons_succ, List.length_cons, List.length_nil, List.length_set, true_and, and_true, Nat.add_zero, Nat.zero_add, Nat.le_refl, Nat.reduceAdd, Nat.reduceLT, Nat.reduceLeDiff, Nat.zero_le, not_false_eq_true, not_true_eq_false, false_implies, implies_true, true_implies, Nat.zero_lt_succ, Nat.lt_add_one, pm_tl_n, pm_tl_s, sc_uL, l1, l2, M0', show nI 0 = 0 from rfl, show (0 : Int32) < 3 by decide]
        refine PM_use (c_M_fits M2 J.1.1 J.2.2.1 J.2.2.2.1 d) ?_
        rintro v g3 l3 ⟨rfl, M3, F3⟩
        show W_X12_tell _ _ _ _ _ _ _ _ _
        rw [w_X12_tell_81]
        show W_X12_tell _ _ _ _ _ _ _ _ _
        simp only [w_X12_tell_82, w_X12_tell_83, w_X12_tell_105, w_X12_tell_106, w_X12_tell_107, w_X12_tell_110, w_X12_tell_111, w_X12_tell_114, w_X12_tell_115, w_X12_tell_116, w_X12_tell_119, w_X12_tell_120, w_X12_tell_123, w_X12_tell_124, pm_1i_c, pm_2i_c, pm_1l_c, pm_2l_c, pm_1a_c, pm_ia_c, pm_iia_c, pm_va_c, pm_cp_c, pm_k0_c, pm_k1_c, pm_k2_c, pm_k3_c, pm_s1_c, pm_s2_c, pm_s3_c, pm_s4_c, pm_ri_c, pm_ra_c, pm_rn_c, pm_rk_i, pm_rk_z, pm_rk_a, pm_vk_i, pm_vk_z, pm_vk_a, pm_cti, pm_ctr, pm_ldi_z, pm_ldi_s, pm_lda_z, pm_lda_s, pm_cat_n, pm_cat_i, pm_cat_r, pm_cat_l, pm_obj, pm_arr, pm_opt, pm_ird, pm_aln, List.getElem?_cons_zero, List.getElem?_cons_succ, List.set_cons_zero, List.set_cons_succ, List.length_cons, List.length_nil, List.length_set, true_and, and_true, Nat.add_zero, Nat.zero_add, Nat.le_refl, Nat.reduceAdd, Nat.reduceLT, Nat.reduceLeDiff, Nat.zero_le, not_false_eq_true, not_true_eq_false, false_implies, implies_true, true_implies, Nat.zero_lt_succ, Nat.lt_add_one, pm_tl_n, pm_tl_s, sc_uL, l1, l2, l3, show ¬ (0 : Int32) = 3 by decide, show ¬ (0 : Int32) = 4 by decide, show ¬ (0 : Int32) = 5 by decide]
        exact fin g3 _ M3 (by omega) (F2.tr F3) setF_0.symm
      · have J := setJ I (j := 1) (by omega) hs
        show W_X12_tell _ _ _ _ _ _ _ _ _
        simp only [w_X12_tell_72, w_X12_tell_73, w_X12_tell_74, w_X12_tell_77, w_X12_tell_78, pm_1i_c, pm_2i_c, pm_1l_c, pm_2l_c, pm_1a_c, pm_ia_c, pm_iia_c, pm_va_c, pm_cp_c, pm_k0_c, pm_k1_c, pm_k2_c, pm_k3_c, pm_s1_c, pm_s2_c, pm_s3_c, pm_s4_c, pm_ri_c, pm_ra_c, pm_rn_c, pm_rk_i, pm_rk_z, pm_rk_a, pm_vk_i, pm_vk_z, pm_vk_a, pm_cti, pm_ctr, pm_ldi_z, pm_ldi_s, pm_lda_z, pm_lda_s, pm_cat_n, pm_cat_i, pm_cat_r, pm_cat_l, pm_obj, pm_arr, pm_opt, pm_ird, pm_aln, List.getElem?_cons_zero, List.getElem?_cons_succ, List.set_cons_zero, List.set_cons_succ, List.length_cons, List.length_nil, List.length_set, true_and, and_true, Nat.add_zero, Nat.zero_add, Nat.le_refl, Nat.reduceAdd, Nat.reduceLT, Nat.reduceLeDiff, Nat.zero_le, not_false_eq_true, not_true_eq_false, false_implies, implies_true, true_implies, Nat.zero_lt_succ, Nat.lt_add_one, pm_tl_n, pm_tl_s, sc_uL, l1, l2, M0', show nI 1 = 1 from rfl, show (1 : Int32) < 3 by decide]
        refine PM_use (c_M_fits M2 J.1.1 J.2.2.1 J.2.2.2.1 d) ?_
        rintro v g3 l3 ⟨rfl, M3, F3⟩
        show W_X12_tell _ _ _ _ _ _ _ _ _
        rw [w_X12_tell_81]
        show W_X12_tell _ _ _ _ _ _ _ _ _
        simp only [w_X12_tell_82, w_X12_tell_83, w_X12_tell_105, w_X12_tell_106, w_X12_tell_107, w_X12_tell_110, w_X12_tell_111, w_X12_tell_114, w_X12_tell_115, w_X12_tell_116, w_X12_tell_119, w_X12_tell_120, w_X12_tell_123, w_X12_tell_124, pm_1i_c, pm_2i_c, pm_1l_c, pm_2l_c, pm_1a_c, pm_ia_c, pm_iia_c, pm_va_c, pm_cp_c, pm_k0_c, pm_k1_c, pm_k2_c, pm_k3_c, pm_s1_c, pm_s2_c, pm_s3_c, pm_s4_c, pm_ri_c, pm_ra_c, pm_rn_c, pm_rk_i, pm_rk_z, pm_rk_a, pm_vk_i, pm_vk_z, pm_vk_a, pm_cti, pm_ctr, pm_ldi_z, pm_ldi_s, pm_lda_z, pm_lda_s, pm_cat_n, pm_cat_i, pm_cat_r, pm_cat_l, pm_obj, pm_arr, pm_opt, pm_ird, pm_aln, List.getElem?_cons_zero, List.getElem?_cons_succ, List.set_cons_zero, List.set_cons_succ, List.length_cons, List.length_nil, List.length_set, true_and, and_true, Nat.add_zero, Nat.zero_add, Nat.le_refl, Nat.reduceAdd, Nat.reduceLT, Nat.reduceLeDiff, Nat.zero_le, not_false_eq_true, not_true_eq_false, false_implies, implies_true, true_implies, Nat.zero_lt_succ, Nat.lt_add_one, pm_tl_n, pm_tl_s, sc_uL, l1, l2, l3, show ¬ (1 : Int32) = 3 by decide, show ¬ (1 : Int32) = 4 by decide, show ¬ (1 : Int32) = 5 by decide]
        exact fin g3 _ M3 (by omega) (F2.tr F3) setF_1.symm
      · have J := setJ I (j := 2) (by omega) hs
        show W_X12_tell _ _ _ _ _ _ _ _ _
        simp only [w_X12_tell_72, w_X12_tell_73, w_X12_tell_74, w_X12_tell_77, w_X12_tell_78, pm_1i_c, pm_2i_c, pm_1l_c, pm_2l_c, pm_1a_c, pm_ia_c, pm_iia_c, pm_va_c, pm_cp_c, pm_k0_c, pm_k1_c, pm_k2_c, pm_k3_c, pm_s1_c, pm_s2_c, pm_s3_c, pm_s4_c, pm_ri_c, pm_ra_c, pm_rn_c, pm_rk_i, pm_rk_z, pm_rk_a, pm_vk_i, pm_vk_z, pm_vk_a, pm_cti, pm_ctr, pm_ldi_z, pm_ldi_s, pm_lda_z, pm_lda_s, pm_cat_n, pm_cat_i, pm_cat_r, pm_cat_l, pm_obj, pm_arr, pm_opt, pm_ird, pm_aln, List.getElem?_cons_zero, List.getElem?_cons_succ, List.set_cons_zero, List.set_cons_succ, List.length_cons, List.length_nil, List.length_set, true_and, and_true, Nat.add_zero, Nat.zero_add, Nat.le_refl, Nat.reduceAdd, Nat.reduceLT, Nat.reduceLeDiff, Nat.zero_le, not_false_eq_true, not_true_eq_false, false_implies, implies_true, true_implies, Nat.zero_lt_succ, Nat.lt_add_one, pm_tl_n, pm_tl_s, sc_uL, l1, l2, M0', show nI 2 = 2 from rfl, show (2 : Int32) < 3 by decide]
        refine PM_use (c_M_fits M2 J.1.1 J.2.2.1 J.2.2.2.1 d) ?_
        rintro v g3 l3 ⟨rfl, M3, F3⟩
        show W_X12_tell _ _ _ _ _ _ _ _ _
        rw [w_X12_tell_81]
        show W_X12_tell _ _ _ _ _ _ _ _ _
        simp only [w_X12_tell_82, w_X12_tell_83, w_X12_tell_105, w_X12_tell_106, w_X12_tell_107, w_X12_tell_110, w_X12_tell_111, w_X12_tell_114, w_X12_tell_115, w_X12_tell_116, w_X12_tell_119, w_X12_tell_120, w_X12_tell_123, w_X12_tell_124, pm_1i_c, pm_2i_c, pm_1l_c, pm_2l_c, pm_1a_c, pm_ia_c, pm_iia_c, pm_va_c, pm_cp_c, pm_k0_c, pm_k1_c, pm_k2_c, pm_k3_c, pm_s1_c, pm_s2_c, pm_s3_c, pm_s4_c, pm_ri_c, pm_ra_c, pm_rn_c, pm_rk_i, pm_rk_z, pm_rk_a, pm_vk_i, pm_vk_z, pm_vk_a, pm_cti, pm_ctr, pm_ldi_z, pm_ldi_s, pm_lda_z, pm_lda_s, pm_cat_n, pm_cat_i, pm_cat_r, pm_cat_l, pm_obj, pm_arr, pm_opt, pm_ird, pm_aln, List.getElem?_cons_zero, List.getElem?_cons_succ, List.set_cons_zero, List.set_cons_succ, List.length_cons, List.length_nil, List.length_set, true_and, and_true, Nat.add_zero, Nat.zero_add, Nat.le_refl, Nat.reduceAdd, Nat.reduceLT, Nat.reduceLeDiff, Nat.zero_le, not_false_eq_true, not_true_eq_false, false_implies, implies_true, true_implies, Nat.zero_lt_succ, Nat.lt_add_one, pm_tl_n, pm_tl_s, sc_uL, l1, l2, l3, show ¬ (2 : Int32) = 3 by decide, show ¬ (2 : Int32) = 4 by decide, show ¬ (2 : Int32) = 5 by decide]
        exact fin g3 _ M3 (by omega) (F2.tr F3) setF_2.symm
      · obtain ⟨r, r1, r2, r3⟩ := inB_nI (a := 10) (b := 20000) (by omega) (by omega) (v := n) hs
        obtain ⟨q, s, n1, n2, n3, n4, n5⟩ := I.ad
        have loop : ∀ (i : Nat) (B : AD) (g : pmH) (a : Nat), md_ g m (upd o 1 0) B → sc B 0 = nI a → a < 10 * 2 ^ i → a < 2 ^ 31 → sc B 11 = n → g.length = g1.length → fr1 g1 g (m + 1) → halN i B = setF A (nI 3) n → W_X12_tell (d + 5) h.length 0 (fun v h' => rq_ h m (setF A (nI 3) n) K bs ws (o 0) (o 7) true (sc A (8 + 3)) v h') 81 [some (.ref m), some (.int 3), some (.int n), some (.int (sc A (8 + 3)))] [] g 0 := by
          intro i
          induction i with
          | zero =>
            intro B g a MB q1 q2 q3 q4 q5 q6 q7
            obtain ⟨b0, bf, b1, bR⟩ := MB
            have b0' : g[m]? = some (.inr (12, [.ref (m + 1), .ref (m + 2), .ref (m + 3), .int (o 0), .int 0, .ref (m + 4), .int (o 2), .ref (m + 5), .int (o 3), .int (o 4), .int (o 5), .int (o 6), .int (o 7), .int (o 8), .int (o 9), .int (o 10), .ref (m + 6), .ref (m + 7), .ref (m + 8), .int (o 11), .ref (m + 9), .ref (m + 10), .int (o 12)])) := b0
            have s0 : bf 1670 = nI a := (bR.s (i := 0) (by omega)).trans q1
            have lt : nI a < n := by rw [r3]; exact nI_lt (by omega) (by omega)
            rw [w_X12_tell_81]
            simp only [w_X12_tell_82, w_X12_tell_83, w_X12_tell_86, w_X12_tell_87, w_X12_tell_90, w_X12_tell_93, w_X12_tell_94, w_X12_tell_95, w_X12_tell_105, w_X12_tell_106, w_X12_tell_107, w_X12_tell_110, w_X12_tell_111, w_X12_tell_114, w_X12_tell_115, w_X12_tell_116, w_X12_tell_119, w_X12_tell_120, w_X12_tell_123, w_X12_tell_124, pm_1i_c, pm_2i_c, pm_1l_c, pm_2l_c, pm_1a_c, pm_ia_c, pm_iia_c, pm_va_c, pm_cp_c, pm_k0_c, pm_k1_c, pm_k2_c, pm_k3_c, pm_s1_c, pm_s2_c, pm_s3_c, pm_s4_c, pm_ri_c, pm_ra_c, pm_rn_c, pm_rk_i, pm_rk_z, pm_rk_a, pm_vk_i, pm_vk_z, pm_vk_a, pm_cti, pm_ctr, pm_ldi_z, pm_ldi_s, pm_lda_z, pm_lda_s, pm_cat_n, pm_cat_i, pm_cat_r, pm_cat_l, pm_obj, pm_arr, pm_opt, pm_ird, pm_aln, List.getElem?_cons_zero, List.getElem?_cons_succ, List.set_cons_zero, List.set_cons_succ, List.length_cons, List.length_nil, List.length_set, true_and, and_true, Nat.add_zero, Nat.zero_add, Nat.le_refl, Nat.reduceAdd, Nat.reduceLT, Nat.reduceLeDiff, Nat.zero_le, not_false_eq_true, not_true_eq_false, false_implies, implies_true, true_implies, Nat.zero_lt_succ, Nat.lt_add_one, b0', b1, ix_1670, vi_1670, s0, lt, l1, q5, show ¬ (3 : Int32) = 4 by decide, show ¬ (3 : Int32) = 5 by decide]
            exact fin g B ⟨b0, bf, b1, bR⟩ q5 q6 q7
          | succ i ih =>
            intro B g a MB q1 q2 q3 q4 q5 q6 q7
            have MB' := MB
            obtain ⟨b0, bf, b1, bR⟩ := MB
            have b0' : g[m]? = some (.inr (12, [.ref (m + 1), .ref (m + 2), .ref (m + 3), .int (o 0), .int 0, .ref (m + 4), .int (o 2), .ref (m + 5), .int (o 3), .int (o 4), .int (o 5), .int (o 6), .int (o 7), .int (o 8), .int (o 9), .int (o 10), .ref (m + 6), .ref (m + 7), .ref (m + 8), .int (o 11), .ref (m + 9), .ref (m + 10), .int (o 12)])) := b0
            have s0 : bf 1670 = nI a := (bR.s (i := 0) (by omega)).trans q1
            have e : halN (i + 1) B = if sc B 0 < sc B 11 then B else halN i (halF B) := rfl
            rw [e, q1, q4] at q7
            rw [w_X12_tell_81]
            by_cases lt : nI a < n
            · rw [if_pos lt] at q7
              simp only [w_X12_tell_82, w_X12_tell_83, w_X12_tell_86, w_X12_tell_87, w_X12_tell_90, w_X12_tell_93, w_X12_tell_94, w_X12_tell_95, w_X12_tell_105, w_X12_tell_106, w_X12_tell_107, w_X12_tell_110, w_X12_tell_111, w_X12_tell_114, w_X12_tell_115, w_X12_tell_116, w_X12_tell_119, w_X12_tell_120, w_X12_tell_123, w_X12_tell_124, pm_1i_c, pm_2i_c, pm_1l_c, pm_2l_c, pm_1a_c, pm_ia_c, pm_iia_c, pm_va_c, pm_cp_c, pm_k0_c, pm_k1_c, pm_k2_c, pm_k3_c, pm_s1_c, pm_s2_c, pm_s3_c, pm_s4_c, pm_ri_c, pm_ra_c, pm_rn_c, pm_rk_i, pm_rk_z, pm_rk_a, pm_vk_i, pm_vk_z, pm_vk_a, pm_cti, pm_ctr, pm_ldi_z, pm_ldi_s, pm_lda_z, pm_lda_s, pm_cat_n, pm_cat_i, pm_cat_r, pm_cat_l, pm_obj, pm_arr, pm_opt, pm_ird, pm_aln, List.getElem?_cons_zero, List.getElem?_cons_succ, List.set_cons_zero, List.set_cons_succ, List.length_cons, List.length_nil, List.length_set, true_and, and_true, Nat.add_zero, Nat.zero_add, Nat.le_refl, Nat.reduceAdd, Nat.reduceLT, Nat.reduceLeDiff, Nat.zero_le, not_false_eq_true, not_true_eq_false, false_implies, implies_true, true_implies, Nat.zero_lt_succ, Nat.lt_add_one, b0', b1, ix_1670, vi_1670, s0, lt, l1, q5, show ¬ (3 : Int32) = 4 by decide, show ¬ (3 : Int32) = 5 by decide]
              exact fin g B MB' q5 q6 q7
            · rw [if_neg lt] at q7
              have pw : 2 ^ (i + 1) = 2 * 2 ^ i := by rw [Nat.pow_succ, Nat.mul_comm]
              simp only [w_X12_tell_82, w_X12_tell_83, w_X12_tell_86, w_X12_tell_87, w_X12_tell_90, w_X12_tell_93, w_X12_tell_94, w_X12_tell_95, w_X12_tell_98, w_X12_tell_99, pm_1i_c, pm_2i_c, pm_1l_c, pm_2l_c, pm_1a_c, pm_ia_c, pm_iia_c, pm_va_c, pm_cp_c, pm_k0_c, pm_k1_c, pm_k2_c, pm_k3_c, pm_s1_c, pm_s2_c, pm_s3_c, pm_s4_c, pm_ri_c, pm_ra_c, pm_rn_c, pm_rk_i, pm_rk_z, pm_rk_a, pm_vk_i, pm_vk_z, pm_vk_a, pm_cti, pm_ctr, pm_ldi_z, pm_ldi_s, pm_lda_z, pm_lda_s, pm_cat_n, pm_cat_i, pm_cat_r, pm_cat_l, pm_obj, pm_arr, pm_opt, pm_ird, pm_aln, List.getElem?_cons_zero, List.getElem?_cons_succ, List.set_cons_zero, List.set_cons_succ, List.length_cons, List.length_nil, List.length_set, true_and, and_true, Nat.add_zero, Nat.zero_add, Nat.le_refl, Nat.reduceAdd, Nat.reduceLT, Nat.reduceLeDiff, Nat.zero_le, not_false_eq_true, not_true_eq_false, false_implies, implies_true, true_implies, Nat.zero_lt_succ, Nat.lt_add_one, b0', b1, ix_1670, vi_1670, s0, lt, l1, q5]
              refine PM_use (c_M_halves MB' (d + 4)) ?_
              rintro v g3 l3 ⟨rfl, M3, F3⟩
              show W_X12_tell _ _ _ _ _ _ _ _ _
              simp only [w_X12_tell_102, pm_1i_c, pm_2i_c, pm_1l_c, pm_2l_c, pm_1a_c, pm_ia_c, pm_iia_c, pm_va_c, pm_cp_c, pm_k0_c, pm_k1_c, pm_k2_c, pm_k3_c, pm_s1_c, pm_s2_c, pm_s3_c, pm_s4_c, pm_ri_c, pm_ra_c, pm_rn_c, pm_rk_i, pm_rk_z, pm_rk_a, pm_vk_i, pm_vk_z, pm_vk_a, pm_cti, pm_ctr, pm_ldi_z, pm_ldi_s, pm_lda_z, pm_lda_s, pm_cat_n, pm_cat_i, pm_cat_r, pm_cat_l, pm_obj, pm_arr, pm_opt, pm_ird, pm_aln, List.getElem?_cons_zero, List.getElem?_cons_succ, List.set_cons_zero, List.set_cons_succ, List.length_cons, List.length_nil, List.length_set, true_and, and_true, Nat.add_zero, Nat.zero_add, Nat.le_refl, Nat.reduceAdd, Nat.reduceLT, Nat.reduceLeDiff, Nat.zero_le, not_false_eq_true, not_true_eq_false, false_implies, implies_true, true_implies, Nat.zero_lt_succ, Nat.lt_add_one, pm_tl_n, pm_tl_s, sc_uL]
              exact ih (halF B) g3 (a / 2) M3 (halF_0 q3 q1) (by omega) (by omega) ((halF_n (by omega) (by omega)).trans q4) (by omega) (q6.tr F3) q7
        have L := loop 32 (uS A 11 n) g2 q M2 ((sc_ne (by omega)).trans n4) (by omega) (by omega) (by rw [sc_uS, if_pos rfl]) (by omega) F2 setF_3.symm
        show W_X12_tell _ _ _ _ _ _ _ _ _
        simp only [w_X12_tell_72, w_X12_tell_73, w_X12_tell_74, pm_1i_c, pm_2i_c, pm_1l_c, pm_2l_c, pm_1a_c, pm_ia_c, pm_iia_c, pm_va_c, pm_cp_c, pm_k0_c, pm_k1_c, pm_k2_c, pm_k3_c, pm_s1_c, pm_s2_c, pm_s3_c, pm_s4_c, pm_ri_c, pm_ra_c, pm_rn_c, pm_rk_i, pm_rk_z, pm_rk_a, pm_vk_i, pm_vk_z, pm_vk_a, pm_cti, pm_ctr, pm_ldi_z, pm_ldi_s, pm_lda_z, pm_lda_s, pm_cat_n, pm_cat_i, pm_cat_r, pm_cat_l, pm_obj, pm_arr, pm_opt, pm_ird, pm_aln, List.getElem?_cons_zero, List.getElem?_cons_succ, List.set_cons_zero, List.set_cons_succ, List.length_cons, List.length_nil, List.length_set, true_and, and_true, Nat.add_zero, Nat.zero_add, Nat.le_refl, Nat.reduceAdd, Nat.reduceLT, Nat.reduceLeDiff, Nat.zero_le, not_false_eq_true, not_true_eq_false, false_implies, implies_true, true_implies, Nat.zero_lt_succ, Nat.lt_add_one, pm_tl_n, pm_tl_s, sc_uL, show nI 3 = 3 from rfl, show ¬ (3 : Int32) < 3 by decide]
        exact L
      · show W_X12_tell _ _ _ _ _ _ _ _ _
        simp only [w_X12_tell_72, w_X12_tell_73, w_X12_tell_74, pm_1i_c, pm_2i_c, pm_1l_c, pm_2l_c, pm_1a_c, pm_ia_c, pm_iia_c, pm_va_c, pm_cp_c, pm_k0_c, pm_k1_c, pm_k2_c, pm_k3_c, pm_s1_c, pm_s2_c, pm_s3_c, pm_s4_c, pm_ri_c, pm_ra_c, pm_rn_c, pm_rk_i, pm_rk_z, pm_rk_a, pm_vk_i, pm_vk_z, pm_vk_a, pm_cti, pm_ctr, pm_ldi_z, pm_ldi_s, pm_lda_z, pm_lda_s, pm_cat_n, pm_cat_i, pm_cat_r, pm_cat_l, pm_obj, pm_arr, pm_opt, pm_ird, pm_aln, List.getElem?_cons_zero, List.getElem?_cons_succ, List.set_cons_zero, List.set_cons_succ, List.length_cons, List.length_nil, List.length_set, true_and, and_true, Nat.add_zero, Nat.zero_add, Nat.le_refl, Nat.reduceAdd, Nat.reduceLT, Nat.reduceLeDiff, Nat.zero_le, not_false_eq_true, not_true_eq_false, false_implies, implies_true, true_implies, Nat.zero_lt_succ, Nat.lt_add_one, pm_tl_n, pm_tl_s, sc_uL, show nI 4 = 4 from rfl, show ¬ (4 : Int32) < 3 by decide]
        rw [w_X12_tell_81]
        simp only [w_X12_tell_82, w_X12_tell_83, w_X12_tell_105, w_X12_tell_106, w_X12_tell_107, w_X12_tell_110, w_X12_tell_111, pm_1i_c, pm_2i_c, pm_1l_c, pm_2l_c, pm_1a_c, pm_ia_c, pm_iia_c, pm_va_c, pm_cp_c, pm_k0_c, pm_k1_c, pm_k2_c, pm_k3_c, pm_s1_c, pm_s2_c, pm_s3_c, pm_s4_c, pm_ri_c, pm_ra_c, pm_rn_c, pm_rk_i, pm_rk_z, pm_rk_a, pm_vk_i, pm_vk_z, pm_vk_a, pm_cti, pm_ctr, pm_ldi_z, pm_ldi_s, pm_lda_z, pm_lda_s, pm_cat_n, pm_cat_i, pm_cat_r, pm_cat_l, pm_obj, pm_arr, pm_opt, pm_ird, pm_aln, List.getElem?_cons_zero, List.getElem?_cons_succ, List.set_cons_zero, List.set_cons_succ, List.length_cons, List.length_nil, List.length_set, true_and, and_true, Nat.add_zero, Nat.zero_add, Nat.le_refl, Nat.reduceAdd, Nat.reduceLT, Nat.reduceLeDiff, Nat.zero_le, not_false_eq_true, not_true_eq_false, false_implies, implies_true, true_implies, Nat.zero_lt_succ, Nat.lt_add_one, show ¬ (4 : Int32) = 3 by decide, M0', l1, l2]
        refine PM_use (c_M_beginsPeriod M2 (d + 4)) ?_
        rintro v g3 l3 ⟨rfl, M3, F3⟩
        show W_X12_tell _ _ _ _ _ _ _ _ _
        simp only [w_X12_tell_114, w_X12_tell_115, w_X12_tell_116, w_X12_tell_119, w_X12_tell_120, w_X12_tell_123, w_X12_tell_124, pm_1i_c, pm_2i_c, pm_1l_c, pm_2l_c, pm_1a_c, pm_ia_c, pm_iia_c, pm_va_c, pm_cp_c, pm_k0_c, pm_k1_c, pm_k2_c, pm_k3_c, pm_s1_c, pm_s2_c, pm_s3_c, pm_s4_c, pm_ri_c, pm_ra_c, pm_rn_c, pm_rk_i, pm_rk_z, pm_rk_a, pm_vk_i, pm_vk_z, pm_vk_a, pm_cti, pm_ctr, pm_ldi_z, pm_ldi_s, pm_lda_z, pm_lda_s, pm_cat_n, pm_cat_i, pm_cat_r, pm_cat_l, pm_obj, pm_arr, pm_opt, pm_ird, pm_aln, List.getElem?_cons_zero, List.getElem?_cons_succ, List.set_cons_zero, List.set_cons_succ, List.length_cons, List.length_nil, List.length_set, true_and, and_true, Nat.add_zero, Nat.zero_add, Nat.le_refl, Nat.reduceAdd, Nat.reduceLT, Nat.reduceLeDiff, Nat.zero_le, not_false_eq_true, not_true_eq_false, false_implies, implies_true, true_implies, Nat.zero_lt_succ, Nat.lt_add_one, pm_tl_n, pm_tl_s, sc_uL, l1, l2, l3, show ¬ (4 : Int32) = 5 by decide]
        exact fin g3 _ M3 (by omega) (F2.tr F3) setF_4.symm
      · show W_X12_tell _ _ _ _ _ _ _ _ _
        simp only [w_X12_tell_72, w_X12_tell_73, w_X12_tell_74, pm_1i_c, pm_2i_c, pm_1l_c, pm_2l_c, pm_1a_c, pm_ia_c, pm_iia_c, pm_va_c, pm_cp_c, pm_k0_c, pm_k1_c, pm_k2_c, pm_k3_c, pm_s1_c, pm_s2_c, pm_s3_c, pm_s4_c, pm_ri_c, pm_ra_c, pm_rn_c, pm_rk_i, pm_rk_z, pm_rk_a, pm_vk_i, pm_vk_z, pm_vk_a, pm_cti, pm_ctr, pm_ldi_z, pm_ldi_s, pm_lda_z, pm_lda_s, pm_cat_n, pm_cat_i, pm_cat_r, pm_cat_l, pm_obj, pm_arr, pm_opt, pm_ird, pm_aln, List.getElem?_cons_zero, List.getElem?_cons_succ, List.set_cons_zero, List.set_cons_succ, List.length_cons, List.length_nil, List.length_set, true_and, and_true, Nat.add_zero, Nat.zero_add, Nat.le_refl, Nat.reduceAdd, Nat.reduceLT, Nat.reduceLeDiff, Nat.zero_le, not_false_eq_true, not_true_eq_false, false_implies, implies_true, true_implies, Nat.zero_lt_succ, Nat.lt_add_one, pm_tl_n, pm_tl_s, sc_uL, show nI 5 = 5 from rfl, show ¬ (5 : Int32) < 3 by decide]
        rw [w_X12_tell_81]
        simp only [w_X12_tell_82, w_X12_tell_83, w_X12_tell_105, w_X12_tell_106, w_X12_tell_107, w_X12_tell_110, w_X12_tell_111, w_X12_tell_114, w_X12_tell_115, w_X12_tell_116, w_X12_tell_119, w_X12_tell_120, pm_1i_c, pm_2i_c, pm_1l_c, pm_2l_c, pm_1a_c, pm_ia_c, pm_iia_c, pm_va_c, pm_cp_c, pm_k0_c, pm_k1_c, pm_k2_c, pm_k3_c, pm_s1_c, pm_s2_c, pm_s3_c, pm_s4_c, pm_ri_c, pm_ra_c, pm_rn_c, pm_rk_i, pm_rk_z, pm_rk_a, pm_vk_i, pm_vk_z, pm_vk_a, pm_cti, pm_ctr, pm_ldi_z, pm_ldi_s, pm_lda_z, pm_lda_s, pm_cat_n, pm_cat_i, pm_cat_r, pm_cat_l, pm_obj, pm_arr, pm_opt, pm_ird, pm_aln, List.getElem?_cons_zero, List.getElem?_cons_succ, List.set_cons_zero, List.set_cons_succ, List.length_cons, List.length_nil, List.length_set, true_and, and_true, Nat.add_zero, Nat.zero_add, Nat.le_refl, Nat.reduceAdd, Nat.reduceLT, Nat.reduceLeDiff, Nat.zero_le, not_false_eq_true, not_true_eq_false, false_implies, implies_true, true_implies, Nat.zero_lt_succ, Nat.lt_add_one, show ¬ (5 : Int32) = 3 by decide, show ¬ (5 : Int32) = 4 by decide, M0', l1, l2]
        refine PM_use (c_M_forgetsCounted M2 (d + 4)) ?_
        rintro v g3 l3 ⟨rfl, M3, F3⟩
        show W_X12_tell _ _ _ _ _ _ _ _ _
        simp only [w_X12_tell_123, w_X12_tell_124, pm_1i_c, pm_2i_c, pm_1l_c, pm_2l_c, pm_1a_c, pm_ia_c, pm_iia_c, pm_va_c, pm_cp_c, pm_k0_c, pm_k1_c, pm_k2_c, pm_k3_c, pm_s1_c, pm_s2_c, pm_s3_c, pm_s4_c, pm_ri_c, pm_ra_c, pm_rn_c, pm_rk_i, pm_rk_z, pm_rk_a, pm_vk_i, pm_vk_z, pm_vk_a, pm_cti, pm_ctr, pm_ldi_z, pm_ldi_s, pm_lda_z, pm_lda_s, pm_cat_n, pm_cat_i, pm_cat_r, pm_cat_l, pm_obj, pm_arr, pm_opt, pm_ird, pm_aln, List.getElem?_cons_zero, List.getElem?_cons_succ, List.set_cons_zero, List.set_cons_succ, List.length_cons, List.length_nil, List.length_set, true_and, and_true, Nat.add_zero, Nat.zero_add, Nat.le_refl, Nat.reduceAdd, Nat.reduceLT, Nat.reduceLeDiff, Nat.zero_le, not_false_eq_true, not_true_eq_false, false_implies, implies_true, true_implies, Nat.zero_lt_succ, Nat.lt_add_one, pm_tl_n, pm_tl_s, sc_uL, l1, l2, l3]
        exact fin g3 _ M3 (by omega) (F2.tr F3) setF_5.symm
end MR
