/-! AdmissionDeskModel: write. -/
section NB
variable {h h' : pmH} {m : Nat} {o : Nat → Int32} {A A' K K' B : AD} {bs ws bs' ws' xs : List Int32} {ik ft : Int32}
theorem byte_id {n : Nat} (hn : n < 128) : vp_nar .byte (nI n).toInt8.toInt32 = nI n := by
  rw [pk_vb]
  refine Int32.toInt_inj.mp ?_
  rw [Int8.toInt_toInt32, Int32.toInt_toInt8, nI_toInt (by omega), Int.bmod_def]
  split <;> omega
/-- one byte more of what is written -/
theorem mm_.wr (C : mm_ h m o A K bs ws) (o' : Nat → Int32) (M : mO h' m o') (e0 : o' 0 = o 0) (e2 : o' 2 = o 2) {fx : Nat → Int32} (Fx : h'[m + 10]? = some (.inl (1, 1000, .inl fx))) (hl : ws'.length ≤ 1000) (e12 : o' 12 = nI ws'.length) (hb : ∀ k, k < ws'.length → fx k = ws'.getD k (-1)) (F : ∀ i, i ≠ m → i ≠ m + 10 → h'[i]? = h[i]?) : mm_ h' m o' A K bs ws' ∧ frM h h' m := by
  refine ⟨⟨M, ?_, ?_, ?_, ?_, ?_, ?_, ?_, ?_, ?_, fx, Fx, hl, e12, hb⟩, fun i hi => F i (by omega) (by omega)⟩
  · obtain ⟨f, h1, h2⟩ := C.n
    exact ⟨f, (F _ (by omega) (by omega)).trans h1, h2⟩
  · obtain ⟨f, h1, h2⟩ := C.k
    exact ⟨f, (F _ (by omega) (by omega)).trans h1, by rw [e0]; exact h2⟩
  · obtain ⟨f, h1⟩ := C.as
    exact ⟨f, (F _ (by omega) (by omega)).trans h1⟩
  · obtain ⟨f, h1, h2⟩ := C.tp
    exact ⟨f, (F _ (by omega) (by omega)).trans h1, by rw [e2]; exact h2⟩
  · obtain ⟨f, h1⟩ := C.fv
    exact ⟨f, (F _ (by omega) (by omega)).trans h1⟩
  · obtain ⟨f, h1⟩ := C.cd
    exact ⟨f, (F _ (by omega) (by omega)).trans h1⟩
  · exact C.p.keep (F _ (by omega) (by omega))
  · obtain ⟨f, h1⟩ := C.td
    exact ⟨f, (F _ (by omega) (by omega)).trans h1⟩
  · obtain ⟨f, h1⟩ := C.rw
    exact ⟨f, (F _ (by omega) (by omega)).trans h1⟩
theorem c_M_says (C : mm_ h m o A K bs ws) (hl : ws.length < 1000) {n : Nat} (hn : n < 128) (d : Nat) : PM (d + 1) 249 [.ref m, .int (nI n)] h (fun v h' => v = none ∧ mm_ h' m (upd o 12 (nI (ws.length + 1))) A K bs (ws ++ [nI n]) ∧ frM h h' m) := by
  obtain ⟨f, Hf, t1, t2, t3⟩ := C.tx
  have H0 := C.ob
  unfold mO at H0
  rw [t2] at H0
  have vi : vp_in (nI ws.length) 1000 := vp_in_nI hl (by omega)
  have ci : (nI ws.length).toNatClampNeg = ws.length := nI_clamp (by omega)
  have nm : ∀ (q : pmC), (h.set (m + 10) q)[m]? = h[m]? := fun _ => hset_n (by omega)
  have ls : (ws ++ [nI n]).length = ws.length + 1 := by rw [List.length_append]; rfl
  obtain ⟨g, hg⟩ : ∃ g, g = (h.set (m + 10) (.inl (1, 1000, .inl (upd f ws.length (nI n))))).set m (.inr (12, [.ref (m + 1), .ref (m + 2), .ref (m + 3), .int (o 0), .int (o 1), .ref (m + 4), .int (o 2), .ref (m + 5), .int (o 3), .int (o 4), .int (o 5), .int (o 6), .int (o 7), .int (o 8), .int (o 9), .int (o 10), .ref (m + 6), .ref (m + 7), .ref (m + 8), .int (o 11), .ref (m + 9), .ref (m + 10), .int (nI (ws.length + 1))])) := ⟨_, rfl⟩
  have gM : mO g m (upd o 12 (nI (ws.length + 1))) := by
    unfold mO
    rw [hg, hset_s, nm, H0]
    rfl
  have gX : g[m + 10]? = some (.inl (1, 1000, .inl (upd f ws.length (nI n)))) := by
    rw [hg, hset_n (by omega), hset_s, Hf]
    rfl
  obtain ⟨C2, F2⟩ := C.wr (ws' := ws ++ [nI n]) _ gM rfl rfl gX (by omega) (by rw [ls]; exact if_pos rfl) (fun k hk => by
    rw [ls] at hk
    by_cases c : k = ws.length
    · rw [getD_app_eq c, c, upd_e]
    · rw [getD_app_lt (by omega), upd_n c]
      exact t3 k (by omega)) (fun i a b => by rw [hg, hset_n (Ne.symm a), hset_n (Ne.symm b)])
  have lg : g.length = h.length := by rw [hg, List.length_set, List.length_set]
  refine en_X12_says rfl rfl ?_
  simp only [w_X12_says_0, w_X12_says_1, w_X12_says_4, w_X12_says_5, w_X12_says_8, w_X12_says_9, w_X12_says_10, w_X12_says_11, w_X12_says_12, w_X12_says_13, w_X12_says_16, w_X12_says_17, w_X12_says_18, w_X12_says_21, pm_1i_c, pm_2i_c, pm_1l_c, pm_2l_c, pm_1a_c, pm_ia_c, pm_iia_c, pm_va_c, pm_cp_c, pm_k0_c, pm_k1_c, pm_k2_c, pm_k3_c, pm_s1_c, pm_s2_c, pm_s3_c, pm_s4_c, pm_ri_c, pm_ra_c, pm_rn_c, pm_rk_i, pm_rk_z, pm_rk_a, pm_vk_i, pm_vk_z, pm_vk_a, pm_cti, pm_ctr, pm_ldi_z, pm_ldi_s, pm_lda_z, pm_lda_s, pm_cat_n, pm_cat_i, pm_cat_r, pm_cat_l, pm_obj, pm_arr, pm_opt, pm_ird, pm_aln, List.getElem?_cons_zero, List.getElem?_cons_succ, List.set_cons_zero, List.set_cons_succ, List.length_cons, List.length_nil, List.length_set, true_and, and_true, Nat.add_zero, Nat.zero_add, Nat.le_refl, Nat.reduceAdd, Nat.reduceLT, Nat.reduceLeDiff, Nat.zero_le, not_false_eq_true, not_true_eq_false, false_implies, implies_true, true_implies, Nat.zero_lt_succ, Nat.lt_add_one, H0, Hf, vi, ci, true_or, if_true, byte_id hn, nm, nI_1]
  rw [← hg]
  exact ⟨C2, F2⟩
theorem wnD_d {n u : Nat} (hn : n < 2 ^ 30) (hu : 0 < u) (hu2 : u < 2 ^ 30) : wnD (nI n) (nI u) = if u ≤ n ∨ u = 1 then [nI (48 + n / u % 10)] else [] := by
  unfold wnD
  have e : (48 : Int32) + (nI n / nI u - nI n / nI u / 10 * 10) = nI (48 + n / u % 10) := by
    rw [pk_div (by omega) hu (by omega), show (10 : Int32) = nI 10 from rfl, pk_rem (by
      have := Nat.div_le_self n u
      omega) (by omega) (by omega), show (48 : Int32) = nI 48 from rfl, nI_add]
  rw [e]
  have c : (¬ nI n < nI u ∨ nI u = 1) ↔ (u ≤ n ∨ u = 1) := by
    rw [nI_ltI (by omega) (by omega), show (1 : Int32) = nI 1 from rfl, nI_inj (by omega) (by omega)]
    omega
  by_cases q : u ≤ n ∨ u = 1
  · rw [if_pos q, if_pos (c.mpr q)]
  · rw [if_neg q, if_neg (fun z => q (c.mp z))]
theorem wnF_d {n : Nat} (hn : n < 2 ^ 30) : wnF (nI n) = (if 10000 ≤ n then [nI (48 + n / 10000 % 10)] else []) ++ ((if 1000 ≤ n then [nI (48 + n / 1000 % 10)] else []) ++ ((if 100 ≤ n then [nI (48 + n / 100 % 10)] else []) ++ ((if 10 ≤ n then [nI (48 + n / 10 % 10)] else []) ++ [nI (48 + n % 10)]))) := by
  unfold wnF
  have d5 : wnD (nI n) 10000 = if 10000 ≤ n then [nI (48 + n / 10000 % 10)] else [] := by
    rw [show (10000 : Int32) = nI 10000 from rfl, wnD_d hn (by omega) (by omega)]
    by_cases c : 10000 ≤ n
    · rw [if_pos c, if_pos (Or.inl c)]
    · rw [if_neg c, if_neg (by omega)]
  have d4 : wnD (nI n) 1000 = if 1000 ≤ n then [nI (48 + n / 1000 % 10)] else [] := by
    rw [show (1000 : Int32) = nI 1000 from rfl, wnD_d hn (by omega) (by omega)]
    by_cases c : 1000 ≤ n
    · rw [if_pos c, if_pos (Or.inl c)]
    · rw [if_neg c, if_neg (by omega)]
  have d3 : wnD (nI n) 100 = if 100 ≤ n then [nI (48 + n / 100 % 10)] else [] := by
    rw [show (100 : Int32) = nI 100 from rfl, wnD_d hn (by omega) (by omega)]
    by_cases c : 100 ≤ n
    · rw [if_pos c, if_pos (Or.inl c)]
    · rw [if_neg c, if_neg (by omega)]
  have d2 : wnD (nI n) 10 = if 10 ≤ n then [nI (48 + n / 10 % 10)] else [] := by
    rw [show (10 : Int32) = nI 10 from rfl, wnD_d hn (by omega) (by omega)]
    by_cases c : 10 ≤ n
    · rw [if_pos c, if_pos (Or.inl c)]
    · rw [if_neg c, if_neg (by omega)]
  have d1 : wnD (nI n) 1 = [nI (48 + n % 10)] := by
    rw [show (1 : Int32) = nI 1 from rfl, wnD_d hn (by omega) (by omega), if_pos (Or.inr rfl), Nat.div_one]
  rw [d5, d4, d3, d2, d1]
theorem wnF_s {n : Nat} (h10 : 10 ≤ n) (hn : n < 100000) : wnF (nI n) = wnF (nI (n / 10)) ++ [nI (48 + n % 10)] := by
  rw [wnF_d (by omega), wnF_d (by omega), if_pos h10]
  have e1 : n / 10 / 1000 = n / 10000 := by omega
  have e2 : n / 10 / 100 = n / 1000 := by omega
  have e3 : n / 10 / 10 = n / 100 := by omega
  have k5 : ¬ 10000 ≤ n / 10 := by omega
  rw [if_neg k5, e1, e2, e3]
  by_cases c4 : 10000 ≤ n
  · rw [if_pos c4, if_pos (show 1000 ≤ n by omega), if_pos (show 100 ≤ n by omega), if_pos (show 1000 ≤ n / 10 by omega), if_pos (show 100 ≤ n / 10 by omega), if_pos (show 10 ≤ n / 10 by omega)]
    rfl
  · rw [if_neg c4, if_neg (show ¬ 1000 ≤ n / 10 by omega)]
    by_cases c3 : 1000 ≤ n
    · rw [if_pos c3, if_pos (show 100 ≤ n by omega), if_pos (show 100 ≤ n / 10 by omega), if_pos (show 10 ≤ n / 10 by omega)]
      rfl
    · rw [if_neg c3, if_neg (show ¬ 100 ≤ n / 10 by omega)]
      by_cases c2 : 100 ≤ n
      · rw [if_pos c2, if_pos (show 10 ≤ n / 10 by omega)]
        rfl
      · rw [if_neg c2, if_neg (show ¬ 10 ≤ n / 10 by omega)]
        rfl
theorem wnF_1 {n : Nat} (h10 : n < 10) : wnF (nI n) = [nI (48 + n)] := by
  rw [wnF_d (by omega), if_neg (show ¬ 10000 ≤ n by omega), if_neg (show ¬ 1000 ≤ n by omega), if_neg (show ¬ 100 ≤ n by omega), if_neg (show ¬ 10 ≤ n by omega), show n % 10 = n by omega]
  rfl
theorem wnD_len (x u : Int32) : (wnD x u).length ≤ 1 := by
  unfold wnD
  split
  · exact Nat.le_refl _
  · exact Nat.zero_le _
theorem wnF_len (x : Int32) : (wnF x).length ≤ 5 := by
  unfold wnF
  rw [List.length_append, List.length_append, List.length_append, List.length_append]
  have a := wnD_len x 10000
  have b := wnD_len x 1000
  have c := wnD_len x 100
  have d := wnD_len x 10
  have e := wnD_len x 1
  omega
theorem c_M_saysNumber : ∀ (j n : Nat), n < 100000 → n < 10 ^ (j + 1) → ∀ (d : Nat) (h : pmH) (o : Nat → Int32) (ws : List Int32), mm_ h m o A K bs ws → ws.length ≤ 990 → PM (d + j + 2) 250 [.ref m, .int (nI n)] h (fun v h' => v = none ∧ mm_ h' m (upd o 12 (nI (ws ++ wnF (nI n)).length)) A K bs (ws ++ wnF (nI n)) ∧ frM h h' m)
  | j, n, hn, hj, d, h, o, ws, C, hl => by
    have ten : ¬ (10 : Int32) = 0 := by decide
    have er : (48 : Int32) + (nI n - nI n / 10 * 10) = nI (48 + n % 10) := by
      rw [show (10 : Int32) = nI 10 from rfl, pk_rem (by omega) (by omega) (by omega), show (48 : Int32) = nI 48 from rfl, nI_add]
    have H0 := C.ob
    unfold mO at H0
    refine en_X12_saysNumber rfl rfl ?_
    by_cases c : 10 ≤ n
    · have c' : (9 : Int32) < nI n := nI_lt (a := 9) (by omega) (by omega)
      have ed : nI n / 10 = nI (n / 10) := by rw [show (10 : Int32) = nI 10 from rfl, pk_div (by omega) (by omega) (by omega)]
      cases j with
      | zero => omega
      | succ j =>
        have pw : 10 ^ (j + 1 + 1) = 10 * 10 ^ (j + 1) := by rw [Nat.pow_succ, Nat.mul_comm]
        have I := c_M_saysNumber j (n / 10) (by omega) (by omega) d h o ws C hl
        have l5 := wnF_len (nI (n / 10))
        have es := wnF_s c hn
        rw [show d + j + 2 = d + (j + 1) + 1 by omega] at I
        simp only [w_X12_saysNumber_0, w_X12_saysNumber_1, w_X12_saysNumber_3, w_X12_saysNumber_6, w_X12_saysNumber_7, w_X12_saysNumber_8, w_X12_saysNumber_10, w_X12_saysNumber_11, pm_1i_c, pm_2i_c, pm_1l_c, pm_2l_c, pm_1a_c, pm_ia_c, pm_iia_c, pm_va_c, pm_cp_c, pm_k0_c, pm_k1_c, pm_k2_c, pm_k3_c, pm_s1_c, pm_s2_c, pm_s3_c, pm_s4_c, pm_ri_c, pm_ra_c, pm_rn_c, pm_rk_i, pm_rk_z, pm_rk_a, pm_vk_i, pm_vk_z, pm_vk_a, pm_cti, pm_ctr, pm_ldi_z, pm_ldi_s, pm_lda_z, pm_lda_s, pm_cat_n, pm_cat_i, pm_cat_r, pm_cat_l, pm_obj, pm_arr, pm_opt, pm_ird, pm_aln, List.getElem?_cons_zero, List.getElem?_cons_succ, List.set_cons_zero, List.set_cons_succ, List.length_cons, List.length_nil, List.length_set, true_and, and_true, Nat.add_zero, Nat.zero_add, Nat.le_refl, Nat.reduceAdd, Nat.reduceLT, Nat.reduceLeDiff, Nat.zero_le, not_false_eq_true, not_true_eq_false, false_implies, implies_true, true_implies, Nat.zero_lt_succ, Nat.lt_add_one, c', ten, ed, H0]
        refine PM_use (I) ?_
        rintro v g1 k1 ⟨rfl, K1, K2⟩
        have H1 := K1.ob
        unfold mO at H1
        have hl2 : (ws ++ wnF (nI (n / 10))).length < 1000 := by
          rw [List.length_append]
          omega
        show W_X12_saysNumber _ _ _ _ _ _ _ _ _
        simp only [w_X12_saysNumber_14, w_X12_saysNumber_15, w_X12_saysNumber_17, w_X12_saysNumber_18, w_X12_saysNumber_20, w_X12_saysNumber_21, w_X12_saysNumber_22, pm_1i_c, pm_2i_c, pm_1l_c, pm_2l_c, pm_1a_c, pm_ia_c, pm_iia_c, pm_va_c, pm_cp_c, pm_k0_c, pm_k1_c, pm_k2_c, pm_k3_c, pm_s1_c, pm_s2_c, pm_s3_c, pm_s4_c, pm_ri_c, pm_ra_c, pm_rn_c, pm_rk_i, pm_rk_z, pm_rk_a, pm_vk_i, pm_vk_z, pm_vk_a, pm_cti, pm_ctr, pm_ldi_z, pm_ldi_s, pm_lda_z, pm_lda_s, pm_cat_n, pm_cat_i, pm_cat_r, pm_cat_l, pm_obj, pm_arr, pm_opt, pm_ird, pm_aln, List.getElem?_cons_zero, List.getElem?_cons_succ, List.set_cons_zero, List.set_cons_succ, List.length_cons, List.length_nil, List.length_set, true_and, and_true, Nat.add_zero, Nat.zero_add, Nat.le_refl, Nat.reduceAdd, Nat.reduceLT, Nat.reduceLeDiff, Nat.zero_le, not_false_eq_true, not_true_eq_false, false_implies, implies_true, true_implies, Nat.zero_lt_succ, Nat.lt_add_one, pm_tl_n, pm_tl_s, sc_uL, ten, er, H1, k1]
        refine PM_use (c_M_says K1 hl2 (n := 48 + n % 10) (by omega) (d + (j + 1))) ?_
        rintro v g2 k2 ⟨rfl, K3, K4⟩
        show W_X12_saysNumber _ _ _ _ _ _ _ _ _
        simp only [w_X12_saysNumber_25, pm_1i_c, pm_2i_c, pm_1l_c, pm_2l_c, pm_1a_c, pm_ia_c, pm_iia_c, pm_va_c, pm_cp_c, pm_k0_c, pm_k1_c, pm_k2_c, pm_k3_c, pm_s1_c, pm_s2_c, pm_s3_c, pm_s4_c, pm_ri_c, pm_ra_c, pm_rn_c, pm_rk_i, pm_rk_z, pm_rk_a, pm_vk_i, pm_vk_z, pm_vk_a, pm_cti, pm_ctr, pm_ldi_z, pm_ldi_s, pm_lda_z, pm_lda_s, pm_cat_n, pm_cat_i, pm_cat_r, pm_cat_l, pm_obj, pm_arr, pm_opt, pm_ird, pm_aln, List.getElem?_cons_zero, List.getElem?_cons_succ, List.set_cons_zero, List.set_cons_succ, List.length_cons, List.length_nil, List.length_set, true_and, and_true, Nat.add_zero, Nat.zero_add, Nat.le_refl, Nat.reduceAdd, Nat.reduceLT, Nat.reduceLeDiff, Nat.zero_le, not_false_eq_true, not_true_eq_false, false_implies, implies_true, true_implies, Nat.zero_lt_succ, Nat.lt_add_one, pm_tl_n, pm_tl_s, sc_uL, k1, k2]
        rw [upd_upd] at K3
        rw [es, ← List.append_assoc]
        have ll : (ws ++ wnF (nI (n / 10)) ++ [nI (48 + n % 10)]).length = (ws ++ wnF (nI (n / 10))).length + 1 := by rw [List.length_append]; rfl
        rw [ll]
        exact ⟨K3, K2.tr K4⟩
    · have c' : ¬ (9 : Int32) < nI n := nI_nlt (b := n) (a := 9) (by omega) (by omega)
      have es := wnF_1 (n := n) (by omega)
      simp only [w_X12_saysNumber_0, w_X12_saysNumber_1, w_X12_saysNumber_3, w_X12_saysNumber_14, w_X12_saysNumber_15, w_X12_saysNumber_17, w_X12_saysNumber_18, w_X12_saysNumber_20, w_X12_saysNumber_21, w_X12_saysNumber_22, pm_1i_c, pm_2i_c, pm_1l_c, pm_2l_c, pm_1a_c, pm_ia_c, pm_iia_c, pm_va_c, pm_cp_c, pm_k0_c, pm_k1_c, pm_k2_c, pm_k3_c, pm_s1_c, pm_s2_c, pm_s3_c, pm_s4_c, pm_ri_c, pm_ra_c, pm_rn_c, pm_rk_i, pm_rk_z, pm_rk_a, pm_vk_i, pm_vk_z, pm_vk_a, pm_cti, pm_ctr, pm_ldi_z, pm_ldi_s, pm_lda_z, pm_lda_s, pm_cat_n, pm_cat_i, pm_cat_r, pm_cat_l, pm_obj, pm_arr, pm_opt, pm_ird, pm_aln, List.getElem?_cons_zero, List.getElem?_cons_succ, List.set_cons_zero, List.set_cons_succ, List.length_cons, List.length_nil, List.length_set, true_and, and_true, Nat.add_zero, Nat.zero_add, Nat.le_refl, Nat.reduceAdd, Nat.reduceLT, Nat.reduceLeDiff, Nat.zero_le, not_false_eq_true, not_true_eq_false, false_implies, implies_true, true_implies, Nat.zero_lt_succ, Nat.lt_add_one, c', ten, er, H0]
      refine PM_use (c_M_says C (by omega) (n := 48 + n % 10) (by omega) (d + j)) ?_
      rintro v g2 k2 ⟨rfl, K3, K4⟩
      show W_X12_saysNumber _ _ _ _ _ _ _ _ _
      simp only [w_X12_saysNumber_25, pm_1i_c, pm_2i_c, pm_1l_c, pm_2l_c, pm_1a_c, pm_ia_c, pm_iia_c, pm_va_c, pm_cp_c, pm_k0_c, pm_k1_c, pm_k2_c, pm_k3_c, pm_s1_c, pm_s2_c, pm_s3_c, pm_s4_c, pm_ri_c, pm_ra_c, pm_rn_c, pm_rk_i, pm_rk_z, pm_rk_a, pm_vk_i, pm_vk_z, pm_vk_a, pm_cti, pm_ctr, pm_ldi_z, pm_ldi_s, pm_lda_z, pm_lda_s, pm_cat_n, pm_cat_i, pm_cat_r, pm_cat_l, pm_obj, pm_arr, pm_opt, pm_ird, pm_aln, List.getElem?_cons_zero, List.getElem?_cons_succ, List.set_cons_zero, List.set_cons_succ, List.length_cons, List.length_nil, List.length_set, true_and, and_true, Nat.add_zero, Nat.zero_add, Nat.le_refl, Nat.reduceAdd, Nat.reduceLT, Nat.reduceLeDiff, Nat.zero_le, not_false_eq_true, not_true_eq_false, false_implies, implies_true, true_implies, Nat.zero_lt_succ, Nat.lt_add_one, pm_tl_n, pm_tl_s, sc_uL, k2]
      rw [show n % 10 = n by omega] at K3
      rw [es]
      have ll : (ws ++ [nI (48 + n)]).length = ws.length + 1 := by rw [List.length_append]; rfl
      rw [ll]
      exact ⟨K3, K4⟩
theorem c_M_runFrom (H : md_ h m o A) {k : Nat} (hk : k < (li A 5).length) (s : Int32) (d : Nat) : PM (d + 2) 251 [.ref m, .int (nI k), .int s] h (fun v h' => v = some (.int (nI (rnF (li A 5) k s))) ∧ h' = h) := by
  have H2 := H
  obtain ⟨H0, f, H1, R⟩ := H
  unfold mO at H0
  have a1 := R.h.1
  refine en_X12_runFrom rfl rfl rfl ?_
  have loop : ∀ z n, (li A 5).length - (k + n) = z → k + n ≤ (li A 5).length → 1 ≤ n → rnG (li A 5) k s z n = rnF (li A 5) k s → W_X12_runFrom (d + 1) (h.length + 0) 0 (fun v h' => v = some (.int (nI (rnF (li A 5) k s))) ∧ h' = h) 2 [some (.ref m), some (.int (nI k)), some (.int s), some (.int (nI n))] [] h 0 := by
    intro z
    induction z with
    | zero =>
      intro n hz hn h1 e
      have e' : n = rnF (li A 5) k s := e
      have e1 : ¬ nI (k + n) < nI (li A 5).length := nI_nlt (by omega) (by omega)
      rw [w_X12_runFrom_2]
      simp only [w_X12_runFrom_3, w_X12_runFrom_4, w_X12_runFrom_5, w_X12_runFrom_6, pm_1i_c, pm_2i_c, pm_1l_c, pm_2l_c, pm_1a_c, pm_ia_c, pm_iia_c, pm_va_c, pm_cp_c, pm_k0_c, pm_k1_c, pm_k2_c, pm_k3_c, pm_s1_c, pm_s2_c, pm_s3_c, pm_s4_c, pm_ri_c, pm_ra_c, pm_rn_c, pm_rk_i, pm_rk_z, pm_rk_a, pm_vk_i, pm_vk_z, pm_vk_a, pm_cti, pm_ctr, pm_ldi_z, pm_ldi_s, pm_lda_z, pm_lda_s, pm_cat_n, pm_cat_i, pm_cat_r, pm_cat_l, pm_obj, pm_arr, pm_opt, pm_ird, pm_aln, List.getElem?_cons_zero, List.getElem?_cons_succ, List.set_cons_zero, List.set_cons_succ, List.length_cons, List.length_nil, List.length_set, true_and, and_true, Nat.add_zero, Nat.zero_add, Nat.le_refl, Nat.reduceAdd, Nat.reduceLT, Nat.reduceLeDiff, Nat.zero_le, not_false_eq_true, not_true_eq_false, false_implies, implies_true, true_implies, Nat.zero_lt_succ, Nat.lt_add_one, H0, nI_add]
      refine PM_use (c_M_pastMany H2 d) ?_
      rintro v g l ⟨rfl, rfl⟩
      show W_X12_runFrom _ _ _ _ _ _ _ _ _
      simp only [w_X12_runFrom_9, w_X12_runFrom_37, w_X12_runFrom_38, pm_1i_c, pm_2i_c, pm_1l_c, pm_2l_c, pm_1a_c, pm_ia_c, pm_iia_c, pm_va_c, pm_cp_c, pm_k0_c, pm_k1_c, pm_k2_c, pm_k3_c, pm_s1_c, pm_s2_c, pm_s3_c, pm_s4_c, pm_ri_c, pm_ra_c, pm_rn_c, pm_rk_i, pm_rk_z, pm_rk_a, pm_vk_i, pm_vk_z, pm_vk_a, pm_cti, pm_ctr, pm_ldi_z, pm_ldi_s, pm_lda_z, pm_lda_s, pm_cat_n, pm_cat_i, pm_cat_r, pm_cat_l, pm_obj, pm_arr, pm_opt, pm_ird, pm_aln, List.getElem?_cons_zero, List.getElem?_cons_succ, List.set_cons_zero, List.set_cons_succ, List.length_cons, List.length_nil, List.length_set, true_and, and_true, Nat.add_zero, Nat.zero_add, Nat.le_refl, Nat.reduceAdd, Nat.reduceLT, Nat.reduceLeDiff, Nat.zero_le, not_false_eq_true, not_true_eq_false, false_implies, implies_true, true_implies, Nat.zero_lt_succ, Nat.lt_add_one, pm_tl_n, pm_tl_s, sc_uL, e1]
      rw [e']
    | succ z ih =>
      intro n hz hn h1 e
      have e1 : nI (k + n) < nI (li A 5).length := nI_lt (by omega) (by omega)
      rw [rnG_s] at e
      rw [w_X12_runFrom_2]
      simp only [w_X12_runFrom_3, w_X12_runFrom_4, w_X12_runFrom_5, w_X12_runFrom_6, pm_1i_c, pm_2i_c, pm_1l_c, pm_2l_c, pm_1a_c, pm_ia_c, pm_iia_c, pm_va_c, pm_cp_c, pm_k0_c, pm_k1_c, pm_k2_c, pm_k3_c, pm_s1_c, pm_s2_c, pm_s3_c, pm_s4_c, pm_ri_c, pm_ra_c, pm_rn_c, pm_rk_i, pm_rk_z, pm_rk_a, pm_vk_i, pm_vk_z, pm_vk_a, pm_cti, pm_ctr, pm_ldi_z, pm_ldi_s, pm_lda_z, pm_lda_s, pm_cat_n, pm_cat_i, pm_cat_r, pm_cat_l, pm_obj, pm_arr, pm_opt, pm_ird, pm_aln, List.getElem?_cons_zero, List.getElem?_cons_succ, List.set_cons_zero, List.set_cons_succ, List.length_cons, List.length_nil, List.length_set, true_and, and_true, Nat.add_zero, Nat.zero_add, Nat.le_refl, Nat.reduceAdd, Nat.reduceLT, Nat.reduceLeDiff, Nat.zero_le, not_false_eq_true, not_true_eq_false, false_implies, implies_true, true_implies, Nat.zero_lt_succ, Nat.lt_add_one, H0, nI_add]
      refine PM_use (c_M_pastMany H2 d) ?_
      rintro v g l ⟨rfl, rfl⟩
      show W_X12_runFrom _ _ _ _ _ _ _ _ _
      simp only [w_X12_runFrom_9, w_X12_runFrom_12, w_X12_runFrom_13, w_X12_runFrom_14, w_X12_runFrom_15, w_X12_runFrom_16, pm_1i_c, pm_2i_c, pm_1l_c, pm_2l_c, pm_1a_c, pm_ia_c, pm_iia_c, pm_va_c, pm_cp_c, pm_k0_c, pm_k1_c, pm_k2_c, pm_k3_c, pm_s1_c, pm_s2_c, pm_s3_c, pm_s4_c, pm_ri_c, pm_ra_c, pm_rn_c, pm_rk_i, pm_rk_z, pm_rk_a, pm_vk_i, pm_vk_z, pm_vk_a, pm_cti, pm_ctr, pm_ldi_z, pm_ldi_s, pm_lda_z, pm_lda_s, pm_cat_n, pm_cat_i, pm_cat_r, pm_cat_l, pm_obj, pm_arr, pm_opt, pm_ird, pm_aln, List.getElem?_cons_zero, List.getElem?_cons_succ, List.set_cons_zero, List.set_cons_succ, List.length_cons, List.length_nil, List.length_set, true_and, and_true, Nat.add_zero, Nat.zero_add, Nat.le_refl, Nat.reduceAdd, Nat.reduceLT, Nat.reduceLeDiff, Nat.zero_le, not_false_eq_true, not_true_eq_false, false_implies, implies_true, true_implies, Nat.zero_lt_succ, Nat.lt_add_one, pm_tl_n, pm_tl_s, sc_uL, e1, H0, nI_add]
      refine PM_use (c_M_pastAt H2 (show k + n < (li A 5).length by omega) d) ?_
      rintro v g l ⟨rfl, rfl⟩
      show W_X12_runFrom _ _ _ _ _ _ _ _ _
      simp only [w_X12_runFrom_19, w_X12_runFrom_20, w_X12_runFrom_21, pm_1i_c, pm_2i_c, pm_1l_c, pm_2l_c, pm_1a_c, pm_ia_c, pm_iia_c, pm_va_c, pm_cp_c, pm_k0_c, pm_k1_c, pm_k2_c, pm_k3_c, pm_s1_c, pm_s2_c, pm_s3_c, pm_s4_c, pm_ri_c, pm_ra_c, pm_rn_c, pm_rk_i, pm_rk_z, pm_rk_a, pm_vk_i, pm_vk_z, pm_vk_a, pm_cti, pm_ctr, pm_ldi_z, pm_ldi_s, pm_lda_z, pm_lda_s, pm_cat_n, pm_cat_i, pm_cat_r, pm_cat_l, pm_obj, pm_arr, pm_opt, pm_ird, pm_aln, List.getElem?_cons_zero, List.getElem?_cons_succ, List.set_cons_zero, List.set_cons_succ, List.length_cons, List.length_nil, List.length_set, true_and, and_true, Nat.add_zero, Nat.zero_add, Nat.le_refl, Nat.reduceAdd, Nat.reduceLT, Nat.reduceLeDiff, Nat.zero_le, not_false_eq_true, not_true_eq_false, false_implies, implies_true, true_implies, Nat.zero_lt_succ, Nat.lt_add_one, pm_tl_n, pm_tl_s, sc_uL, H0]
      refine PM_use (c_M_pastAt H2 hk d) ?_
      rintro v g l ⟨rfl, rfl⟩
      rw [Int32.mul_comm] at e
      by_cases c : (li A 5).getD (k + n) (-1) = (li A 5).getD k (-1) + s * nI n
      · rw [if_pos c] at e
        show W_X12_runFrom _ _ _ _ _ _ _ _ _
        simp only [w_X12_runFrom_24, w_X12_runFrom_25, w_X12_runFrom_26, w_X12_runFrom_27, w_X12_runFrom_28, w_X12_runFrom_31, w_X12_runFrom_34, pm_1i_c, pm_2i_c, pm_1l_c, pm_2l_c, pm_1a_c, pm_ia_c, pm_iia_c, pm_va_c, pm_cp_c, pm_k0_c, pm_k1_c, pm_k2_c, pm_k3_c, pm_s1_c, pm_s2_c, pm_s3_c, pm_s4_c, pm_ri_c, pm_ra_c, pm_rn_c, pm_rk_i, pm_rk_z, pm_rk_a, pm_vk_i, pm_vk_z, pm_vk_a, pm_cti, pm_ctr, pm_ldi_z, pm_ldi_s, pm_lda_z, pm_lda_s, pm_cat_n, pm_cat_i, pm_cat_r, pm_cat_l, pm_obj, pm_arr, pm_opt, pm_ird, pm_aln, List.getElem?_cons_zero, List.getElem?_cons_succ, List.set_cons_zero, List.set_cons_succ, List.length_cons, List.length_nil, List.length_set, true_and, and_true, Nat.add_zero, Nat.zero_add, Nat.le_refl, Nat.reduceAdd, Nat.reduceLT, Nat.reduceLeDiff, Nat.zero_le, not_false_eq_true, not_true_eq_false, false_implies, implies_true, true_implies, Nat.zero_lt_succ, Nat.lt_add_one, pm_tl_n, pm_tl_s, sc_uL, c, nI_1]
        exact ih (n + 1) (by omega) (by omega) (by omega) e
      · rw [if_neg c] at e
        show W_X12_runFrom _ _ _ _ _ _ _ _ _
        simp only [w_X12_runFrom_24, w_X12_runFrom_25, w_X12_runFrom_26, w_X12_runFrom_27, w_X12_runFrom_28, w_X12_runFrom_37, w_X12_runFrom_38, pm_1i_c, pm_2i_c, pm_1l_c, pm_2l_c, pm_1a_c, pm_ia_c, pm_iia_c, pm_va_c, pm_cp_c, pm_k0_c, pm_k1_c, pm_k2_c, pm_k3_c, pm_s1_c, pm_s2_c, pm_s3_c, pm_s4_c, pm_ri_c, pm_ra_c, pm_rn_c, pm_rk_i, pm_rk_z, pm_rk_a, pm_vk_i, pm_vk_z, pm_vk_a, pm_cti, pm_ctr, pm_ldi_z, pm_ldi_s, pm_lda_z, pm_lda_s, pm_cat_n, pm_cat_i, pm_cat_r, pm_cat_l, pm_obj, pm_arr, pm_opt, pm_ird, pm_aln, List.getElem?_cons_zero, List.getElem?_cons_succ, List.set_cons_zero, List.set_cons_succ, List.length_cons, List.length_nil, List.length_set, true_and, and_true, Nat.add_zero, Nat.zero_add, Nat.le_refl, Nat.reduceAdd, Nat.reduceLT, Nat.reduceLeDiff, Nat.zero_le, not_false_eq_true, not_true_eq_false, false_implies, implies_true, true_implies, Nat.zero_lt_succ, Nat.lt_add_one, pm_tl_n, pm_tl_s, sc_uL, c]
        rw [e]
  simp only [w_X12_runFrom_0, w_X12_runFrom_1, pm_1i_c, pm_2i_c, pm_1l_c, pm_2l_c, pm_1a_c, pm_ia_c, pm_iia_c, pm_va_c, pm_cp_c, pm_k0_c, pm_k1_c, pm_k2_c, pm_k3_c, pm_s1_c, pm_s2_c, pm_s3_c, pm_s4_c, pm_ri_c, pm_ra_c, pm_rn_c, pm_rk_i, pm_rk_z, pm_rk_a, pm_vk_i, pm_vk_z, pm_vk_a, pm_cti, pm_ctr, pm_ldi_z, pm_ldi_s, pm_lda_z, pm_lda_s, pm_cat_n, pm_cat_i, pm_cat_r, pm_cat_l, pm_obj, pm_arr, pm_opt, pm_ird, pm_aln, List.getElem?_cons_zero, List.getElem?_cons_succ, List.set_cons_zero, List.set_cons_succ, List.length_cons, List.length_nil, List.length_set, true_and, and_true, Nat.add_zero, Nat.zero_add, Nat.le_refl, Nat.reduceAdd, Nat.reduceLT, Nat.reduceLeDiff, Nat.zero_le, not_false_eq_true, not_true_eq_false, false_implies, implies_true, true_implies, Nat.zero_lt_succ, Nat.lt_add_one]
  exact loop _ 1 rfl (by omega) (Nat.le_refl _) rfl
theorem rnG_at (xs : List Int32) (i : Nat) (s : Int32) : ∀ (f n : Nat), (∀ j, j < n → xs.getD (i + j) (-1) = xs.getD i (-1) + nI j * s) → ∀ j, j < rnG xs i s f n → xs.getD (i + j) (-1) = xs.getD i (-1) + nI j * s
  | 0, n, q => q
  | f + 1, n, q => by
    rw [rnG_s]
    split
    · rename_i c
      refine rnG_at xs i s f (n + 1) (fun j hj => ?_)
      by_cases e : j = n
      · rw [e]
        exact c
      · exact q j (by omega)
    · exact q
theorem rnF_at (xs : List Int32) (i : Nat) (s : Int32) : ∀ j, j < rnF xs i s → xs.getD (i + j) (-1) = xs.getD i (-1) + nI j * s := rnG_at xs i s _ 1 (fun j hj => by
  have : j = 0 := by omega
  subst this
  rw [Nat.add_zero, show nI 0 = 0 from rfl, Int32.zero_mul, Int32.add_zero])
theorem wtA_len (l : List Int32) (k : Nat) (x : Int32) : (wtA l k x).length ≤ l.length + 6 ∧ (wtA l k x).length ≤ l.length + (if 0 < k then 6 else 5) := by
  unfold wtA
  have := wnF_len x
  rw [List.length_append]
  split
  · rw [List.length_append]
    have e : [(32 : Int32)].length = 1 := rfl
    omega
  · omega
theorem wtG_len (xs : List Int32) : ∀ (f k : Nat) (l : List Int32), k ≤ xs.length → l.length ≤ 6 * k → (wtG xs f k l).length ≤ 6 * xs.length
  | 0, k, l, hk, hl => by
    show l.length ≤ _
    omega
  | f + 1, k, l, hk, hl => by
    rw [wtG_s]
    by_cases c : k < xs.length
    · rw [if_pos c]
      obtain ⟨r0, r1⟩ := rnF_le c 0
      obtain ⟨u0, u1⟩ := rnF_le c 1
      have a := (wtA_len l k (xs.getD k (-1))).1
      by_cases c1 : 1 < rnF xs k 0
      · rw [if_pos c1]
        refine wtG_len xs f _ _ r0 ?_
        have b := wnF_len (nI (rnF xs k 0))
        rw [List.length_append, List.length_append]
        have e : [(42 : Int32)].length = 1 := rfl
        omega
      · rw [if_neg c1]
        by_cases c2 : 1 < rnF xs k 1
        · rw [if_pos c2]
          refine wtG_len xs f _ _ u0 ?_
          have b := wnF_len (xs.getD k (-1) + nI (rnF xs k 1) - 1)
          rw [List.length_append, List.length_append]
          have e : [(45 : Int32)].length = 1 := rfl
          omega
        · rw [if_neg c2]
          exact wtG_len xs f _ _ (by omega) (by omega)
    · rw [if_neg c]
      omega
theorem wtF_600 (xs : List Int32) (hl : xs.length ≤ 100) : (wtF xs).take 600 = wtF xs := by
  have := wtG_len xs 100 0 [] (Nat.zero_le _) (Nat.zero_le _)
  exact List.take_of_length_le (by unfold wtF; omega)
set_option maxHeartbeats 1000000 in
theorem c_P_write (C : mm_ h m o A K bs ws) (l5 : (li A 5).length ≤ 100) (hx : ∀ x ∈ li A 5, ∃ n, n < 100000 ∧ x = nI n) (d : Nat) : PM (d + 7) 252 [.ref m] h (rq_ h m A K bs (wtF (li A 5)) (o 0) (o 7) true (nI (wtF (li A 5)).length)) := by
  have H0 := C.ob
  unfold mO at H0
  obtain ⟨h1, e1, l1, F1, C1, H1⟩ := C.th 0
  obtain ⟨xs, hxs⟩ : ∃ xs, xs = li A 5 := ⟨_, rfl⟩
  rw [← hxs] at l5 hx ⊢
  obtain ⟨f, Hf, t1, t2, t3⟩ := C1.tx
  -- nothing is written
  obtain ⟨g, hg⟩ : ∃ g, g = h1.set m (.inr (12, [.ref (m + 1), .ref (m + 2), .ref (m + 3), .int (o 0), .int 0, .ref (m + 4), .int (o 2), .ref (m + 5), .int (o 3), .int (o 4), .int (o 5), .int (o 6), .int (o 7), .int (o 8), .int (o 9), .int (o 10), .ref (m + 6), .ref (m + 7), .ref (m + 8), .int (o 11), .ref (m + 9), .ref (m + 10), .int 0])) := ⟨_, rfl⟩
  have gM : mO g m (upd (upd o 1 0) 12 (nI 0)) := by
    unfold mO
    rw [hg, hset_s, H1]
    rfl
  obtain ⟨C2, F2⟩ := C1.wr (h' := g) (ws' := []) _ gM rfl rfl (fx := f) (by rw [hg, hset_n (by omega)]; exact Hf) (Nat.zero_le _) rfl (fun k hk => absurd hk (Nat.not_lt_zero _)) (fun i a b => by rw [hg, hset_n (Ne.symm a)])
  have lg : g.length = h.length := by rw [hg, List.length_set]; exact l1
  refine en_X12_write rfl ?_
  simp only [w_X12_write_0, w_X12_write_1, w_X12_write_2, w_X12_write_5, w_X12_write_6, w_X12_write_7, w_X12_write_10, w_X12_write_11, pm_1i_c, pm_2i_c, pm_1l_c, pm_2l_c, pm_1a_c, pm_ia_c, pm_iia_c, pm_va_c, pm_cp_c, pm_k0_c, pm_k1_c, pm_k2_c, pm_k3_c, pm_s1_c, pm_s2_c, pm_s3_c, pm_s4_c, pm_ri_c, pm_ra_c, pm_rn_c, pm_rk_i, pm_rk_z, pm_rk_a, pm_vk_i, pm_vk_z, pm_vk_a, pm_cti, pm_ctr, pm_ldi_z, pm_ldi_s, pm_lda_z, pm_lda_s, pm_cat_n, pm_cat_i, pm_cat_r, pm_cat_l, pm_obj, pm_arr, pm_opt, pm_ird, pm_aln, List.getElem?_cons_zero, List.getElem?_cons_succ, List.set_cons_zero, List.set_cons_succ, List.length_cons, List.length_nil, List.length_set, true_and, and_true, Nat.add_zero, Nat.zero_add, Nat.le_refl, Nat.reduceAdd, Nat.reduceLT, Nat.reduceLeDiff, Nat.zero_le, not_false_eq_true, not_true_eq_false, false_implies, implies_true, true_implies, Nat.zero_lt_succ, Nat.lt_add_one, H0, e1, H1, l1]
  rw [← hg]
  have loop : ∀ (j k : Nat) (l : List Int32) (g : pmH) (x2 x3 : Option Value), xs.length - k ≤ j → k ≤ xs.length → l.length ≤ 6 * k → mm_ g m (upd (upd o 1 0) 12 (nI l.length)) A K bs l → frM h g m → g.length = h.length → wtG xs j k l = wtF xs → W_X12_write (d + 6) h.length 0 (rq_ h m A K bs (wtF xs) (o 0) (o 7) true (nI (wtF xs).length)) 12 [some (.ref m), some (.int (nI k)), x2, x3] [] g 0 := by
    intro j
    induction j with
    | zero =>
      intro k l g x2 x3 hj hk hl M F lg e
      have : k = xs.length := by omega
      subst this
      have e' : l = wtF xs := e
      subst e'
      have M0 : g[m]? = some (.inr (12, [.ref (m + 1), .ref (m + 2), .ref (m + 3), .int (o 0), .int 0, .ref (m + 4), .int (o 2), .ref (m + 5), .int (o 3), .int (o 4), .int (o 5), .int (o 6), .int (o 7), .int (o 8), .int (o 9), .int (o 10), .ref (m + 6), .ref (m + 7), .ref (m + 8), .int (o 11), .ref (m + 9), .ref (m + 10), .int (nI (wtF xs).length)])) := M.1
      rw [w_X12_write_12]
      simp only [w_X12_write_13, w_X12_write_14, pm_1i_c, pm_2i_c, pm_1l_c, pm_2l_c, pm_1a_c, pm_ia_c, pm_iia_c, pm_va_c, pm_cp_c, pm_k0_c, pm_k1_c, pm_k2_c, pm_k3_c, pm_s1_c, pm_s2_c, pm_s3_c, pm_s4_c, pm_ri_c, pm_ra_c, pm_rn_c, pm_rk_i, pm_rk_z, pm_rk_a, pm_vk_i, pm_vk_z, pm_vk_a, pm_cti, pm_ctr, pm_ldi_z, pm_ldi_s, pm_lda_z, pm_lda_s, pm_cat_n, pm_cat_i, pm_cat_r, pm_cat_l, pm_obj, pm_arr, pm_opt, pm_ird, pm_aln, List.getElem?_cons_zero, List.getElem?_cons_succ, List.set_cons_zero, List.set_cons_succ, List.length_cons, List.length_nil, List.length_set, true_and, and_true, Nat.add_zero, Nat.zero_add, Nat.le_refl, Nat.reduceAdd, Nat.reduceLT, Nat.reduceLeDiff, Nat.zero_le, not_false_eq_true, not_true_eq_false, false_implies, implies_true, true_implies, Nat.zero_lt_succ, Nat.lt_add_one, M0, lg]
      refine PM_use (c_M_pastMany M.md (d + 5)) ?_
      rintro v g2 k2 ⟨rfl, rfl⟩
      rw [← hxs]
      show W_X12_write _ _ _ _ _ _ _ _ _
      simp only [w_X12_write_17, w_X12_write_112, w_X12_write_113, w_X12_write_116, pm_1i_c, pm_2i_c, pm_1l_c, pm_2l_c, pm_1a_c, pm_ia_c, pm_iia_c, pm_va_c, pm_cp_c, pm_k0_c, pm_k1_c, pm_k2_c, pm_k3_c, pm_s1_c, pm_s2_c, pm_s3_c, pm_s4_c, pm_ri_c, pm_ra_c, pm_rn_c, pm_rk_i, pm_rk_z, pm_rk_a, pm_vk_i, pm_vk_z, pm_vk_a, pm_cti, pm_ctr, pm_ldi_z, pm_ldi_s, pm_lda_z, pm_lda_s, pm_cat_n, pm_cat_i, pm_cat_r, pm_cat_l, pm_obj, pm_arr, pm_opt, pm_ird, pm_aln, List.getElem?_cons_zero, List.getElem?_cons_succ, List.set_cons_zero, List.set_cons_succ, List.length_cons, List.length_nil, List.length_set, true_and, and_true, Nat.add_zero, Nat.zero_add, Nat.le_refl, Nat.reduceAdd, Nat.reduceLT, Nat.reduceLeDiff, Nat.zero_le, not_false_eq_true, not_true_eq_false, false_implies, implies_true, true_implies, Nat.zero_lt_succ, Nat.lt_add_one, pm_tl_n, pm_tl_s, sc_uL, show ¬ nI xs.length < nI xs.length from nI_nlt (Nat.le_refl _) (by omega), M0, lg]
      exact rq_T ⟨⟨_, M, rfl, rfl, rfl⟩, F⟩
    | succ j ih =>
      intro k l g x2 x3 hj hk hl M F lg e
      have M0 : g[m]? = some (.inr (12, [.ref (m + 1), .ref (m + 2), .ref (m + 3), .int (o 0), .int 0, .ref (m + 4), .int (o 2), .ref (m + 5), .int (o 3), .int (o 4), .int (o 5), .int (o 6), .int (o 7), .int (o 8), .int (o 9), .int (o 10), .ref (m + 6), .ref (m + 7), .ref (m + 8), .int (o 11), .ref (m + 9), .ref (m + 10), .int (nI l.length)])) := M.1
      rw [wtG_s] at e
      by_cases c : k < xs.length
      · rw [if_pos c] at e
        have c5 : k < (li A 5).length := by rw [← hxs]; exact c
        obtain ⟨r0, r1⟩ := rnF_le c 0
        obtain ⟨u0, u1⟩ := rnF_le c 1
        have al := (wtA_len l k (xs.getD k (-1))).1
        obtain ⟨n, n1, n2⟩ := hx _ (getD_mem c)
        -- the number, and what is behind it
        have body : ∀ (g : pmH) (l2 : List Int32), l2 = (if 0 < k then l ++ [32] else l) → mm_ g m (upd (upd o 1 0) 12 (nI l2.length)) A K bs l2 → frM h g m → g.length = h.length → W_X12_write (d + 6) h.length 0 (rq_ h m A K bs (wtF xs) (o 0) (o 7) true (nI (wtF xs).length)) 30 [some (.ref m), some (.int (nI k)), x2, x3] [] g 0 := by
          intro g l2 hl2 M F lg
          have hl2' : l2.length ≤ 6 * k + 1 := by
            rw [hl2]
            split
            · rw [List.length_append]
              have : [(32 : Int32)].length = 1 := rfl
              omega
            · omega
          have M0 : g[m]? = some (.inr (12, [.ref (m + 1), .ref (m + 2), .ref (m + 3), .int (o 0), .int 0, .ref (m + 4), .int (o 2), .ref (m + 5), .int (o 3), .int (o 4), .int (o 5), .int (o 6), .int (o 7), .int (o 8), .int (o 9), .int (o 10), .ref (m + 6), .ref (m + 7), .ref (m + 8), .int (o 11), .ref (m + 9), .ref (m + 10), .int (nI l2.length)])) := M.1
          simp only [w_X12_write_30, w_X12_write_31, w_X12_write_32, w_X12_write_33, pm_1i_c, pm_2i_c, pm_1l_c, pm_2l_c, pm_1a_c, pm_ia_c, pm_iia_c, pm_va_c, pm_cp_c, pm_k0_c, pm_k1_c, pm_k2_c, pm_k3_c, pm_s1_c, pm_s2_c, pm_s3_c, pm_s4_c, pm_ri_c, pm_ra_c, pm_rn_c, pm_rk_i, pm_rk_z, pm_rk_a, pm_vk_i, pm_vk_z, pm_vk_a, pm_cti, pm_ctr, pm_ldi_z, pm_ldi_s, pm_lda_z, pm_lda_s, pm_cat_n, pm_cat_i, pm_cat_r, pm_cat_l, pm_obj, pm_arr, pm_opt, pm_ird, pm_aln, List.getElem?_cons_zero, List.getElem?_cons_succ, List.set_cons_zero, List.set_cons_succ, List.length_cons, List.length_nil, List.length_set, true_and, and_true, Nat.add_zero, Nat.zero_add, Nat.le_refl, Nat.reduceAdd, Nat.reduceLT, Nat.reduceLeDiff, Nat.zero_le, not_false_eq_true, not_true_eq_false, false_implies, implies_true, true_implies, Nat.zero_lt_succ, Nat.lt_add_one, M0, lg]
          refine PM_use (c_M_runFrom M.md c5 0 (d + 4)) ?_
          rintro v g2 k2 ⟨rfl, rfl⟩
          rw [← hxs]
          show W_X12_write _ _ _ _ _ _ _ _ _
          simp only [w_X12_write_36, w_X12_write_37, w_X12_write_38, w_X12_write_39, w_X12_write_40, pm_1i_c, pm_2i_c, pm_1l_c, pm_2l_c, pm_1a_c, pm_ia_c, pm_iia_c, pm_va_c, pm_cp_c, pm_k0_c, pm_k1_c, pm_k2_c, pm_k3_c, pm_s1_c, pm_s2_c, pm_s3_c, pm_s4_c, pm_ri_c, pm_ra_c, pm_rn_c, pm_rk_i, pm_rk_z, pm_rk_a, pm_vk_i, pm_vk_z, pm_vk_a, pm_cti, pm_ctr, pm_ldi_z, pm_ldi_s, pm_lda_z, pm_lda_s, pm_cat_n, pm_cat_i, pm_cat_r, pm_cat_l, pm_obj, pm_arr, pm_opt, pm_ird, pm_aln, List.getElem?_cons_zero, List.getElem?_cons_succ, List.set_cons_zero, List.set_cons_succ, List.length_cons, List.length_nil, List.length_set, true_and, and_true, Nat.add_zero, Nat.zero_add, Nat.le_refl, Nat.reduceAdd, Nat.reduceLT, Nat.reduceLeDiff, Nat.zero_le, not_false_eq_true, not_true_eq_false, false_implies, implies_true, true_implies, Nat.zero_lt_succ, Nat.lt_add_one, pm_tl_n, pm_tl_s, sc_uL, M0, lg]
          refine PM_use (c_M_runFrom M.md c5 1 (d + 4)) ?_
          rintro v g2 k2 ⟨rfl, rfl⟩
          rw [← hxs]
          show W_X12_write _ _ _ _ _ _ _ _ _
          simp only [w_X12_write_43, w_X12_write_44, w_X12_write_45, w_X12_write_46, w_X12_write_47, pm_1i_c, pm_2i_c, pm_1l_c, pm_2l_c, pm_1a_c, pm_ia_c, pm_iia_c, pm_va_c, pm_cp_c, pm_k0_c, pm_k1_c, pm_k2_c, pm_k3_c, pm_s1_c, pm_s2_c, pm_s3_c, pm_s4_c, pm_ri_c, pm_ra_c, pm_rn_c, pm_rk_i, pm_rk_z, pm_rk_a, pm_vk_i, pm_vk_z, pm_vk_a, pm_cti, pm_ctr, pm_ldi_z, pm_ldi_s, pm_lda_z, pm_lda_s, pm_cat_n, pm_cat_i, pm_cat_r, pm_cat_l, pm_obj, pm_arr, pm_opt, pm_ird, pm_aln, List.getElem?_cons_zero, List.getElem?_cons_succ, List.set_cons_zero, List.set_cons_succ, List.length_cons, List.length_nil, List.length_set, true_and, and_true, Nat.add_zero, Nat.zero_add, Nat.le_refl, Nat.reduceAdd, Nat.reduceLT, Nat.reduceLeDiff, Nat.zero_le, not_false_eq_true, not_true_eq_false, false_implies, implies_true, true_implies, Nat.zero_lt_succ, Nat.lt_add_one, pm_tl_n, pm_tl_s, sc_uL, M0, lg]
          refine PM_use (c_M_pastAt M.md c5 (d + 5)) ?_
          rintro v g2 k2 ⟨rfl, rfl⟩
          rw [← hxs, n2]
          show W_X12_write _ _ _ _ _ _ _ _ _
          simp only [w_X12_write_50, pm_1i_c, pm_2i_c, pm_1l_c, pm_2l_c, pm_1a_c, pm_ia_c, pm_iia_c, pm_va_c, pm_cp_c, pm_k0_c, pm_k1_c, pm_k2_c, pm_k3_c, pm_s1_c, pm_s2_c, pm_s3_c, pm_s4_c, pm_ri_c, pm_ra_c, pm_rn_c, pm_rk_i, pm_rk_z, pm_rk_a, pm_vk_i, pm_vk_z, pm_vk_a, pm_cti, pm_ctr, pm_ldi_z, pm_ldi_s, pm_lda_z, pm_lda_s, pm_cat_n, pm_cat_i, pm_cat_r, pm_cat_l, pm_obj, pm_arr, pm_opt, pm_ird, pm_aln, List.getElem?_cons_zero, List.getElem?_cons_succ, List.set_cons_zero, List.set_cons_succ, List.length_cons, List.length_nil, List.length_set, true_and, and_true, Nat.add_zero, Nat.zero_add, Nat.le_refl, Nat.reduceAdd, Nat.reduceLT, Nat.reduceLeDiff, Nat.zero_le, not_false_eq_true, not_true_eq_false, false_implies, implies_true, true_implies, Nat.zero_lt_succ, Nat.lt_add_one, pm_tl_n, pm_tl_s, sc_uL, M0, lg]
          have S1 := c_M_saysNumber (m := m) (A := A) (K := K) (bs := bs) 4 n n1 (by omega) d g2 _ l2 M (by omega)
          refine PM_use (S1) ?_
          rintro v g3 k3 ⟨rfl, K1, K2⟩
          have eA : l2 ++ wnF (nI n) = wtA l k (xs.getD k (-1)) := by
            unfold wtA
            rw [hl2, n2]
          rw [eA, upd_upd] at K1
          have N0 : g3[m]? = some (.inr (12, [.ref (m + 1), .ref (m + 2), .ref (m + 3), .int (o 0), .int 0, .ref (m + 4), .int (o 2), .ref (m + 5), .int (o 3), .int (o 4), .int (o 5), .int (o 6), .int (o 7), .int (o 8), .int (o 9), .int (o 10), .ref (m + 6), .ref (m + 7), .ref (m + 8), .int (o 11), .ref (m + 9), .ref (m + 10), .int (nI (wtA l k (xs.getD k (-1))).length)])) := K1.1
          by_cases c1 : 1 < rnF xs k 0
          · rw [if_pos c1] at e
            have c1' : (1 : Int32) < nI (rnF xs k 0) := nI_lt (a := 1) c1 (by omega)
            show W_X12_write _ _ _ _ _ _ _ _ _
            simp only [w_X12_write_53, w_X12_write_54, w_X12_write_55, w_X12_write_58, w_X12_write_59, w_X12_write_61, pm_1i_c, pm_2i_c, pm_1l_c, pm_2l_c, pm_1a_c, pm_ia_c, pm_iia_c, pm_va_c, pm_cp_c, pm_k0_c, pm_k1_c, pm_k2_c, pm_k3_c, pm_s1_c, pm_s2_c, pm_s3_c, pm_s4_c, pm_ri_c, pm_ra_c, pm_rn_c, pm_rk_i, pm_rk_z, pm_rk_a, pm_vk_i, pm_vk_z, pm_vk_a, pm_cti, pm_ctr, pm_ldi_z, pm_ldi_s, pm_lda_z, pm_lda_s, pm_cat_n, pm_cat_i, pm_cat_r, pm_cat_l, pm_obj, pm_arr, pm_opt, pm_ird, pm_aln, List.getElem?_cons_zero, List.getElem?_cons_succ, List.set_cons_zero, List.set_cons_succ, List.length_cons, List.length_nil, List.length_set, true_and, and_true, Nat.add_zero, Nat.zero_add, Nat.le_refl, Nat.reduceAdd, Nat.reduceLT, Nat.reduceLeDiff, Nat.zero_le, not_false_eq_true, not_true_eq_false, false_implies, implies_true, true_implies, Nat.zero_lt_succ, Nat.lt_add_one, pm_tl_n, pm_tl_s, sc_uL, c1', N0, lg, k3]
            have S2 := c_M_says K1 (by omega) (n := 42) (by omega) (d + 5)
            refine PM_use (S2) ?_
            rintro v g4 k4 ⟨rfl, K3, K4⟩
            rw [upd_upd] at K3
            have ll : (wtA l k (xs.getD k (-1)) ++ [nI 42]).length = (wtA l k (xs.getD k (-1))).length + 1 := by rw [List.length_append]; rfl
            have O0 : g4[m]? = some (.inr (12, [.ref (m + 1), .ref (m + 2), .ref (m + 3), .int (o 0), .int 0, .ref (m + 4), .int (o 2), .ref (m + 5), .int (o 3), .int (o 4), .int (o 5), .int (o 6), .int (o 7), .int (o 8), .int (o 9), .int (o 10), .ref (m + 6), .ref (m + 7), .ref (m + 8), .int (o 11), .ref (m + 9), .ref (m + 10), .int (nI ((wtA l k (xs.getD k (-1))).length + 1))])) := K3.1
            show W_X12_write _ _ _ _ _ _ _ _ _
            simp only [w_X12_write_64, w_X12_write_65, w_X12_write_66, pm_1i_c, pm_2i_c, pm_1l_c, pm_2l_c, pm_1a_c, pm_ia_c, pm_iia_c, pm_va_c, pm_cp_c, pm_k0_c, pm_k1_c, pm_k2_c, pm_k3_c, pm_s1_c, pm_s2_c, pm_s3_c, pm_s4_c, pm_ri_c, pm_ra_c, pm_rn_c, pm_rk_i, pm_rk_z, pm_rk_a, pm_vk_i, pm_vk_z, pm_vk_a, pm_cti, pm_ctr, pm_ldi_z, pm_ldi_s, pm_lda_z, pm_lda_s, pm_cat_n, pm_cat_i, pm_cat_r, pm_cat_l, pm_obj, pm_arr, pm_opt, pm_ird, pm_aln, List.getElem?_cons_zero, List.getElem?_cons_succ, List.set_cons_zero, List.set_cons_succ, List.length_cons, List.length_nil, List.length_set, true_and, and_true, Nat.add_zero, Nat.zero_add, Nat.le_refl, Nat.reduceAdd, Nat.reduceLT, Nat.reduceLeDiff, Nat.zero_le, not_false_eq_true, not_true_eq_false, false_implies, implies_true, true_implies, Nat.zero_lt_succ, Nat.lt_add_one, pm_tl_n, pm_tl_s, sc_uL, O0, lg, k3, k4]
            have S3 := c_M_saysNumber (m := m) (A := A) (K := K) (bs := bs) 4 (rnF xs k 0) (by omega) (by omega) d g4 _ _ K3 (by omega)
            refine PM_use (S3) ?_
            rintro v g5 k5 ⟨rfl, K5, K6⟩
            rw [upd_upd] at K5
            show W_X12_write _ _ _ _ _ _ _ _ _
            simp only [w_X12_write_69, w_X12_write_96, w_X12_write_97, w_X12_write_98, w_X12_write_99, w_X12_write_102, w_X12_write_103, w_X12_write_106, w_X12_write_107, w_X12_write_108, w_X12_write_109, pm_1i_c, pm_2i_c, pm_1l_c, pm_2l_c, pm_1a_c, pm_ia_c, pm_iia_c, pm_va_c, pm_cp_c, pm_k0_c, pm_k1_c, pm_k2_c, pm_k3_c, pm_s1_c, pm_s2_c, pm_s3_c, pm_s4_c, pm_ri_c, pm_ra_c, pm_rn_c, pm_rk_i, pm_rk_z, pm_rk_a, pm_vk_i, pm_vk_z, pm_vk_a, pm_cti, pm_ctr, pm_ldi_z, pm_ldi_s, pm_lda_z, pm_lda_s, pm_cat_n, pm_cat_i, pm_cat_r, pm_cat_l, pm_obj, pm_arr, pm_opt, pm_ird, pm_aln, List.getElem?_cons_zero, List.getElem?_cons_succ, List.set_cons_zero, List.set_cons_succ, List.length_cons, List.length_nil, List.length_set, true_and, and_true, Nat.add_zero, Nat.zero_add, Nat.le_refl, Nat.reduceAdd, Nat.reduceLT, Nat.reduceLeDiff, Nat.zero_le, not_false_eq_true, not_true_eq_false, false_implies, implies_true, true_implies, Nat.zero_lt_succ, Nat.lt_add_one, pm_tl_n, pm_tl_s, sc_uL, c1', lg, k3, k4, k5, nI_add]
            refine ih (k + rnF xs k 0) _ g5 _ _ (by omega) r0 ?_ K5 (((F.tr K2).tr K4).tr K6) (by omega) e
            have b := wnF_len (nI (rnF xs k 0))
            rw [List.length_append]
            omega
          · rw [if_neg c1] at e
            have c1' : ¬ (1 : Int32) < nI (rnF xs k 0) := nI_nlt (b := rnF xs k 0) (a := 1) (by omega) (by omega)
            by_cases c2 : 1 < rnF xs k 1
            · rw [if_pos c2] at e
              have c2' : (1 : Int32) < nI (rnF xs k 1) := nI_lt (a := 1) c2 (by omega)
              show W_X12_write _ _ _ _ _ _ _ _ _
              simp only [w_X12_write_53, w_X12_write_54, w_X12_write_55, w_X12_write_72, w_X12_write_73, w_X12_write_74, w_X12_write_77, w_X12_write_78, w_X12_write_80, pm_1i_c, pm_2i_c, pm_1l_c, pm_2l_c, pm_1a_c, pm_ia_c, pm_iia_c, pm_va_c, pm_cp_c, pm_k0_c, pm_k1_c, pm_k2_c, pm_k3_c, pm_s1_c, pm_s2_c, pm_s3_c, pm_s4_c, pm_ri_c, pm_ra_c, pm_rn_c, pm_rk_i, pm_rk_z, pm_rk_a, pm_vk_i, pm_vk_z, pm_vk_a, pm_cti, pm_ctr, pm_ldi_z, pm_ldi_s, pm_lda_z, pm_lda_s, pm_cat_n, pm_cat_i, pm_cat_r, pm_cat_l, pm_obj, pm_arr, pm_opt, pm_ird, pm_aln, List.getElem?_cons_zero, List.getElem?_cons_succ, List.set_cons_zero, List.set_cons_succ, List.length_cons, List.length_nil, List.length_set, true_and, and_true, Nat.add_zero, Nat.zero_add, Nat.le_refl, Nat.reduceAdd, Nat.reduceLT, Nat.reduceLeDiff, Nat.zero_le, not_false_eq_true, not_true_eq_false, false_implies, implies_true, true_implies, Nat.zero_lt_succ, Nat.lt_add_one, pm_tl_n, pm_tl_s, sc_uL, c1', c2', N0, lg, k3]
              have S2 := c_M_says K1 (by omega) (n := 45) (by omega) (d + 5)
              refine PM_use (S2) ?_
              rintro v g4 k4 ⟨rfl, K3, K4⟩
              rw [upd_upd] at K3
              have ll : (wtA l k (xs.getD k (-1)) ++ [nI 45]).length = (wtA l k (xs.getD k (-1))).length + 1 := by rw [List.length_append]; rfl
              have O0 : g4[m]? = some (.inr (12, [.ref (m + 1), .ref (m + 2), .ref (m + 3), .int (o 0), .int 0, .ref (m + 4), .int (o 2), .ref (m + 5), .int (o 3), .int (o 4), .int (o 5), .int (o 6), .int (o 7), .int (o 8), .int (o 9), .int (o 10), .ref (m + 6), .ref (m + 7), .ref (m + 8), .int (o 11), .ref (m + 9), .ref (m + 10), .int (nI ((wtA l k (xs.getD k (-1))).length + 1))])) := K3.1
              show W_X12_write _ _ _ _ _ _ _ _ _
              simp only [w_X12_write_83, w_X12_write_84, w_X12_write_85, w_X12_write_86, pm_1i_c, pm_2i_c, pm_1l_c, pm_2l_c, pm_1a_c, pm_ia_c, pm_iia_c, pm_va_c, pm_cp_c, pm_k0_c, pm_k1_c, pm_k2_c, pm_k3_c, pm_s1_c, pm_s2_c, pm_s3_c, pm_s4_c, pm_ri_c, pm_ra_c, pm_rn_c, pm_rk_i, pm_rk_z, pm_rk_a, pm_vk_i, pm_vk_z, pm_vk_a, pm_cti, pm_ctr, pm_ldi_z, pm_ldi_s, pm_lda_z, pm_lda_s, pm_cat_n, pm_cat_i, pm_cat_r, pm_cat_l, pm_obj, pm_arr, pm_opt, pm_ird, pm_aln, List.getElem?_cons_zero, List.getElem?_cons_succ, List.set_cons_zero, List.set_cons_succ, List.length_cons, List.length_nil, List.length_set, true_and, and_true, Nat.add_zero, Nat.zero_add, Nat.le_refl, Nat.reduceAdd, Nat.reduceLT, Nat.reduceLeDiff, Nat.zero_le, not_false_eq_true, not_true_eq_false, false_implies, implies_true, true_implies, Nat.zero_lt_succ, Nat.lt_add_one, pm_tl_n, pm_tl_s, sc_uL, O0, lg, k3, k4]
              refine PM_use (c_M_pastAt K3.md c5 (d + 5)) ?_
              rintro v g6 k6 ⟨rfl, rfl⟩
              rw [← hxs]
              -- the last key of the run is an ask's
              have ra := rnF_at xs k 1 (rnF xs k 1 - 1) (by omega)
              have eL : xs.getD k (-1) + nI (rnF xs k 1) - 1 = xs.getD (k + (rnF xs k 1 - 1)) (-1) := by
                rw [ra, Int32.mul_one, n2]
                obtain ⟨u, hu⟩ : ∃ u, u = rnF xs k 1 := ⟨_, rfl⟩
                rw [← hu] at c2 ⊢
                rw [nI_add, nI_add, nI_one, pk_sub (by omega)]
                congr 1
                omega
              obtain ⟨p, p1, p2⟩ := hx (xs.getD (k + (rnF xs k 1 - 1)) (-1)) (getD_mem (by omega))
              have eP : xs.getD k (-1) + nI (rnF xs k 1) - 1 = nI p := eL.trans p2
              rw [eP] at e
              show W_X12_write _ _ _ _ _ _ _ _ _
              simp only [w_X12_write_89, w_X12_write_90, w_X12_write_91, w_X12_write_92, w_X12_write_93, pm_1i_c, pm_2i_c, pm_1l_c, pm_2l_c, pm_1a_c, pm_ia_c, pm_iia_c, pm_va_c, pm_cp_c, pm_k0_c, pm_k1_c, pm_k2_c, pm_k3_c, pm_s1_c, pm_s2_c, pm_s3_c, pm_s4_c, pm_ri_c, pm_ra_c, pm_rn_c, pm_rk_i, pm_rk_z, pm_rk_a, pm_vk_i, pm_vk_z, pm_vk_a, pm_cti, pm_ctr, pm_ldi_z, pm_ldi_s, pm_lda_z, pm_lda_s, pm_cat_n, pm_cat_i, pm_cat_r, pm_cat_l, pm_obj, pm_arr, pm_opt, pm_ird, pm_aln, List.getElem?_cons_zero, List.getElem?_cons_succ, List.set_cons_zero, List.set_cons_succ, List.length_cons, List.length_nil, List.length_set, true_and, and_true, Nat.add_zero, Nat.zero_add, Nat.le_refl, Nat.reduceAdd, Nat.reduceLT, Nat.reduceLeDiff, Nat.zero_le, not_false_eq_true, not_true_eq_false, false_implies, implies_true, true_implies, Nat.zero_lt_succ, Nat.lt_add_one, pm_tl_n, pm_tl_s, sc_uL, eP, O0, lg, k3, k4]
              have S3 := c_M_saysNumber (m := m) (A := A) (K := K) (bs := bs) 4 p p1 (by omega) d g6 _ _ K3 (by omega)
              refine PM_use (S3) ?_
              rintro v g5 k5 ⟨rfl, K5, K6⟩
              rw [upd_upd] at K5
              show W_X12_write _ _ _ _ _ _ _ _ _
              simp only [w_X12_write_96, w_X12_write_97, w_X12_write_98, w_X12_write_99, w_X12_write_102, w_X12_write_103, w_X12_write_106, w_X12_write_107, w_X12_write_108, w_X12_write_109, pm_1i_c, pm_2i_c, pm_1l_c, pm_2l_c, pm_1a_c, pm_ia_c, pm_iia_c, pm_va_c, pm_cp_c, pm_k0_c, pm_k1_c, pm_k2_c, pm_k3_c, pm_s1_c, pm_s2_c, pm_s3_c, pm_s4_c, pm_ri_c, pm_ra_c, pm_rn_c, pm_rk_i, pm_rk_z, pm_rk_a, pm_vk_i, pm_vk_z, pm_vk_a, pm_cti, pm_ctr, pm_ldi_z, pm_ldi_s, pm_lda_z, pm_lda_s, pm_cat_n, pm_cat_i, pm_cat_r, pm_cat_l, pm_obj, pm_arr, pm_opt, pm_ird, pm_aln, List.getElem?_cons_zero, List.getElem?_cons_succ, List.set_cons_zero, List.set_cons_succ, List.length_cons, List.length_nil, List.length_set, true_and, and_true, Nat.add_zero, Nat.zero_add, Nat.le_refl, Nat.reduceAdd, Nat.reduceLT, Nat.reduceLeDiff, Nat.zero_le, not_false_eq_true, not_true_eq_false, false_implies, implies_true, true_implies, Nat.zero_lt_succ, Nat.lt_add_one, pm_tl_n, pm_tl_s, sc_uL, c1', lg, k3, k4, k5, nI_add]
              refine ih (k + rnF xs k 1) _ g5 _ _ (by omega) u0 ?_ K5 (((F.tr K2).tr K4).tr K6) (by omega) e
              have b := wnF_len (nI p)
              rw [List.length_append]
              omega
            · rw [if_neg c2] at e
              have c2' : ¬ (1 : Int32) < nI (rnF xs k 1) := nI_nlt (b := rnF xs k 1) (a := 1) (by omega) (by omega)
              have e3 : rnF xs k 1 = 1 := by omega
              show W_X12_write _ _ _ _ _ _ _ _ _
              simp only [w_X12_write_53, w_X12_write_54, w_X12_write_55, w_X12_write_72, w_X12_write_73, w_X12_write_74, w_X12_write_96, w_X12_write_97, w_X12_write_98, w_X12_write_99, w_X12_write_102, w_X12_write_103, w_X12_write_106, w_X12_write_107, w_X12_write_108, w_X12_write_109, pm_1i_c, pm_2i_c, pm_1l_c, pm_2l_c, pm_1a_c, pm_ia_c, pm_iia_c, pm_va_c, pm_cp_c, pm_k0_c, pm_k1_c, pm_k2_c, pm_k3_c, pm_s1_c, pm_s2_c, pm_s3_c, pm_s4_c, pm_ri_c, pm_ra_c, pm_rn_c, pm_rk_i, pm_rk_z, pm_rk_a, pm_vk_i, pm_vk_z, pm_vk_a, pm_cti, pm_ctr, pm_ldi_z, pm_ldi_s, pm_lda_z, pm_lda_s, pm_cat_n, pm_cat_i, pm_cat_r, pm_cat_l, pm_obj, pm_arr, pm_opt, pm_ird, pm_aln, List.getElem?_cons_zero, List.getElem?_cons_succ, List.set_cons_zero, List.set_cons_succ, List.length_cons, List.length_nil, List.length_set, true_and, and_true, Nat.add_zero, Nat.zero_add, Nat.le_refl, Nat.reduceAdd, Nat.reduceLT, Nat.reduceLeDiff, Nat.zero_le, not_false_eq_true, not_true_eq_false, false_implies, implies_true, true_implies, Nat.zero_lt_succ, Nat.lt_add_one, pm_tl_n, pm_tl_s, sc_uL, c1', c2', lg, k3, nI_add]
              rw [e3]
              exact ih (k + 1) _ g3 _ _ (by omega) (by omega) (by omega) K1 (F.tr K2) (by omega) e
        rw [w_X12_write_12]
        simp only [w_X12_write_13, w_X12_write_14, pm_1i_c, pm_2i_c, pm_1l_c, pm_2l_c, pm_1a_c, pm_ia_c, pm_iia_c, pm_va_c, pm_cp_c, pm_k0_c, pm_k1_c, pm_k2_c, pm_k3_c, pm_s1_c, pm_s2_c, pm_s3_c, pm_s4_c, pm_ri_c, pm_ra_c, pm_rn_c, pm_rk_i, pm_rk_z, pm_rk_a, pm_vk_i, pm_vk_z, pm_vk_a, pm_cti, pm_ctr, pm_ldi_z, pm_ldi_s, pm_lda_z, pm_lda_s, pm_cat_n, pm_cat_i, pm_cat_r, pm_cat_l, pm_obj, pm_arr, pm_opt, pm_ird, pm_aln, List.getElem?_cons_zero, List.getElem?_cons_succ, List.set_cons_zero, List.set_cons_succ, List.length_cons, List.length_nil, List.length_set, true_and, and_true, Nat.add_zero, Nat.zero_add, Nat.le_refl, Nat.reduceAdd, Nat.reduceLT, Nat.reduceLeDiff, Nat.zero_le, not_false_eq_true, not_true_eq_false, false_implies, implies_true, true_implies, Nat.zero_lt_succ, Nat.lt_add_one, M0, lg]
        refine PM_use (c_M_pastMany M.md (d + 5)) ?_
        rintro v g2 k2 ⟨rfl, rfl⟩
        rw [← hxs]
        by_cases k0 : 0 < k
        · have k0' : (0 : Int32) < nI k := nI_lt (a := 0) k0 (by omega)
          show W_X12_write _ _ _ _ _ _ _ _ _
          simp only [w_X12_write_17, w_X12_write_20, w_X12_write_21, w_X12_write_24, w_X12_write_25, w_X12_write_27, pm_1i_c, pm_2i_c, pm_1l_c, pm_2l_c, pm_1a_c, pm_ia_c, pm_iia_c, pm_va_c, pm_cp_c, pm_k0_c, pm_k1_c, pm_k2_c, pm_k3_c, pm_s1_c, pm_s2_c, pm_s3_c, pm_s4_c, pm_ri_c, pm_ra_c, pm_rn_c, pm_rk_i, pm_rk_z, pm_rk_a, pm_vk_i, pm_vk_z, pm_vk_a, pm_cti, pm_ctr, pm_ldi_z, pm_ldi_s, pm_lda_z, pm_lda_s, pm_cat_n, pm_cat_i, pm_cat_r, pm_cat_l, pm_obj, pm_arr, pm_opt, pm_ird, pm_aln, List.getElem?_cons_zero, List.getElem?_cons_succ, List.set_cons_zero, List.set_cons_succ, List.length_cons, List.length_nil, List.length_set, true_and, and_true, Nat.add_zero, Nat.zero_add, Nat.le_refl, Nat.reduceAdd, Nat.reduceLT, Nat.reduceLeDiff, Nat.zero_le, not_false_eq_true, not_true_eq_false, false_implies, implies_true, true_implies, Nat.zero_lt_succ, Nat.lt_add_one, pm_tl_n, pm_tl_s, sc_uL, show nI k < nI xs.length from nI_lt c (by omega), k0', M0, lg]
          have S0 := c_M_says M (by omega) (n := 32) (by omega) (d + 5)
          refine PM_use (S0) ?_
          rintro v g3 k3 ⟨rfl, K1, K2⟩
          rw [upd_upd] at K1
          have ll : (l ++ [nI 32]).length = l.length + 1 := by rw [List.length_append]; rfl
          rw [← ll] at K1
          have B0 := body g3 (l ++ [nI 32]) (by rw [if_pos k0]; rfl) K1 (F.tr K2) (by omega)
          exact B0
        · have k0' : ¬ (0 : Int32) < nI k := nI_nlt (b := k) (a := 0) (by omega) (by omega)
          show W_X12_write _ _ _ _ _ _ _ _ _
          simp only [w_X12_write_17, w_X12_write_20, w_X12_write_21, pm_1i_c, pm_2i_c, pm_1l_c, pm_2l_c, pm_1a_c, pm_ia_c, pm_iia_c, pm_va_c, pm_cp_c, pm_k0_c, pm_k1_c, pm_k2_c, pm_k3_c, pm_s1_c, pm_s2_c, pm_s3_c, pm_s4_c, pm_ri_c, pm_ra_c, pm_rn_c, pm_rk_i, pm_rk_z, pm_rk_a, pm_vk_i, pm_vk_z, pm_vk_a, pm_cti, pm_ctr, pm_ldi_z, pm_ldi_s, pm_lda_z, pm_lda_s, pm_cat_n, pm_cat_i, pm_cat_r, pm_cat_l, pm_obj, pm_arr, pm_opt, pm_ird, pm_aln, List.getElem?_cons_zero, List.getElem?_cons_succ, List.set_cons_zero, List.set_cons_succ, List.length_cons, List.length_nil, List.length_set, true_and, and_true, Nat.add_zero, Nat.zero_add, Nat.le_refl, Nat.reduceAdd, Nat.reduceLT, Nat.reduceLeDiff, Nat.zero_le, not_false_eq_true, not_true_eq_false, false_implies, implies_true, true_implies, Nat.zero_lt_succ, Nat.lt_add_one, pm_tl_n, pm_tl_s, sc_uL, show nI k < nI xs.length from nI_lt c (by omega), k0']
          have B0 := body g2 l (by rw [if_neg k0]) M F lg
          exact B0
      · rw [if_neg c] at e
        have : k = xs.length := by omega
        subst this
        have e' : l = wtF xs := e
        subst e'
        rw [w_X12_write_12]
        simp only [w_X12_write_13, w_X12_write_14, pm_1i_c, pm_2i_c, pm_1l_c, pm_2l_c, pm_1a_c, pm_ia_c, pm_iia_c, pm_va_c, pm_cp_c, pm_k0_c, pm_k1_c, pm_k2_c, pm_k3_c, pm_s1_c, pm_s2_c, pm_s3_c, pm_s4_c, pm_ri_c, pm_ra_c, pm_rn_c, pm_rk_i, pm_rk_z, pm_rk_a, pm_vk_i, pm_vk_z, pm_vk_a, pm_cti, pm_ctr, pm_ldi_z, pm_ldi_s, pm_lda_z, pm_lda_s, pm_cat_n, pm_cat_i, pm_cat_r, pm_cat_l, pm_obj, pm_arr, pm_opt, pm_ird, pm_aln, List.getElem?_cons_zero, List.getElem?_cons_succ, List.set_cons_zero, List.set_cons_succ, List.length_cons, List.length_nil, List.length_set, true_and, and_true, Nat.add_zero, Nat.zero_add, Nat.le_refl, Nat.reduceAdd, Nat.reduceLT, Nat.reduceLeDiff, Nat.zero_le, not_false_eq_true, not_true_eq_false, false_implies, implies_true, true_implies, Nat.zero_lt_succ, Nat.lt_add_one, M0, lg]
        refine PM_use (c_M_pastMany M.md (d + 5)) ?_
        rintro v g2 k2 ⟨rfl, rfl⟩
        rw [← hxs]
        show W_X12_write _ _ _ _ _ _ _ _ _
        simp only [w_X12_write_17, w_X12_write_112, w_X12_write_113, w_X12_write_116, pm_1i_c, pm_2i_c, pm_1l_c, pm_2l_c, pm_1a_c, pm_ia_c, pm_iia_c, pm_va_c, pm_cp_c, pm_k0_c, pm_k1_c, pm_k2_c, pm_k3_c, pm_s1_c, pm_s2_c, pm_s3_c, pm_s4_c, pm_ri_c, pm_ra_c, pm_rn_c, pm_rk_i, pm_rk_z, pm_rk_a, pm_vk_i, pm_vk_z, pm_vk_a, pm_cti, pm_ctr, pm_ldi_z, pm_ldi_s, pm_lda_z, pm_lda_s, pm_cat_n, pm_cat_i, pm_cat_r, pm_cat_l, pm_obj, pm_arr, pm_opt, pm_ird, pm_aln, List.getElem?_cons_zero, List.getElem?_cons_succ, List.set_cons_zero, List.set_cons_succ, List.length_cons, List.length_nil, List.length_set, true_and, and_true, Nat.add_zero, Nat.zero_add, Nat.le_refl, Nat.reduceAdd, Nat.reduceLT, Nat.reduceLeDiff, Nat.zero_le, not_false_eq_true, not_true_eq_false, false_implies, implies_true, true_implies, Nat.zero_lt_succ, Nat.lt_add_one, pm_tl_n, pm_tl_s, sc_uL, show ¬ nI xs.length < nI xs.length from nI_nlt (Nat.le_refl _) (by omega), M0, lg]
        exact rq_T ⟨⟨_, M, rfl, rfl, rfl⟩, F⟩
  exact loop 100 0 [] g none none (by omega) (Nat.zero_le _) (Nat.zero_le _) C2 (F1.tr F2) lg rfl
end NB
