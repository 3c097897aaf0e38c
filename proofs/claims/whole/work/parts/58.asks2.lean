/-! An ask keeps the invariant; the model's ask is the desk's. -/
section MM
variable {h h' : pmH} {m : Nat} {o : Nat → Int32} {A B : AD}
/-- the invariant, but for how the parts are filled -/
def mJ (A : AD) : Prop := skV A ∧ cV A ∧ shV A ∧ tot A ≤ 64 ∧ (∀ x, tc A x ≤ 1) ∧ ((∀ x, 0 < tc A x → ∃ n, n < 100000 ∧ x = nI n) ∧ ∀ x ∈ li A 5, ∃ n, n < 100000 ∧ x = nI n) ∧ (∃ n s, n < s ∧ 10 ≤ s ∧ s ≤ 20000 ∧ sc A 0 = nI n ∧ sc A 11 = nI s) ∧ (∃ n, n ≤ 1000 ∧ sc A 12 = nI n) ∧ (li A 4).length ≤ 16 ∧ (li A 5).length ≤ 100
theorem mI.j (I : mI A) : mJ A := ⟨I.1, I.2.1, I.2.2.1, I.tt, I.2.2.2.2⟩
theorem smY.nt (x : smY A B) : nt B = nt A := congrArg (fun z => z.2.1) x.2
theorem smY.cn (x : smY A B) : cn B = cn A := congrArg (fun z => z.1) x.2
theorem smY.lw (x : smY A B) : lw B = lw A := congrArg (fun z => z.2.2) x.2
theorem mJ.fit (J : mJ A) : mI (fitF A) := by
  obtain ⟨j1, j2, j3, j4, j5, ⟨j6, j7⟩, ⟨n, s, n1, n2, n3, n4, n5⟩, ⟨pp, p1, p2⟩, j10, j11⟩ := J
  obtain ⟨f1, f2, f3, f4, f5, f6⟩ := fitF_ok j3 j4 j10
  refine ⟨j1.cg (f5.1 13 (by omega)) (f5.1 14 (by omega)) f5.nt, fun k hk => by rw [f5.cn]; exact j2 k hk, f2, f1, fun x => Nat.le_trans (f6 x) (j5 x), ⟨fun x hx => j6 x (Nat.lt_of_lt_of_le hx (f6 x)), fun x hx => j7 x (by rw [← f3]; exact hx)⟩, ⟨n, s, n1, n2, n3, (f5.1 0 (by omega)).trans n4, (f5.1 11 (by omega)).trans n5⟩, ⟨pp, p1, (f5.1 12 (by omega)).trans p2⟩, f4, by rw [f3]; exact j11⟩
/-- the invariant at other scalars that it doesn't speak of -/
theorem mI.smz (I : mI A) (z : smZ A B) (P : ptV B) (h4 : (li B 4).length ≤ 16) (h1 : ∀ x, tc B x ≤ 1) (h2 : ∀ x, 0 < tc B x → ∃ n, n < 100000 ∧ x = nI n) : mI B := by
  obtain ⟨n, s, n1, n2, n3, n4, n5⟩ := I.ad
  obtain ⟨pp, p1, p2⟩ := I.pe
  refine ⟨z.skV I.sk, z.cV I.c, (z.shV I.sh).1, P, h1, ⟨h2, fun x hx => I.kh (by rw [← z.2.2]; exact hx)⟩, ⟨n, s, n1, n2, n3, (z.1 0 (by omega)).trans n4, (z.1 11 (by omega)).trans n5⟩, ⟨pp, p1, (z.1 12 (by omega)).trans p2⟩, h4, by rw [z.2.2]; exact I.l5⟩
theorem srC_fit (I : mI A) (b : Int32) : mJ (srC3 (srC2 (srC1 A b))) := by
  obtain ⟨n, s, n1, n2, n3, n4, n5⟩ := I.ad
  obtain ⟨pp, p1, p2⟩ := I.pe
  have sn : ∀ i, (i < 9 ∨ 9 < i ∧ i < 15 ∨ 18 < i) → sc (srC3 (srC2 (srC1 A b))) i = sc A i := fun i hi => by rw [srC3_n (by omega), srC2_n (by omega), srC1_n (by omega) (by omega)]
  have V1 : shV (srC2 (srC1 A b)) := by
    refine (I.sh.cg ?_ ?_ ?_).1
    · rw [srC2_n (by omega), srC1_n (by omega) (by omega)]
    · rw [srC2_n (by omega), srC1_n (by omega) (by omega)]
    · rw [srC2_n (by omega), srC1_n (by omega) (by omega)]
  have tcE : ∀ x, tc (srC3 (srC2 (srC1 A b))) x = tc A x := fun x => by
    unfold tc
    rw [srC_li]
  refine ⟨I.sk.cg (sn 13 (by omega)) (sn 14 (by omega)) srC_nt, fun k hk => by rw [srC_cn]; exact I.c k hk, shV_srC3 V1, ?_, fun x => by rw [tcE]; exact I.nd x, ⟨fun x hx => I.ky (by rw [← tcE]; exact hx), fun x hx => I.kh (by rw [srC_li] at hx; exact hx)⟩, ⟨n, s, n1, n2, n3, (sn 0 (by omega)).trans n4, (sn 11 (by omega)).trans n5⟩, ⟨pp, p1, (sn 12 (by omega)).trans p2⟩, by rw [srC_li]; exact I.l4, by rw [srC_li]; exact I.l5⟩
  unfold tot
  rw [srC_li]
  exact I.tt
theorem srC_ok (I : mI A) (b : Int32) : mI (srC A b) := by
  unfold srC
  split
  · exact I
  · split
    · have sn : ∀ i, i ≠ 16 → i ≠ 17 → sc (srC1 A b) i = sc A i := fun i h1 h2 => srC1_n h1 h2
      have e : (srC1 A b).2 = A.2 := rfl
      have el : li (srC1 A b) = li A := by
        unfold li
        rw [e]
      obtain ⟨n, s, n1, n2, n3, n4, n5⟩ := I.ad
      obtain ⟨pp, p1, p2⟩ := I.pe
      obtain ⟨V1, w1, m1, s1⟩ := I.sh.cg (B := srC1 A b) (sn 8 (by omega) (by omega)) (sn 9 (by omega) (by omega)) (sn 10 (by omega) (by omega))
      have tcE : ∀ x, tc (srC1 A b) x = tc A x := fun x => by
        unfold tc
        rw [el]
      refine ⟨I.sk.cg (sn 13 (by omega) (by omega)) (sn 14 (by omega) (by omega)) (by unfold nt; rw [e]), fun k hk => by unfold cn; rw [e]; exact I.c k hk, V1, ?_, fun x => by rw [tcE]; exact I.nd x, ⟨fun x hx => I.ky (by rw [← tcE]; exact hx), fun x hx => I.kh (by rw [el] at hx; exact hx)⟩, ⟨n, s, n1, n2, n3, (sn 0 (by omega) (by omega)).trans n4, (sn 11 (by omega) (by omega)).trans n5⟩, ⟨pp, p1, (sn 12 (by omega) (by omega)).trans p2⟩, by rw [el]; exact I.l4, by rw [el]; exact I.l5⟩
      unfold ptV
      rw [el, w1, m1, s1]
      exact I.pt
    · exact (srC_fit I b).fit
theorem hisF_ok {l : List Int32} {key : Int32} (h : l.length ≤ 100) : (hisF l key).length ≤ 100 ∧ ∀ x ∈ hisF l key, x ∈ l ∨ x = key := by
  unfold hisF
  refine ⟨?_, fun x hx => ?_⟩
  · rw [List.length_append, List.length_singleton]
    split
    · omega
    · rw [List.length_eraseIdx]
      split <;> omega
  · rw [List.mem_append] at hx
    rcases hx with hx | hx
    · refine Or.inl ?_
      split at hx
      · exact hx
      · exact List.mem_of_mem_eraseIdx hx
    · exact Or.inr (List.mem_singleton.mp hx)
theorem srA_li (key : Int32) {p : Nat} (hp : p ≠ 5) : li (srA A key) p = li A p := by
  unfold srA remF
  rw [li_uL, if_neg hp, li_uS, addF_li]
theorem srA_sc (key : Int32) {i : Nat} (h2 : i ≠ 2) (a : i ≠ 0) (b : i ≠ 1) (c : i ≠ 11) (d : i ≠ 13) (e : i ≠ 14) : sc (srA A key) i = sc A i := by
  unfold srA remF
  rw [sc_uL, sc_ne h2, addF_sc key a b c d e]
theorem srA_pn (key x : Int32) : partN (srA A key) x = partN A x := by
  unfold partN
  rw [srA_li key (by omega), srA_li key (by omega), srA_li key (by omega)]
theorem srA_ok (I : mI A) {key : Int32} (hk : ∃ n, n < 100000 ∧ key = nI n) : mI (srA A key) := by
  obtain ⟨s1, s2, n, s, n1, n2, n3, n4, n5⟩ := skV_ad I.sk I.c I.ad key
  obtain ⟨pp, p1, p2⟩ := I.pe
  obtain ⟨V1, w1, m1, z1⟩ := I.sh.cg (B := srA A key) (srA_sc key (by omega) (by omega) (by omega) (by omega) (by omega) (by omega)) (srA_sc key (by omega) (by omega) (by omega) (by omega) (by omega) (by omega)) (srA_sc key (by omega) (by omega) (by omega) (by omega) (by omega) (by omega))
  have l5 : li (srA A key) 5 = hisF (li A 5) key := by
    unfold srA remF
    rw [li_uL, if_pos rfl, li_uS, addF_li]
  obtain ⟨q1, q2⟩ := hisF_ok (key := key) I.l5
  have tcE : ∀ x, tc (srA A key) x = tc A x := fun x => by
    unfold tc
    rw [srA_li key (by omega), srA_li key (by omega), srA_li key (by omega), srA_li key (by omega)]
  have x0 : ∀ i, i ≠ 2 → sc (srA A key) i = sc (addF A key) i := fun i hi => by
    unfold srA remF
    rw [sc_uL, sc_ne hi]
  refine ⟨s1.cg (x0 13 (by omega)) (x0 14 (by omega)) rfl, fun k hk => s2 k hk, V1, ?_, fun x => by rw [tcE]; exact I.nd x, ⟨fun x hx => I.ky (by rw [← tcE]; exact hx), fun x hx => ?_⟩, ⟨n, s, n1, n2, n3, (x0 0 (by omega)).trans n4, (x0 11 (by omega)).trans n5⟩, ⟨pp, p1, (srA_sc key (by omega) (by omega) (by omega) (by omega) (by omega) (by omega)).trans p2⟩, ?_, ?_⟩
  · unfold ptV
    rw [srA_li key (by omega), srA_li key (by omega), srA_li key (by omega), w1, m1, z1]
    exact I.pt
  · rw [l5] at hx
    rcases q2 x hx with q | q
    · exact I.kh q
    · rw [q]
      exact hk
  · rw [srA_li key (by omega)]
    exact I.l4
  · rw [l5]
    exact q1
/-- the desk with the key at the window's front -/
theorem cmF_ok (I : mI A) {key : Int32} (hk : ∃ n, n < 100000 ∧ key = nI n) (h0 : partN A key = 0) : smZ A (cmF A key) ∧ (li (cmF A key) 1).length ≤ wN A + 1 ∧ li (cmF A key) 2 = li A 2 ∧ li (cmF A key) 3 = li A 3 ∧ (li (cmF A key) 4).length ≤ 16 ∧ (∀ x, tc (cmF A key) x ≤ 1) ∧ ∀ x, 0 < tc (cmF A key) x → ∃ n, n < 100000 ∧ x = nI n := by
  obtain ⟨k1, k2, k3⟩ := partN_1 h0
  have z : smZ A (cmG (clrF A) key) := smZ_clr.tr (smZ_cmG key)
  have l123 : ∀ p, p ≠ 4 → li (cmG (clrF A) key) p = li A p := fun p hp => by
    unfold cmG
    split
    · rw [li_uS, li_uL, if_neg hp]
      rfl
    · rfl
  have l4 : li (cmG (clrF A) key) 4 = (li A 4).erase key := by
    unfold cmG
    split
    · rw [li_uS, li_uL, if_pos rfl]
      rfl
    · rename_i c
      exact (List.erase_of_not_mem c).symm
  have t0 : ∀ x, tc (cmG (clrF A) key) x + ic key x ≤ 1 := fun x => by
    have nd := I.nd x
    have nk := I.nd key
    unfold tc at nd nk ⊢
    rw [l123 1 (by omega), l123 2 (by omega), l123 3 (by omega), l4]
    by_cases c4 : key ∈ li A 4
    · have := ct_er c4 x
      omega
    · rw [List.erase_of_not_mem c4]
      by_cases c : key = x
      · rw [← c, List.count_eq_zero_of_not_mem k1, List.count_eq_zero_of_not_mem k2, List.count_eq_zero_of_not_mem k3, List.count_eq_zero_of_not_mem c4]
        unfold ic
        split <;> omega
      · unfold ic
        rw [if_neg c]
        omega
  have t1 : ∀ x, tc (cmF A key) x ≤ tc (cmG (clrF A) key) x + ic key x := fun x => tc_in (A := cmG (clrF A) key) (q := 1) (by omega) key x
  obtain ⟨p1, p2, p3⟩ := I.pt
  refine ⟨z.tr (smZ_insR (by omega) _), ?_, ?_, ?_, ?_, fun x => Nat.le_trans (t1 x) (t0 x), fun x hx => ?_⟩
  · have : (li (cmF A key) 1).length = min 65 ((li (cmG (clrF A) key) 1).length + 1) := ins_len _ _ _
    rw [this, l123 1 (by omega)]
    omega
  · exact l123 2 (by omega)
  · exact l123 3 (by omega)
  · have : li (cmF A key) 4 = li (cmG (clrF A) key) 4 := rfl
    rw [this, l4]
    exact Nat.le_trans (List.length_erase_le) I.l4
  · have := t1 x
    by_cases c : key = x
    · rw [← c]
      exact hk
    · have i0 : ic key x = 0 := if_neg c
      refine I.ky (x := x) ?_
      have e : tc (cmG (clrF A) key) x ≤ tc A x := by
        unfold tc
        rw [l123 1 (by omega), l123 2 (by omega), l123 3 (by omega), l4]
        have := (List.erase_sublist (a := key) (l := li A 4)).count_le x
        omega
      omega
theorem srG_miss (I : mI A) {key : Int32} (hk : ∃ n, n < 100000 ∧ key = nI n) (h0 : partN A key = 0) : mI (srB2 (cmF A key)) := by
  obtain ⟨c1, c2, c3, c4, c5, c6, c7⟩ := cmF_ok I hk h0
  obtain ⟨p1, p2, p3⟩ := I.pt
  obtain ⟨V1, w1, m1, s1⟩ := c1.shV I.sh
  obtain ⟨b1, b2, b3, b4⟩ := srB2_ok (B := cmF A key) V1 (by rw [w1]; exact c2) (by rw [c3, c4, m1]; exact p2) (by rw [c4, s1]; exact p3) c5
  exact I.smz (c1.tr b1) b2 b3 (fun x => Nat.le_trans (b4 x) (c6 x)) (fun x hx => c7 x (Nat.lt_of_lt_of_le hx (b4 x)))
theorem srG_hit (I : mI A) {key : Int32} (h0 : ¬ partN A key = 0) : mI (mvF (uS A 3 (sc A 3 + 1)) (partN A key) key) := by
  obtain ⟨q1, q2, q3⟩ := partN_2 h0
  have z : smZ A (uS A 3 (sc A 3 + 1)) := smZ_uS (by omega) _
  obtain ⟨V1, w1, m1, s1⟩ := z.shV I.sh
  have P1 : ptV (uS A 3 (sc A 3 + 1)) := by
    unfold ptV
    rw [w1, m1, s1]
    exact I.pt
  obtain ⟨b1, b2, b3, b4⟩ := mvF_ok V1 P1 q1 q2 (key := key) q3
  refine I.smz (z.tr b1) b2 (by rw [b3]; exact I.l4) (fun x => Nat.le_trans (b4 x) (I.nd x)) (fun x hx => I.ky (x := x) (Nat.lt_of_lt_of_le hx (b4 x)))
theorem srvF_ok (I : mI A) {key : Int32} (hk : ∃ n, n < 100000 ∧ key = nI n) : mI (srvF A key) := by
  have S := srA_ok I hk
  unfold srvF srG
  split
  · rename_i c
    exact srC_ok (srG_miss S hk c) 0
  · rename_i c
    exact srC_ok (srG_hit S c) 1
theorem fsF_ok : ∀ (ks : List Int32) {A : AD}, mI A → (∀ x ∈ ks, ∃ n, n < 100000 ∧ x = nI n) → mI (fsF A ks)
  | [], _, I, _ => I
  | x :: ks, _, I, hk => fsF_ok ks (srvF_ok I (hk x List.mem_cons_self)) (fun y hy => hk y (List.mem_cons_of_mem _ hy))
theorem msA_li (key : Int32) {p : Nat} (h4 : p ≠ 4) (h5 : p ≠ 5) : li (msA A key) p = li A p := by
  unfold msA cmG
  rw [addF_li]
  split
  · rw [li_uS, li_uL, if_neg h4]
    unfold remF
    rw [li_uL, if_neg h5]
    rfl
  · unfold remF
    rw [li_uL, if_neg h5]
    rfl
theorem msA_sc (key : Int32) {i : Nat} (h2 : i ≠ 2) (h5 : i ≠ 5) (a : i ≠ 0) (b : i ≠ 1) (c : i ≠ 11) (d : i ≠ 13) (e : i ≠ 14) : sc (msA A key) i = sc A i := by
  unfold msA cmG
  rw [addF_sc key a b c d e]
  split
  · rw [sc_ne h5, sc_uL]
    unfold remF
    rw [sc_uL, sc_ne h2]
  · unfold remF
    rw [sc_uL, sc_ne h2]
set_option maxHeartbeats 1000000 in
theorem c_M_asks (H : md_ h m o A) (P : pil h m) (I : mI A) {key : Int32} (hk : ∃ n, n < 100000 ∧ key = nI n) (d : Nat) : PM (d + 9) 200 [.ref m, .int key] h (fun v h' => v = some (.int (nI (partN A key))) ∧ md_ h' m o (srvF A key) ∧ pil h' m ∧ frm h h' m) := by
  obtain ⟨H0, f, H1, R⟩ := H
  have H0' := H0
  unfold mO at H0'
  have s2 : f 1672 = sc A 2 := R.s (i := 2) (by omega)
  obtain ⟨g1, e1, l1, F1, M0, f1, M1, MR⟩ := md_.st H0 H1 R (i := 2) (by omega) (k := 1672) rfl (sc A 2 + 1)
  have M0' := M0
  unfold mO at M0'
  have S := srA_ok I hk
  refine en_X12_asks rfl rfl ?_
  simp only [w_X12_asks_0, w_X12_asks_1, w_X12_asks_4, w_X12_asks_7, w_X12_asks_8, w_X12_asks_9, w_X12_asks_10, w_X12_asks_11, w_X12_asks_12, w_X12_asks_13, w_X12_asks_14, pm_1i_c, pm_2i_c, pm_1l_c, pm_2l_c, pm_1a_c, pm_ia_c, pm_iia_c, pm_va_c, pm_cp_c, pm_k0_c, pm_k1_c, pm_k2_c, pm_k3_c, pm_s1_c, pm_s2_c, pm_s3_c, pm_s4_c, pm_ri_c, pm_ra_c, pm_rn_c, pm_rk_i, pm_rk_z, pm_rk_a, pm_vk_i, pm_vk_z, pm_vk_a, pm_cti, pm_ctr, pm_ldi_z, pm_ldi_s, pm_lda_z, pm_lda_s, pm_cat_n, pm_cat_i, pm_cat_r, pm_cat_l, pm_obj, pm_arr, pm_opt, pm_ird, pm_aln, List.getElem?_cons_zero, List.getElem?_cons_succ, List.set_cons_zero, List.set_cons_succ, List.length_cons, List.length_nil, List.length_set, true_and, and_true, Nat.add_zero, Nat.zero_add, Nat.le_refl, Nat.reduceAdd, Nat.reduceLT, Nat.reduceLeDiff, Nat.zero_le, not_false_eq_true, not_true_eq_false, false_implies, implies_true, true_implies, Nat.zero_lt_succ, Nat.lt_add_one, H0', H1, ix_1672, vi_1672, s2, e1, M0', l1]
  refine PM_use (c_M_remembers (A := uS A 2 (sc A 2 + 1)) ⟨M0, f1, M1, MR⟩ key (d + 7)) ?_
  rintro v g2 l2 ⟨rfl, K2, F2⟩
  have N2 := K2.1
  unfold mO at N2
  show W_X12_asks _ _ _ _ _ _ _ _ _
  simp only [w_X12_asks_17, w_X12_asks_18, w_X12_asks_19, pm_1i_c, pm_2i_c, pm_1l_c, pm_2l_c, pm_1a_c, pm_ia_c, pm_iia_c, pm_va_c, pm_cp_c, pm_k0_c, pm_k1_c, pm_k2_c, pm_k3_c, pm_s1_c, pm_s2_c, pm_s3_c, pm_s4_c, pm_ri_c, pm_ra_c, pm_rn_c, pm_rk_i, pm_rk_z, pm_rk_a, pm_vk_i, pm_vk_z, pm_vk_a, pm_cti, pm_ctr, pm_ldi_z, pm_ldi_s, pm_lda_z, pm_lda_s, pm_cat_n, pm_cat_i, pm_cat_r, pm_cat_l, pm_obj, pm_arr, pm_opt, pm_ird, pm_aln, List.getElem?_cons_zero, List.getElem?_cons_succ, List.set_cons_zero, List.set_cons_succ, List.length_cons, List.length_nil, List.length_set, true_and, and_true, Nat.add_zero, Nat.zero_add, Nat.le_refl, Nat.reduceAdd, Nat.reduceLT, Nat.reduceLeDiff, Nat.zero_le, not_false_eq_true, not_true_eq_false, false_implies, implies_true, true_implies, Nat.zero_lt_succ, Nat.lt_add_one, pm_tl_n, pm_tl_s, sc_uL, N2, l1, l2]
  refine PM_use (c_M_regrets K2 key (d + 7)) ?_
  rintro v g3 l3 ⟨rfl, K3, F3⟩
  have N3 := K3.1
  unfold mO at N3
  show W_X12_asks _ _ _ _ _ _ _ _ _
  simp only [w_X12_asks_22, w_X12_asks_23, w_X12_asks_24, pm_1i_c, pm_2i_c, pm_1l_c, pm_2l_c, pm_1a_c, pm_ia_c, pm_iia_c, pm_va_c, pm_cp_c, pm_k0_c, pm_k1_c, pm_k2_c, pm_k3_c, pm_s1_c, pm_s2_c, pm_s3_c, pm_s4_c, pm_ri_c, pm_ra_c, pm_rn_c, pm_rk_i, pm_rk_z, pm_rk_a, pm_vk_i, pm_vk_z, pm_vk_a, pm_cti, pm_ctr, pm_ldi_z, pm_ldi_s, pm_lda_z, pm_lda_s, pm_cat_n, pm_cat_i, pm_cat_r, pm_cat_l, pm_obj, pm_arr, pm_opt, pm_ird, pm_aln, List.getElem?_cons_zero, List.getElem?_cons_succ, List.set_cons_zero, List.set_cons_succ, List.length_cons, List.length_nil, List.length_set, true_and, and_true, Nat.add_zero, Nat.zero_add, Nat.le_refl, Nat.reduceAdd, Nat.reduceLT, Nat.reduceLeDiff, Nat.zero_le, not_false_eq_true, not_true_eq_false, false_implies, implies_true, true_implies, Nat.zero_lt_succ, Nat.lt_add_one, pm_tl_n, pm_tl_s, sc_uL, N3, l1, l2, l3]
  have skX : skV (cmG (remF (uS A 2 (sc A 2 + 1)) key) key) := by
    unfold cmG
    split
    · exact I.sk.cg (by rw [sc_ne (by omega)]; rfl) (by rw [sc_ne (by omega)]; rfl) rfl
    · exact I.sk.cg rfl rfl rfl
  have cX : cV (cmG (remF (uS A 2 (sc A 2 + 1)) key) key) := by
    unfold cmG
    split
    · exact fun k hk => I.c k hk
    · exact fun k hk => I.c k hk
  refine PM_use (c_M_counts K3 skX cX key (d + 4)) ?_
  rintro v g4 l4 ⟨rfl, K4, F4⟩
  have eM : addF (cmG (remF (uS A 2 (sc A 2 + 1)) key) key) key = msA A key := rfl
  rw [eM] at K4
  have N4 := K4.1
  unfold mO at N4
  have skM : skV (msA A key) := skV_addF skX key
  obtain ⟨VM, wM, mM, sM⟩ := I.sh.cg (B := msA A key) (msA_sc key (by omega) (by omega) (by omega) (by omega) (by omega) (by omega) (by omega)) (msA_sc key (by omega) (by omega) (by omega) (by omega) (by omega) (by omega) (by omega)) (msA_sc key (by omega) (by omega) (by omega) (by omega) (by omega) (by omega) (by omega))
  have m1 : li (msA A key) 1 = li A 1 := msA_li key (by omega) (by omega)
  have m2 : li (msA A key) 2 = li A 2 := msA_li key (by omega) (by omega)
  have m3 : li (msA A key) 3 = li A 3 := msA_li key (by omega) (by omega)
  have pM : partN (msA A key) key = partN A key := by
    unfold partN
    rw [m1, m2, m3]
  have b := I.sh.b
  obtain ⟨p1, p2, p3⟩ := I.pt
  have P4 : pil g4 m := (((P.t1 F1).t1 F2).t1 F3).t1 F4
  have fr4 : frm h g4 m := ((F1.tm.tr F2.tm).tr F3.tm).tr F4.tm
  show W_X12_asks _ _ _ _ _ _ _ _ _
  simp only [w_X12_asks_27, w_X12_asks_28, w_X12_asks_29, pm_1i_c, pm_2i_c, pm_1l_c, pm_2l_c, pm_1a_c, pm_ia_c, pm_iia_c, pm_va_c, pm_cp_c, pm_k0_c, pm_k1_c, pm_k2_c, pm_k3_c, pm_s1_c, pm_s2_c, pm_s3_c, pm_s4_c, pm_ri_c, pm_ra_c, pm_rn_c, pm_rk_i, pm_rk_z, pm_rk_a, pm_vk_i, pm_vk_z, pm_vk_a, pm_cti, pm_ctr, pm_ldi_z, pm_ldi_s, pm_lda_z, pm_lda_s, pm_cat_n, pm_cat_i, pm_cat_r, pm_cat_l, pm_obj, pm_arr, pm_opt, pm_ird, pm_aln, List.getElem?_cons_zero, List.getElem?_cons_succ, List.set_cons_zero, List.set_cons_succ, List.length_cons, List.length_nil, List.length_set, true_and, and_true, Nat.add_zero, Nat.zero_add, Nat.le_refl, Nat.reduceAdd, Nat.reduceLT, Nat.reduceLeDiff, Nat.zero_le, not_false_eq_true, not_true_eq_false, false_implies, implies_true, true_implies, Nat.zero_lt_succ, Nat.lt_add_one, pm_tl_n, pm_tl_s, sc_uL, N4, l1, l2, l3, l4]
  refine PM_use (c_M_whereIs K4 key (d + 4)) ?_
  rintro v g5 l5 ⟨rfl, rfl⟩
  rw [pM]
  have hp3 := partN_le A key
  have eS : srvF A key = if partN A key = 0 then srC (srB2 (cmF (srA A key) key)) 0 else srC (mvF (uS (srA A key) 3 (sc (srA A key) 3 + 1)) (partN A key) key) 1 := by
    unfold srvF srG
    rw [srA_pn]
  rw [eS]
  by_cases c : partN A key = 0
  · have n0 : nI (partN A key) = 0 := by rw [c]; rfl
    rw [if_pos c]
    have c' : partN (srA A key) key = 0 := by rw [srA_pn]; exact c
    have IB := srG_miss S hk c'
    show W_X12_asks _ _ _ _ _ _ _ _ _
    simp only [w_X12_asks_32, w_X12_asks_33, w_X12_asks_34, w_X12_asks_37, w_X12_asks_38, w_X12_asks_39, pm_1i_c, pm_2i_c, pm_1l_c, pm_2l_c, pm_1a_c, pm_ia_c, pm_iia_c, pm_va_c, pm_cp_c, pm_k0_c, pm_k1_c, pm_k2_c, pm_k3_c, pm_s1_c, pm_s2_c, pm_s3_c, pm_s4_c, pm_ri_c, pm_ra_c, pm_rn_c, pm_rk_i, pm_rk_z, pm_rk_a, pm_vk_i, pm_vk_z, pm_vk_a, pm_cti, pm_ctr, pm_ldi_z, pm_ldi_s, pm_lda_z, pm_lda_s, pm_cat_n, pm_cat_i, pm_cat_r, pm_cat_l, pm_obj, pm_arr, pm_opt, pm_ird, pm_aln, List.getElem?_cons_zero, List.getElem?_cons_succ, List.set_cons_zero, List.set_cons_succ, List.length_cons, List.length_nil, List.length_set, true_and, and_true, Nat.add_zero, Nat.zero_add, Nat.le_refl, Nat.reduceAdd, Nat.reduceLT, Nat.reduceLeDiff, Nat.zero_le, not_false_eq_true, not_true_eq_false, false_implies, implies_true, true_implies, Nat.zero_lt_succ, Nat.lt_add_one, pm_tl_n, pm_tl_s, sc_uL, N4, l1, l2, l3, l4, n0]
    refine PM_use (c_M_misses K4 P4 skM.1 VM (by rw [m1]; omega) (by rw [m2, m3, mM]; exact p2) key d) ?_
    rintro v g6 l6 ⟨rfl, K6, P6, F6⟩
    have eC : insR (clrF (msA A key)) 1 key = cmF (srA A key) key := by
      rw [msA_clr]
      rfl
    rw [eC] at K6
    have N6 := K6.1
    unfold mO at N6
    show W_X12_asks _ _ _ _ _ _ _ _ _
    simp only [w_X12_asks_42, w_X12_asks_51, w_X12_asks_52, w_X12_asks_53, w_X12_asks_56, w_X12_asks_57, w_X12_asks_60, w_X12_asks_61, pm_1i_c, pm_2i_c, pm_1l_c, pm_2l_c, pm_1a_c, pm_ia_c, pm_iia_c, pm_va_c, pm_cp_c, pm_k0_c, pm_k1_c, pm_k2_c, pm_k3_c, pm_s1_c, pm_s2_c, pm_s3_c, pm_s4_c, pm_ri_c, pm_ra_c, pm_rn_c, pm_rk_i, pm_rk_z, pm_rk_a, pm_vk_i, pm_vk_z, pm_vk_a, pm_cti, pm_ctr, pm_ldi_z, pm_ldi_s, pm_lda_z, pm_lda_s, pm_cat_n, pm_cat_i, pm_cat_r, pm_cat_l, pm_obj, pm_arr, pm_opt, pm_ird, pm_aln, List.getElem?_cons_zero, List.getElem?_cons_succ, List.set_cons_zero, List.set_cons_succ, List.length_cons, List.length_nil, List.length_set, true_and, and_true, Nat.add_zero, Nat.zero_add, Nat.le_refl, Nat.reduceAdd, Nat.reduceLT, Nat.reduceLeDiff, Nat.zero_le, not_false_eq_true, not_true_eq_false, false_implies, implies_true, true_implies, Nat.zero_lt_succ, Nat.lt_add_one, pm_tl_n, pm_tl_s, sc_uL, N6, l1, l2, l3, l4, l6]
    obtain ⟨pp, pp1, pp2⟩ := IB.pe
    refine PM_use (c_M_climbs K6 IB.sk.1 IB.sh IB.tt pp2 pp1 (Or.inl rfl) (d + 2)) ?_
    rintro v g7 l7 ⟨rfl, K7, F7⟩
    show W_X12_asks _ _ _ _ _ _ _ _ _
    simp only [w_X12_asks_64, w_X12_asks_65, pm_1i_c, pm_2i_c, pm_1l_c, pm_2l_c, pm_1a_c, pm_ia_c, pm_iia_c, pm_va_c, pm_cp_c, pm_k0_c, pm_k1_c, pm_k2_c, pm_k3_c, pm_s1_c, pm_s2_c, pm_s3_c, pm_s4_c, pm_ri_c, pm_ra_c, pm_rn_c, pm_rk_i, pm_rk_z, pm_rk_a, pm_vk_i, pm_vk_z, pm_vk_a, pm_cti, pm_ctr, pm_ldi_z, pm_ldi_s, pm_lda_z, pm_lda_s, pm_cat_n, pm_cat_i, pm_cat_r, pm_cat_l, pm_obj, pm_arr, pm_opt, pm_ird, pm_aln, List.getElem?_cons_zero, List.getElem?_cons_succ, List.set_cons_zero, List.set_cons_succ, List.length_cons, List.length_nil, List.length_set, true_and, and_true, Nat.add_zero, Nat.zero_add, Nat.le_refl, Nat.reduceAdd, Nat.reduceLT, Nat.reduceLeDiff, Nat.zero_le, not_false_eq_true, not_true_eq_false, false_implies, implies_true, true_implies, Nat.zero_lt_succ, Nat.lt_add_one, pm_tl_n, pm_tl_s, sc_uL, l1, l2, l3, l4, l6, l7]
    exact ⟨K7, P6.t1 F7, (fr4.tr F6).tr F7.tm⟩
  · have n0 : ¬ nI (partN A key) = 0 := nI_ne0 (by omega) (by omega)
    rw [if_neg c]
    have c' : ¬ partN (srA A key) key = 0 := by rw [srA_pn]; exact c
    have IB := srG_hit S c'
    rw [srA_pn] at IB
    obtain ⟨q1, q2, q3⟩ := partN_2 c
    -- a key in the parts has not gone out
    have no4 : key ∉ li A 4 := fun z => by
      have nd := I.nd key
      unfold tc at nd
      have z4 := mem_ct.mp z
      have z3 := mem_ct.mp q3
      have : partN A key = 1 ∨ partN A key = 2 ∨ partN A key = 3 := by omega
      rcases this with e | e | e <;> rw [e] at z3 <;> omega
    have eN := msA_no (A := A) no4
    have mt : tot (msA A key) ≤ 64 := by
      have := I.tt
      unfold tot at this ⊢
      rw [m1, m2, m3]
      exact this
    have q3' : key ∈ li (msA A key) (partN A key) := by
      rw [msA_li key (by omega) (by omega)]
      exact q3
    show W_X12_asks _ _ _ _ _ _ _ _ _
    simp only [w_X12_asks_32, w_X12_asks_33, w_X12_asks_34, w_X12_asks_45, w_X12_asks_46, w_X12_asks_47, w_X12_asks_48, pm_1i_c, pm_2i_c, pm_1l_c, pm_2l_c, pm_1a_c, pm_ia_c, pm_iia_c, pm_va_c, pm_cp_c, pm_k0_c, pm_k1_c, pm_k2_c, pm_k3_c, pm_s1_c, pm_s2_c, pm_s3_c, pm_s4_c, pm_ri_c, pm_ra_c, pm_rn_c, pm_rk_i, pm_rk_z, pm_rk_a, pm_vk_i, pm_vk_z, pm_vk_a, pm_cti, pm_ctr, pm_ldi_z, pm_ldi_s, pm_lda_z, pm_lda_s, pm_cat_n, pm_cat_i, pm_cat_r, pm_cat_l, pm_obj, pm_arr, pm_opt, pm_ird, pm_aln, List.getElem?_cons_zero, List.getElem?_cons_succ, List.set_cons_zero, List.set_cons_succ, List.length_cons, List.length_nil, List.length_set, true_and, and_true, Nat.add_zero, Nat.zero_add, Nat.le_refl, Nat.reduceAdd, Nat.reduceLT, Nat.reduceLeDiff, Nat.zero_le, not_false_eq_true, not_true_eq_false, false_implies, implies_true, true_implies, Nat.zero_lt_succ, Nat.lt_add_one, pm_tl_n, pm_tl_s, sc_uL, N4, l1, l2, l3, l4, n0]
    refine PM_use (c_M_hits K4 VM q1 q2 q3' mt (by rw [m3, sM]; exact p3) (d + 4)) ?_
    rintro v g6 l6 ⟨rfl, K6, F6⟩
    rw [eN] at K6
    have N6 := K6.1
    unfold mO at N6
    show W_X12_asks _ _ _ _ _ _ _ _ _
    simp only [w_X12_asks_51, w_X12_asks_52, w_X12_asks_53, w_X12_asks_56, w_X12_asks_57, w_X12_asks_60, w_X12_asks_61, pm_1i_c, pm_2i_c, pm_1l_c, pm_2l_c, pm_1a_c, pm_ia_c, pm_iia_c, pm_va_c, pm_cp_c, pm_k0_c, pm_k1_c, pm_k2_c, pm_k3_c, pm_s1_c, pm_s2_c, pm_s3_c, pm_s4_c, pm_ri_c, pm_ra_c, pm_rn_c, pm_rk_i, pm_rk_z, pm_rk_a, pm_vk_i, pm_vk_z, pm_vk_a, pm_cti, pm_ctr, pm_ldi_z, pm_ldi_s, pm_lda_z, pm_lda_s, pm_cat_n, pm_cat_i, pm_cat_r, pm_cat_l, pm_obj, pm_arr, pm_opt, pm_ird, pm_aln, List.getElem?_cons_zero, List.getElem?_cons_succ, List.set_cons_zero, List.set_cons_succ, List.length_cons, List.length_nil, List.length_set, true_and, and_true, Nat.add_zero, Nat.zero_add, Nat.le_refl, Nat.reduceAdd, Nat.reduceLT, Nat.reduceLeDiff, Nat.zero_le, not_false_eq_true, not_true_eq_false, false_implies, implies_true, true_implies, Nat.zero_lt_succ, Nat.lt_add_one, pm_tl_n, pm_tl_s, sc_uL, N6, l1, l2, l3, l4, l6, n0]
    obtain ⟨pp, pp1, pp2⟩ := IB.pe
    refine PM_use (c_M_climbs K6 IB.sk.1 IB.sh IB.tt pp2 pp1 (Or.inr rfl) (d + 2)) ?_
    rintro v g7 l7 ⟨rfl, K7, F7⟩
    show W_X12_asks _ _ _ _ _ _ _ _ _
    simp only [w_X12_asks_64, w_X12_asks_65, pm_1i_c, pm_2i_c, pm_1l_c, pm_2l_c, pm_1a_c, pm_ia_c, pm_iia_c, pm_va_c, pm_cp_c, pm_k0_c, pm_k1_c, pm_k2_c, pm_k3_c, pm_s1_c, pm_s2_c, pm_s3_c, pm_s4_c, pm_ri_c, pm_ra_c, pm_rn_c, pm_rk_i, pm_rk_z, pm_rk_a, pm_vk_i, pm_vk_z, pm_vk_a, pm_cti, pm_ctr, pm_ldi_z, pm_ldi_s, pm_lda_z, pm_lda_s, pm_cat_n, pm_cat_i, pm_cat_r, pm_cat_l, pm_obj, pm_arr, pm_opt, pm_ird, pm_aln, List.getElem?_cons_zero, List.getElem?_cons_succ, List.set_cons_zero, List.set_cons_succ, List.length_cons, List.length_nil, List.length_set, true_and, and_true, Nat.add_zero, Nat.zero_add, Nat.le_refl, Nat.reduceAdd, Nat.reduceLT, Nat.reduceLeDiff, Nat.zero_le, not_false_eq_true, not_true_eq_false, false_implies, implies_true, true_implies, Nat.zero_lt_succ, Nat.lt_add_one, pm_tl_n, pm_tl_s, sc_uL, l1, l2, l3, l4, l6, l7]
    exact ⟨K7, (P4.t1 F6).t1 F7, (fr4.tr F6.tm).tr F7.tm⟩
end MM
