/-! Desk: starting like another, copying another. -/
def stlF (O : AD) (door : Int32) : AD := (fun i => if i = 8 then sc O 8 else if i = 9 then door else if i = 10 then sc O 10 else if i = 11 then sc O 11 else if i = 13 then sc O 13 else if i = 14 then sc O 14 else if i = 23 then sc O 23 else if i = 15 then 1 else if 19 ≤ i ∧ i ≤ 22 then -1 else 0, fun _ => [], fun _ => 0, fun _ => 0, lw O)
theorem all24 {P : Nat → Prop} (h0 : P 0) (h1 : P 1) (h2 : P 2) (h3 : P 3) (h4 : P 4) (h5 : P 5) (h6 : P 6) (h7 : P 7) (h8 : P 8) (h9 : P 9) (h10 : P 10) (h11 : P 11) (h12 : P 12) (h13 : P 13) (h14 : P 14) (h15 : P 15) (h16 : P 16) (h17 : P 17) (h18 : P 18) (h19 : P 19) (h20 : P 20) (h21 : P 21) (h22 : P 22) (h23 : P 23) : ∀ i, i < 24 → P i := by
  intro i hi
  match i, hi with
  | 0, _ => exact h0
  | 1, _ => exact h1
  | 2, _ => exact h2
  | 3, _ => exact h3
  | 4, _ => exact h4
  | 5, _ => exact h5
  | 6, _ => exact h6
  | 7, _ => exact h7
  | 8, _ => exact h8
  | 9, _ => exact h9
  | 10, _ => exact h10
  | 11, _ => exact h11
  | 12, _ => exact h12
  | 13, _ => exact h13
  | 14, _ => exact h14
  | 15, _ => exact h15
  | 16, _ => exact h16
  | 17, _ => exact h17
  | 18, _ => exact h18
  | 19, _ => exact h19
  | 20, _ => exact h20
  | 21, _ => exact h21
  | 22, _ => exact h22
  | 23, _ => exact h23
  | n + 24, h => omega
theorem all5 {P : Nat → Prop} (h1 : P 1) (h2 : P 2) (h3 : P 3) (h4 : P 4) (h5 : P 5) : ∀ i, 1 ≤ i → i ≤ 5 → P i := by
  intro i a b
  match i, a, b with
  | 1, _, _ => exact h1
  | 2, _, _ => exact h2
  | 3, _, _ => exact h3
  | 4, _, _ => exact h4
  | 5, _, _ => exact h5
  | n + 6, _, h => omega
def adE (A A' : AD) : Prop := (∀ i, i < 24 → sc A' i = sc A i) ∧ (∀ p, 1 ≤ p → p ≤ 5 → li A' p = li A p) ∧ (∀ k, k < 1024 → cn A' k = cn A k) ∧ (∀ k, k < 256 → nt A' k = nt A k) ∧ (sc A 23 = -1 ∨ ∀ f, lw A' f = lw A f)
theorem dk_.ext {h : pmH} {B : Nat} {A A' : AD} (D : dk_ h B A) (E : adE A A') : dk_ h B A' := by
  obtain ⟨e, l, c, n, w⟩ := E
  refine ⟨dkO.cg D.1 rfl (fun i _ _ => e i (by omega)), shR.cg D.2.1 rfl (fun i _ _ => e i (by omega)), ?_, ?_, D.cl.cg rfl (e _ (by omega)) (e _ (by omega)) (e _ (by omega)) (e _ (by omega)) (e _ (by omega)), coR.cg D.2.2.2.2.2.1 rfl (fun i _ _ => e i (by omega)), fun p h1 h2 => by rw [l p h1 h2]; exact D.row h1 h2, D.v, D.u⟩
  · obtain ⟨h1, ⟨fc, h2, h3⟩, fn, h4, h5⟩ := D.sk
    refine ⟨?_, ⟨fc, h2, fun k hk => (h3 k hk).trans (c k hk).symm⟩, fn, h4, fun k hk => (h5 k hk).trans (n k hk).symm⟩
    rw [e 14 (by omega), e 0 (by omega), e 11 (by omega), e 13 (by omega), e 1 (by omega)]
    exact h1
  · obtain ⟨h1, ⟨cs, h2, h3⟩, h4⟩ := D.la
    refine ⟨by rw [e 23 (by omega)]; exact h1, ⟨cs, h2, ?_⟩, h4⟩
    rw [e 23 (by omega)]
    rcases w with w | w
    · exact Or.inl w
    · rcases h3 with h3 | h3
      · exact Or.inl h3
      · exact Or.inr fun f => (h3 f).trans (w f).symm
def mixS (A O : AD) : AD := (fun i => if i = 0 then sc O 0 else if i = 1 then sc O 1 else if i = 11 then sc O 11 else if i = 13 then sc O 13 else if i = 14 then sc O 14 else sc A i, li A, cn O, nt O, lw A)
theorem skEq_mixS (A O : AD) : skEq A (mixS A O) := ⟨rfl, rfl, fun i a b c d e => by
  show (if i = 0 then sc O 0 else if i = 1 then sc O 1 else if i = 11 then sc O 11 else if i = 13 then sc O 13 else if i = 14 then sc O 14 else sc A i) = _
  rw [if_neg a, if_neg b, if_neg c, if_neg d, if_neg e]⟩
section DU
variable {h : pmH} {B O : Nat} {A A2 : AD}
set_option maxHeartbeats 2000000 in
theorem c_Desk_startLike (D0 : dk_ h B A) (D0q : dk_ h O A2) (nd : B + 26 ≤ O ∨ O + 26 ≤ B) (V : skV A2) (door : Int32) (d : Nat) : PM (d + 5) 25 [.ref B, .ref O, .int door] h (fun v h' => v = none ∧ dk_ h' B (stlF A2 door) ∧ frd h h' B) := by
  refine en_X2_startLike rfl rfl rfl ?_
  have xo0 := D0.o
  have xa0 := D0.sh
  have xb0 := D0.ko
  have xc0 := D0.lo
  have xf0 := D0.co
  have x10 := D0.wo
  have x20 := D0.to
  have x30 := D0.so
  have x40 := D0.go
  have x50 := D0.po
  have xo0q := D0q.o
  have xa0q := D0q.sh
  have xb0q := D0q.ko
  have xc0q := D0q.lo
  have xf0q := D0q.co
  have x10q := D0q.wo
  have x20q := D0q.to
  have x30q := D0q.so
  have x40q := D0q.go
  have x50q := D0q.po
  simp only [w_X2_startLike_0, w_X2_startLike_1, w_X2_startLike_4, w_X2_startLike_5, w_X2_startLike_8, pm_1i_c, pm_2i_c, pm_1l_c, pm_2l_c, pm_1a_c, pm_ia_c, pm_iia_c, pm_va_c, pm_cp_c, pm_k0_c, pm_k1_c, pm_k2_c, pm_k3_c, pm_s1_c, pm_s2_c, pm_s3_c, pm_s4_c, pm_ri_c, pm_ra_c, pm_rn_c, pm_rk_i, pm_rk_z, pm_rk_a, pm_vk_i, pm_vk_z, pm_vk_a, pm_cti, pm_ctr, pm_ldi_z, pm_ldi_s, pm_lda_z, pm_lda_s, pm_cat_n, pm_cat_i, pm_cat_r, pm_cat_l, pm_obj, pm_arr, pm_opt, pm_ird, pm_aln, List.getElem?_cons_zero, List.getElem?_cons_succ, List.set_cons_zero, List.set_cons_succ, List.length_cons, List.length_nil, List.length_set, true_and, and_true, Nat.add_zero, Nat.zero_add, Nat.le_refl, Nat.reduceAdd, Nat.reduceLT, Nat.reduceLeDiff, Nat.zero_le, not_false_eq_true, not_true_eq_false, false_implies, implies_true, true_implies, Nat.zero_lt_succ, Nat.lt_add_one, xo0, xa0, xb0, xc0, xf0, x10, x20, x30, x40, x50, xo0q, xa0q, xb0q, xc0q, xf0q, x10q, x20q, x30q, x40q, x50q]
  refine PM_use (c_Shares_copyFrom D0.sh D0q.sh (by omega) (d + 3)) ?_
  rintro v h1 l1 ⟨rfl, E1⟩
  obtain ⟨g1, Eg1, lg1, fg1, D1⟩ := D0.psh (uS (uS (uS A 8 (sc A2 8)) 9 (sc A2 9)) 10 (sc A2 10)) (sc A2 8) (sc A2 9) (sc A2 10)
  rw [Eg1] at E1
  subst E1
  have f1 : frd h h1 B := fg1
  obtain ⟨A_1, hA_1⟩ : ∃ Z, Z = uS (uS (uS A 8 (sc A2 8)) 9 (sc A2 9)) 10 (sc A2 10) := ⟨_, rfl⟩
  rw [← hA_1] at D1
  have F1 : frd h h1 B := f1
  have L1 : h1.length = h.length := by omega
  have D1q := D0q.kept (fun j a b => F1 j (by omega))
  have xo1 := D1.o
  have xa1 := D1.sh
  have xb1 := D1.ko
  have xc1 := D1.lo
  have xf1 := D1.co
  have x11 := D1.wo
  have x21 := D1.to
  have x31 := D1.so
  have x41 := D1.go
  have x51 := D1.po
  have xo1q := D1q.o
  have xa1q := D1q.sh
  have xb1q := D1q.ko
  have xc1q := D1q.lo
  have xf1q := D1q.co
  have x11q := D1q.wo
  have x21q := D1q.to
  have x31q := D1q.so
  have x41q := D1q.go
  have x51q := D1q.po
  show W_X2_startLike _ _ _ _ _ _ _ _ _
  simp only [w_X2_startLike_11, w_X2_startLike_12, w_X2_startLike_15, w_X2_startLike_16, pm_1i_c, pm_2i_c, pm_1l_c, pm_2l_c, pm_1a_c, pm_ia_c, pm_iia_c, pm_va_c, pm_cp_c, pm_k0_c, pm_k1_c, pm_k2_c, pm_k3_c, pm_s1_c, pm_s2_c, pm_s3_c, pm_s4_c, pm_ri_c, pm_ra_c, pm_rn_c, pm_rk_i, pm_rk_z, pm_rk_a, pm_vk_i, pm_vk_z, pm_vk_a, pm_cti, pm_ctr, pm_ldi_z, pm_ldi_s, pm_lda_z, pm_lda_s, pm_cat_n, pm_cat_i, pm_cat_r, pm_cat_l, pm_obj, pm_arr, pm_opt, pm_ird, pm_aln, List.getElem?_cons_zero, List.getElem?_cons_succ, List.set_cons_zero, List.set_cons_succ, List.length_cons, List.length_nil, List.length_set, true_and, and_true, Nat.add_zero, Nat.zero_add, Nat.le_refl, Nat.reduceAdd, Nat.reduceLT, Nat.reduceLeDiff, Nat.zero_le, not_false_eq_true, not_true_eq_false, false_implies, implies_true, true_implies, Nat.zero_lt_succ, Nat.lt_add_one, pm_tl_n, pm_tl_s, sc_uL, xo1, xa1, xb1, xc1, xf1, x11, x21, x31, x41, x51, xo1q, xa1q, xb1q, xc1q, xf1q, x11q, x21q, x31q, x41q, x51q, L1]
  obtain ⟨h2, E2, l2, f2, D2⟩ := D1.psh (uS A_1 9 door) (sc A_1 8) door (sc A_1 10)
  rw [E2]
  obtain ⟨A_2, hA_2⟩ : ∃ Z, Z = uS A_1 9 door := ⟨_, rfl⟩
  rw [← hA_2] at D2
  have F2 : frd h h2 B := F1.tr f2
  have L2 : h2.length = h.length := by omega
  have D2q := D0q.kept (fun j a b => F2 j (by omega))
  have xo2 := D2.o
  have xa2 := D2.sh
  have xb2 := D2.ko
  have xc2 := D2.lo
  have xf2 := D2.co
  have x12 := D2.wo
  have x22 := D2.to
  have x32 := D2.so
  have x42 := D2.go
  have x52 := D2.po
  have xo2q := D2q.o
  have xa2q := D2q.sh
  have xb2q := D2q.ko
  have xc2q := D2q.lo
  have xf2q := D2q.co
  have x12q := D2q.wo
  have x22q := D2q.to
  have x32q := D2q.so
  have x42q := D2q.go
  have x52q := D2q.po
  simp only [w_X2_startLike_19, w_X2_startLike_20, w_X2_startLike_23, w_X2_startLike_24, w_X2_startLike_27, pm_1i_c, pm_2i_c, pm_1l_c, pm_2l_c, pm_1a_c, pm_ia_c, pm_iia_c, pm_va_c, pm_cp_c, pm_k0_c, pm_k1_c, pm_k2_c, pm_k3_c, pm_s1_c, pm_s2_c, pm_s3_c, pm_s4_c, pm_ri_c, pm_ra_c, pm_rn_c, pm_rk_i, pm_rk_z, pm_rk_a, pm_vk_i, pm_vk_z, pm_vk_a, pm_cti, pm_ctr, pm_ldi_z, pm_ldi_s, pm_lda_z, pm_lda_s, pm_cat_n, pm_cat_i, pm_cat_r, pm_cat_l, pm_obj, pm_arr, pm_opt, pm_ird, pm_aln, List.getElem?_cons_zero, List.getElem?_cons_succ, List.set_cons_zero, List.set_cons_succ, List.length_cons, List.length_nil, List.length_set, true_and, and_true, Nat.add_zero, Nat.zero_add, Nat.le_refl, Nat.reduceAdd, Nat.reduceLT, Nat.reduceLeDiff, Nat.zero_le, not_false_eq_true, not_true_eq_false, false_implies, implies_true, true_implies, Nat.zero_lt_succ, Nat.lt_add_one, xo2, xa2, xb2, xc2, xf2, x12, x22, x32, x42, x52, xo2q, xa2q, xb2q, xc2q, xf2q, x12q, x22q, x32q, x42q, x52q, L2]
  refine PM_use (c_Sketch_startLike D2.sk D2q.sk V.2.1 (by omega) (d + 1)) ?_
  rintro v h3 l3 ⟨rfl, K3a, K3b⟩
  have D3 := D2.usk (A' := mixS A_2 (strF A2)) (K3a.cg rfl rfl rfl rfl rfl rfl rfl) K3b (skEq_mixS _ _)
  have f3 : frd h2 h3 B := frd_3 K3b
  obtain ⟨A_3, hA_3⟩ : ∃ Z, Z = mixS A_2 (strF A2) := ⟨_, rfl⟩
  rw [← hA_3] at D3
  have F3 : frd h h3 B := F2.tr f3
  have L3 : h3.length = h.length := by omega
  have D3q := D0q.kept (fun j a b => F3 j (by omega))
  have xo3 := D3.o
  have xa3 := D3.sh
  have xb3 := D3.ko
  have xc3 := D3.lo
  have xf3 := D3.co
  have x13 := D3.wo
  have x23 := D3.to
  have x33 := D3.so
  have x43 := D3.go
  have x53 := D3.po
  have xo3q := D3q.o
  have xa3q := D3q.sh
  have xb3q := D3q.ko
  have xc3q := D3q.lo
  have xf3q := D3q.co
  have x13q := D3q.wo
  have x23q := D3q.to
  have x33q := D3q.so
  have x43q := D3q.go
  have x53q := D3q.po
  show W_X2_startLike _ _ _ _ _ _ _ _ _
  simp only [w_X2_startLike_30, w_X2_startLike_31, w_X2_startLike_34, w_X2_startLike_35, w_X2_startLike_38, pm_1i_c, pm_2i_c, pm_1l_c, pm_2l_c, pm_1a_c, pm_ia_c, pm_iia_c, pm_va_c, pm_cp_c, pm_k0_c, pm_k1_c, pm_k2_c, pm_k3_c, pm_s1_c, pm_s2_c, pm_s3_c, pm_s4_c, pm_ri_c, pm_ra_c, pm_rn_c, pm_rk_i, pm_rk_z, pm_rk_a, pm_vk_i, pm_vk_z, pm_vk_a, pm_cti, pm_ctr, pm_ldi_z, pm_ldi_s, pm_lda_z, pm_lda_s, pm_cat_n, pm_cat_i, pm_cat_r, pm_cat_l, pm_obj, pm_arr, pm_opt, pm_ird, pm_aln, List.getElem?_cons_zero, List.getElem?_cons_succ, List.set_cons_zero, List.set_cons_succ, List.length_cons, List.length_nil, List.length_set, true_and, and_true, Nat.add_zero, Nat.zero_add, Nat.le_refl, Nat.reduceAdd, Nat.reduceLT, Nat.reduceLeDiff, Nat.zero_le, not_false_eq_true, not_true_eq_false, false_implies, implies_true, true_implies, Nat.zero_lt_succ, Nat.lt_add_one, pm_tl_n, pm_tl_s, sc_uL, xo3, xa3, xb3, xc3, xf3, x13, x23, x33, x43, x53, xo3q, xa3q, xb3q, xc3q, xf3q, x13q, x23q, x33q, x43q, x53q, L3]
  obtain ⟨cs4, ka4, kb4⟩ := D3.la.2.1
  obtain ⟨ys4, kc4, kd4⟩ := D3q.la.2.1
  obtain ⟨st4, ke4⟩ := D3.la.2.2
  refine PM_use (c_Law_copyFrom D3.lo ka4 D3q.lo kc4 (by omega) (d + 2)) ?_
  rintro v h4 l4 ⟨rfl, K4a, K4b, K4c⟩
  have D4 : dk_ h4 B (uW (uS A_3 23 (sc A2 23)) (lw A2)) := D3.ulw ⟨K4a, ⟨ys4, K4b, kd4⟩, st4, ke4.kept (K4c _ (by omega) (by omega) (by omega)) (K4c _ (by omega) (by omega) (by omega))⟩ (fun i hi => K4c i (by omega) (by omega) (by omega)) (fun i hi => sc_ne hi) rfl rfl rfl
  have f4 : frd h3 h4 B := fun i hi => K4c i (by omega) (by omega) (by omega)
  obtain ⟨A_4, hA_4⟩ : ∃ Z, Z = uW (uS A_3 23 (sc A2 23)) (lw A2) := ⟨_, rfl⟩
  rw [← hA_4] at D4
  have F4 : frd h h4 B := F3.tr f4
  have L4 : h4.length = h.length := by omega
  have D4q := D0q.kept (fun j a b => F4 j (by omega))
  have xo4 := D4.o
  have xa4 := D4.sh
  have xb4 := D4.ko
  have xc4 := D4.lo
  have xf4 := D4.co
  have x14 := D4.wo
  have x24 := D4.to
  have x34 := D4.so
  have x44 := D4.go
  have x54 := D4.po
  have xo4q := D4q.o
  have xa4q := D4q.sh
  have xb4q := D4q.ko
  have xc4q := D4q.lo
  have xf4q := D4q.co
  have x14q := D4q.wo
  have x24q := D4q.to
  have x34q := D4q.so
  have x44q := D4q.go
  have x54q := D4q.po
  obtain ⟨dn, cell, hdn⟩ := D4.cl
  show W_X2_startLike _ _ _ _ _ _ _ _ _
  simp only [w_X2_startLike_41, w_X2_startLike_42, w_X2_startLike_45, w_X2_startLike_46, pm_1i_c, pm_2i_c, pm_1l_c, pm_2l_c, pm_1a_c, pm_ia_c, pm_iia_c, pm_va_c, pm_cp_c, pm_k0_c, pm_k1_c, pm_k2_c, pm_k3_c, pm_s1_c, pm_s2_c, pm_s3_c, pm_s4_c, pm_ri_c, pm_ra_c, pm_rn_c, pm_rk_i, pm_rk_z, pm_rk_a, pm_vk_i, pm_vk_z, pm_vk_a, pm_cti, pm_ctr, pm_ldi_z, pm_ldi_s, pm_lda_z, pm_lda_s, pm_cat_n, pm_cat_i, pm_cat_r, pm_cat_l, pm_obj, pm_arr, pm_opt, pm_ird, pm_aln, List.getElem?_cons_zero, List.getElem?_cons_succ, List.set_cons_zero, List.set_cons_succ, List.length_cons, List.length_nil, List.length_set, true_and, and_true, Nat.add_zero, Nat.zero_add, Nat.le_refl, Nat.reduceAdd, Nat.reduceLT, Nat.reduceLeDiff, Nat.zero_le, not_false_eq_true, not_true_eq_false, false_implies, implies_true, true_implies, Nat.zero_lt_succ, Nat.lt_add_one, pm_tl_n, pm_tl_s, sc_uL, xo4, xa4, xb4, xc4, xf4, x14, x24, x34, x44, x54, xo4q, xa4q, xb4q, xc4q, xf4q, x14q, x24q, x34q, x44q, x54q, L4, cell]
  refine PM_use (c_Climb_begin cell 0 (d + 3)) ?_
  rintro v h5 l5 ⟨rfl, E5⟩
  have D5 : dk_ h5 B (begF A_4 0) := by
    rw [E5]
    exact D4.ucl ⟨0, by rw [hset_s, cell]; rfl, Or.inl ⟨rfl, rfl⟩⟩ (fun i hi => hset_n (Ne.symm hi)) (fun i h1 h2 => by unfold begF; rw [sc_ne (by omega), sc_ne (by omega), sc_ne (by omega), sc_ne (by omega), sc_ne (by omega)]) rfl
  have f5 : frd h4 h5 B := by rw [E5]; exact frd_s (by omega)
  obtain ⟨A_5, hA_5⟩ : ∃ Z, Z = begF A_4 0 := ⟨_, rfl⟩
  rw [← hA_5] at D5
  have F5 : frd h h5 B := F4.tr f5
  have L5 : h5.length = h.length := by omega
  have D5q := D0q.kept (fun j a b => F5 j (by omega))
  have xo5 := D5.o
  have xa5 := D5.sh
  have xb5 := D5.ko
  have xc5 := D5.lo
  have xf5 := D5.co
  have x15 := D5.wo
  have x25 := D5.to
  have x35 := D5.so
  have x45 := D5.go
  have x55 := D5.po
  have xo5q := D5q.o
  have xa5q := D5q.sh
  have xb5q := D5q.ko
  have xc5q := D5q.lo
  have xf5q := D5q.co
  have x15q := D5q.wo
  have x25q := D5q.to
  have x35q := D5q.so
  have x45q := D5q.go
  have x55q := D5q.po
  show W_X2_startLike _ _ _ _ _ _ _ _ _
  simp only [w_X2_startLike_49, w_X2_startLike_50, w_X2_startLike_53, pm_1i_c, pm_2i_c, pm_1l_c, pm_2l_c, pm_1a_c, pm_ia_c, pm_iia_c, pm_va_c, pm_cp_c, pm_k0_c, pm_k1_c, pm_k2_c, pm_k3_c, pm_s1_c, pm_s2_c, pm_s3_c, pm_s4_c, pm_ri_c, pm_ra_c, pm_rn_c, pm_rk_i, pm_rk_z, pm_rk_a, pm_vk_i, pm_vk_z, pm_vk_a, pm_cti, pm_ctr, pm_ldi_z, pm_ldi_s, pm_lda_z, pm_lda_s, pm_cat_n, pm_cat_i, pm_cat_r, pm_cat_l, pm_obj, pm_arr, pm_opt, pm_ird, pm_aln, List.getElem?_cons_zero, List.getElem?_cons_succ, List.set_cons_zero, List.set_cons_succ, List.length_cons, List.length_nil, List.length_set, true_and, and_true, Nat.add_zero, Nat.zero_add, Nat.le_refl, Nat.reduceAdd, Nat.reduceLT, Nat.reduceLeDiff, Nat.zero_le, not_false_eq_true, not_true_eq_false, false_implies, implies_true, true_implies, Nat.zero_lt_succ, Nat.lt_add_one, pm_tl_n, pm_tl_s, sc_uL, xo5, xa5, xb5, xc5, xf5, x15, x25, x35, x45, x55, xo5q, xa5q, xb5q, xc5q, xf5q, x15q, x25q, x35q, x45q, x55q, L5]
  refine PM_use (c_Contest_clear D5.co (d + 3)) ?_
  rintro v h6 l6 ⟨rfl, E6⟩
  obtain ⟨g6, Eg6, lg6, fg6, D6⟩ := D5.pc (clrF A_5) (-1) (-1) (-1) (-1)
  rw [Eg6] at E6
  subst E6
  have f6 : frd h5 h6 B := fg6
  obtain ⟨A_6, hA_6⟩ : ∃ Z, Z = clrF A_5 := ⟨_, rfl⟩
  rw [← hA_6] at D6
  have F6 : frd h h6 B := F5.tr f6
  have L6 : h6.length = h.length := by omega
  have D6q := D0q.kept (fun j a b => F6 j (by omega))
  have xo6 := D6.o
  have xa6 := D6.sh
  have xb6 := D6.ko
  have xc6 := D6.lo
  have xf6 := D6.co
  have x16 := D6.wo
  have x26 := D6.to
  have x36 := D6.so
  have x46 := D6.go
  have x56 := D6.po
  have xo6q := D6q.o
  have xa6q := D6q.sh
  have xb6q := D6q.ko
  have xc6q := D6q.lo
  have xf6q := D6q.co
  have x16q := D6q.wo
  have x26q := D6q.to
  have x36q := D6q.so
  have x46q := D6q.go
  have x56q := D6q.po
  show W_X2_startLike _ _ _ _ _ _ _ _ _
  simp only [w_X2_startLike_56, w_X2_startLike_57, w_X2_startLike_60, w_X2_startLike_61, pm_1i_c, pm_2i_c, pm_1l_c, pm_2l_c, pm_1a_c, pm_ia_c, pm_iia_c, pm_va_c, pm_cp_c, pm_k0_c, pm_k1_c, pm_k2_c, pm_k3_c, pm_s1_c, pm_s2_c, pm_s3_c, pm_s4_c, pm_ri_c, pm_ra_c, pm_rn_c, pm_rk_i, pm_rk_z, pm_rk_a, pm_vk_i, pm_vk_z, pm_vk_a, pm_cti, pm_ctr, pm_ldi_z, pm_ldi_s, pm_lda_z, pm_lda_s, pm_cat_n, pm_cat_i, pm_cat_r, pm_cat_l, pm_obj, pm_arr, pm_opt, pm_ird, pm_aln, List.getElem?_cons_zero, List.getElem?_cons_succ, List.set_cons_zero, List.set_cons_succ, List.length_cons, List.length_nil, List.length_set, true_and, and_true, Nat.add_zero, Nat.zero_add, Nat.le_refl, Nat.reduceAdd, Nat.reduceLT, Nat.reduceLeDiff, Nat.zero_le, not_false_eq_true, not_true_eq_false, false_implies, implies_true, true_implies, Nat.zero_lt_succ, Nat.lt_add_one, pm_tl_n, pm_tl_s, sc_uL, xo6, xa6, xb6, xc6, xf6, x16, x26, x36, x46, x56, xo6q, xa6q, xb6q, xc6q, xf6q, x16q, x26q, x36q, x46q, x56q, L6]
  refine PM_use (c_Row_cut0 D6.w (d + 3)) ?_
  rintro v h7 l7 ⟨rfl, K7a, K7b⟩
  have D7 := D6.ur (p := 1) (by omega) (by omega) K7a K7b
  have f7 : frd h6 h7 B := frd_2 1 K7b (by omega)
  obtain ⟨A_7, hA_7⟩ : ∃ Z, Z = uL A_6 1 [] := ⟨_, rfl⟩
  rw [← hA_7] at D7
  have F7 : frd h h7 B := F6.tr f7
  have L7 : h7.length = h.length := by omega
  have D7q := D0q.kept (fun j a b => F7 j (by omega))
  have xo7 := D7.o
  have xa7 := D7.sh
  have xb7 := D7.ko
  have xc7 := D7.lo
  have xf7 := D7.co
  have x17 := D7.wo
  have x27 := D7.to
  have x37 := D7.so
  have x47 := D7.go
  have x57 := D7.po
  have xo7q := D7q.o
  have xa7q := D7q.sh
  have xb7q := D7q.ko
  have xc7q := D7q.lo
  have xf7q := D7q.co
  have x17q := D7q.wo
  have x27q := D7q.to
  have x37q := D7q.so
  have x47q := D7q.go
  have x57q := D7q.po
  show W_X2_startLike _ _ _ _ _ _ _ _ _
  simp only [w_X2_startLike_64, w_X2_startLike_65, w_X2_startLike_68, w_X2_startLike_69, pm_1i_c, pm_2i_c, pm_1l_c, pm_2l_c, pm_1a_c, pm_ia_c, pm_iia_c, pm_va_c, pm_cp_c, pm_k0_c, pm_k1_c, pm_k2_c, pm_k3_c, pm_s1_c, pm_s2_c, pm_s3_c, pm_s4_c, pm_ri_c, pm_ra_c, pm_rn_c, pm_rk_i, pm_rk_z, pm_rk_a, pm_vk_i, pm_vk_z, pm_vk_a, pm_cti, pm_ctr, pm_ldi_z, pm_ldi_s, pm_lda_z, pm_lda_s, pm_cat_n, pm_cat_i, pm_cat_r, pm_cat_l, pm_obj, pm_arr, pm_opt, pm_ird, pm_aln, List.getElem?_cons_zero, List.getElem?_cons_succ, List.set_cons_zero, List.set_cons_succ, List.length_cons, List.length_nil, List.length_set, true_and, and_true, Nat.add_zero, Nat.zero_add, Nat.le_refl, Nat.reduceAdd, Nat.reduceLT, Nat.reduceLeDiff, Nat.zero_le, not_false_eq_true, not_true_eq_false, false_implies, implies_true, true_implies, Nat.zero_lt_succ, Nat.lt_add_one, pm_tl_n, pm_tl_s, sc_uL, xo7, xa7, xb7, xc7, xf7, x17, x27, x37, x47, x57, xo7q, xa7q, xb7q, xc7q, xf7q, x17q, x27q, x37q, x47q, x57q, L7]
  refine PM_use (c_Row_cut0 D7.t (d + 3)) ?_
  rintro v h8 l8 ⟨rfl, K8a, K8b⟩
  have D8 := D7.ur (p := 2) (by omega) (by omega) K8a K8b
  have f8 : frd h7 h8 B := frd_2 2 K8b (by omega)
  obtain ⟨A_8, hA_8⟩ : ∃ Z, Z = uL A_7 2 [] := ⟨_, rfl⟩
  rw [← hA_8] at D8
  have F8 : frd h h8 B := F7.tr f8
  have L8 : h8.length = h.length := by omega
  have D8q := D0q.kept (fun j a b => F8 j (by omega))
  have xo8 := D8.o
  have xa8 := D8.sh
  have xb8 := D8.ko
  have xc8 := D8.lo
  have xf8 := D8.co
  have x18 := D8.wo
  have x28 := D8.to
  have x38 := D8.so
  have x48 := D8.go
  have x58 := D8.po
  have xo8q := D8q.o
  have xa8q := D8q.sh
  have xb8q := D8q.ko
  have xc8q := D8q.lo
  have xf8q := D8q.co
  have x18q := D8q.wo
  have x28q := D8q.to
  have x38q := D8q.so
  have x48q := D8q.go
  have x58q := D8q.po
  show W_X2_startLike _ _ _ _ _ _ _ _ _
  simp only [w_X2_startLike_72, w_X2_startLike_73, w_X2_startLike_76, w_X2_startLike_77, pm_1i_c, pm_2i_c, pm_1l_c, pm_2l_c, pm_1a_c, pm_ia_c, pm_iia_c, pm_va_c, pm_cp_c, pm_k0_c, pm_k1_c, pm_k2_c, pm_k3_c, pm_s1_c, pm_s2_c, pm_s3_c, pm_s4_c, pm_ri_c, pm_ra_c, pm_rn_c, pm_rk_i, pm_rk_z, pm_rk_a, pm_vk_i, pm_vk_z, pm_vk_a, pm_cti, pm_ctr, pm_ldi_z, pm_ldi_s, pm_lda_z, pm_lda_s, pm_cat_n, pm_cat_i, pm_cat_r, pm_cat_l, pm_obj, pm_arr, pm_opt, pm_ird, pm_aln, List.getElem?_cons_zero, List.getElem?_cons_succ, List.set_cons_zero, List.set_cons_succ, List.length_cons, List.length_nil, List.length_set, true_and, and_true, Nat.add_zero, Nat.zero_add, Nat.le_refl, Nat.reduceAdd, Nat.reduceLT, Nat.reduceLeDiff, Nat.zero_le, not_false_eq_true, not_true_eq_false, false_implies, implies_true, true_implies, Nat.zero_lt_succ, Nat.lt_add_one, pm_tl_n, pm_tl_s, sc_uL, xo8, xa8, xb8, xc8, xf8, x18, x28, x38, x48, x58, xo8q, xa8q, xb8q, xc8q, xf8q, x18q, x28q, x38q, x48q, x58q, L8]
  refine PM_use (c_Row_cut0 D8.s (d + 3)) ?_
  rintro v h9 l9 ⟨rfl, K9a, K9b⟩
  have D9 := D8.ur (p := 3) (by omega) (by omega) K9a K9b
  have f9 : frd h8 h9 B := frd_2 3 K9b (by omega)
  obtain ⟨A_9, hA_9⟩ : ∃ Z, Z = uL A_8 3 [] := ⟨_, rfl⟩
  rw [← hA_9] at D9
  have F9 : frd h h9 B := F8.tr f9
  have L9 : h9.length = h.length := by omega
  have D9q := D0q.kept (fun j a b => F9 j (by omega))
  have xo9 := D9.o
  have xa9 := D9.sh
  have xb9 := D9.ko
  have xc9 := D9.lo
  have xf9 := D9.co
  have x19 := D9.wo
  have x29 := D9.to
  have x39 := D9.so
  have x49 := D9.go
  have x59 := D9.po
  have xo9q := D9q.o
  have xa9q := D9q.sh
  have xb9q := D9q.ko
  have xc9q := D9q.lo
  have xf9q := D9q.co
  have x19q := D9q.wo
  have x29q := D9q.to
  have x39q := D9q.so
  have x49q := D9q.go
  have x59q := D9q.po
  show W_X2_startLike _ _ _ _ _ _ _ _ _
  simp only [w_X2_startLike_80, w_X2_startLike_81, w_X2_startLike_84, w_X2_startLike_85, pm_1i_c, pm_2i_c, pm_1l_c, pm_2l_c, pm_1a_c, pm_ia_c, pm_iia_c, pm_va_c, pm_cp_c, pm_k0_c, pm_k1_c, pm_k2_c, pm_k3_c, pm_s1_c, pm_s2_c, pm_s3_c, pm_s4_c, pm_ri_c, pm_ra_c, pm_rn_c, pm_rk_i, pm_rk_z, pm_rk_a, pm_vk_i, pm_vk_z, pm_vk_a, pm_cti, pm_ctr, pm_ldi_z, pm_ldi_s, pm_lda_z, pm_lda_s, pm_cat_n, pm_cat_i, pm_cat_r, pm_cat_l, pm_obj, pm_arr, pm_opt, pm_ird, pm_aln, List.getElem?_cons_zero, List.getElem?_cons_succ, List.set_cons_zero, List.set_cons_succ, List.length_cons, List.length_nil, List.length_set, true_and, and_true, Nat.add_zero, Nat.zero_add, Nat.le_refl, Nat.reduceAdd, Nat.reduceLT, Nat.reduceLeDiff, Nat.zero_le, not_false_eq_true, not_true_eq_false, false_implies, implies_true, true_implies, Nat.zero_lt_succ, Nat.lt_add_one, pm_tl_n, pm_tl_s, sc_uL, xo9, xa9, xb9, xc9, xf9, x19, x29, x39, x49, x59, xo9q, xa9q, xb9q, xc9q, xf9q, x19q, x29q, x39q, x49q, x59q, L9]
  refine PM_use (c_Row_cut0 D9.g (d + 3)) ?_
  rintro v h10 l10 ⟨rfl, K10a, K10b⟩
  have D10 := D9.ur (p := 4) (by omega) (by omega) K10a K10b
  have f10 : frd h9 h10 B := frd_2 4 K10b (by omega)
  obtain ⟨A_10, hA_10⟩ : ∃ Z, Z = uL A_9 4 [] := ⟨_, rfl⟩
  rw [← hA_10] at D10
  have F10 : frd h h10 B := F9.tr f10
  have L10 : h10.length = h.length := by omega
  have D10q := D0q.kept (fun j a b => F10 j (by omega))
  have xo10 := D10.o
  have xa10 := D10.sh
  have xb10 := D10.ko
  have xc10 := D10.lo
  have xf10 := D10.co
  have x110 := D10.wo
  have x210 := D10.to
  have x310 := D10.so
  have x410 := D10.go
  have x510 := D10.po
  have xo10q := D10q.o
  have xa10q := D10q.sh
  have xb10q := D10q.ko
  have xc10q := D10q.lo
  have xf10q := D10q.co
  have x110q := D10q.wo
  have x210q := D10q.to
  have x310q := D10q.so
  have x410q := D10q.go
  have x510q := D10q.po
  show W_X2_startLike _ _ _ _ _ _ _ _ _
  simp only [w_X2_startLike_88, w_X2_startLike_89, w_X2_startLike_92, w_X2_startLike_93, pm_1i_c, pm_2i_c, pm_1l_c, pm_2l_c, pm_1a_c, pm_ia_c, pm_iia_c, pm_va_c, pm_cp_c, pm_k0_c, pm_k1_c, pm_k2_c, pm_k3_c, pm_s1_c, pm_s2_c, pm_s3_c, pm_s4_c, pm_ri_c, pm_ra_c, pm_rn_c, pm_rk_i, pm_rk_z, pm_rk_a, pm_vk_i, pm_vk_z, pm_vk_a, pm_cti, pm_ctr, pm_ldi_z, pm_ldi_s, pm_lda_z, pm_lda_s, pm_cat_n, pm_cat_i, pm_cat_r, pm_cat_l, pm_obj, pm_arr, pm_opt, pm_ird, pm_aln, List.getElem?_cons_zero, List.getElem?_cons_succ, List.set_cons_zero, List.set_cons_succ, List.length_cons, List.length_nil, List.length_set, true_and, and_true, Nat.add_zero, Nat.zero_add, Nat.le_refl, Nat.reduceAdd, Nat.reduceLT, Nat.reduceLeDiff, Nat.zero_le, not_false_eq_true, not_true_eq_false, false_implies, implies_true, true_implies, Nat.zero_lt_succ, Nat.lt_add_one, pm_tl_n, pm_tl_s, sc_uL, xo10, xa10, xb10, xc10, xf10, x110, x210, x310, x410, x510, xo10q, xa10q, xb10q, xc10q, xf10q, x110q, x210q, x310q, x410q, x510q, L10]
  refine PM_use (c_Row_cut0 D10.p (d + 3)) ?_
  rintro v h11 l11 ⟨rfl, K11a, K11b⟩
  have D11 := D10.ur (p := 5) (by omega) (by omega) K11a K11b
  have f11 : frd h10 h11 B := frd_2 5 K11b (by omega)
  obtain ⟨A_11, hA_11⟩ : ∃ Z, Z = uL A_10 5 [] := ⟨_, rfl⟩
  rw [← hA_11] at D11
  have F11 : frd h h11 B := F10.tr f11
  have L11 : h11.length = h.length := by omega
  have D11q := D0q.kept (fun j a b => F11 j (by omega))
  have xo11 := D11.o
  have xa11 := D11.sh
  have xb11 := D11.ko
  have xc11 := D11.lo
  have xf11 := D11.co
  have x111 := D11.wo
  have x211 := D11.to
  have x311 := D11.so
  have x411 := D11.go
  have x511 := D11.po
  have xo11q := D11q.o
  have xa11q := D11q.sh
  have xb11q := D11q.ko
  have xc11q := D11q.lo
  have xf11q := D11q.co
  have x111q := D11q.wo
  have x211q := D11q.to
  have x311q := D11q.so
  have x411q := D11q.go
  have x511q := D11q.po
  show W_X2_startLike _ _ _ _ _ _ _ _ _
  simp only [w_X2_startLike_96, w_X2_startLike_97, w_X2_startLike_98, pm_1i_c, pm_2i_c, pm_1l_c, pm_2l_c, pm_1a_c, pm_ia_c, pm_iia_c, pm_va_c, pm_cp_c, pm_k0_c, pm_k1_c, pm_k2_c, pm_k3_c, pm_s1_c, pm_s2_c, pm_s3_c, pm_s4_c, pm_ri_c, pm_ra_c, pm_rn_c, pm_rk_i, pm_rk_z, pm_rk_a, pm_vk_i, pm_vk_z, pm_vk_a, pm_cti, pm_ctr, pm_ldi_z, pm_ldi_s, pm_lda_z, pm_lda_s, pm_cat_n, pm_cat_i, pm_cat_r, pm_cat_l, pm_obj, pm_arr, pm_opt, pm_ird, pm_aln, List.getElem?_cons_zero, List.getElem?_cons_succ, List.set_cons_zero, List.set_cons_succ, List.length_cons, List.length_nil, List.length_set, true_and, and_true, Nat.add_zero, Nat.zero_add, Nat.le_refl, Nat.reduceAdd, Nat.reduceLT, Nat.reduceLeDiff, Nat.zero_le, not_false_eq_true, not_true_eq_false, false_implies, implies_true, true_implies, Nat.zero_lt_succ, Nat.lt_add_one, pm_tl_n, pm_tl_s, sc_uL, xo11, xa11, xb11, xc11, xf11, x111, x211, x311, x411, x511, xo11q, xa11q, xb11q, xc11q, xf11q, x111q, x211q, x311q, x411q, x511q, L11]
  obtain ⟨h12, E12, l12, f12, D12⟩ := D11.pd (uS A_11 2 0) 0 (sc A_11 3) (sc A_11 4) (sc A_11 5) (sc A_11 6) (sc A_11 7)
  rw [E12]
  obtain ⟨A_12, hA_12⟩ : ∃ Z, Z = uS A_11 2 0 := ⟨_, rfl⟩
  rw [← hA_12] at D12
  have F12 : frd h h12 B := F11.tr f12
  have L12 : h12.length = h.length := by omega
  have D12q := D0q.kept (fun j a b => F12 j (by omega))
  have xo12 := D12.o
  have xa12 := D12.sh
  have xb12 := D12.ko
  have xc12 := D12.lo
  have xf12 := D12.co
  have x112 := D12.wo
  have x212 := D12.to
  have x312 := D12.so
  have x412 := D12.go
  have x512 := D12.po
  have xo12q := D12q.o
  have xa12q := D12q.sh
  have xb12q := D12q.ko
  have xc12q := D12q.lo
  have xf12q := D12q.co
  have x112q := D12q.wo
  have x212q := D12q.to
  have x312q := D12q.so
  have x412q := D12q.go
  have x512q := D12q.po
  simp only [w_X2_startLike_101, w_X2_startLike_102, w_X2_startLike_103, pm_1i_c, pm_2i_c, pm_1l_c, pm_2l_c, pm_1a_c, pm_ia_c, pm_iia_c, pm_va_c, pm_cp_c, pm_k0_c, pm_k1_c, pm_k2_c, pm_k3_c, pm_s1_c, pm_s2_c, pm_s3_c, pm_s4_c, pm_ri_c, pm_ra_c, pm_rn_c, pm_rk_i, pm_rk_z, pm_rk_a, pm_vk_i, pm_vk_z, pm_vk_a, pm_cti, pm_ctr, pm_ldi_z, pm_ldi_s, pm_lda_z, pm_lda_s, pm_cat_n, pm_cat_i, pm_cat_r, pm_cat_l, pm_obj, pm_arr, pm_opt, pm_ird, pm_aln, List.getElem?_cons_zero, List.getElem?_cons_succ, List.set_cons_zero, List.set_cons_succ, List.length_cons, List.length_nil, List.length_set, true_and, and_true, Nat.add_zero, Nat.zero_add, Nat.le_refl, Nat.reduceAdd, Nat.reduceLT, Nat.reduceLeDiff, Nat.zero_le, not_false_eq_true, not_true_eq_false, false_implies, implies_true, true_implies, Nat.zero_lt_succ, Nat.lt_add_one, xo12, xa12, xb12, xc12, xf12, x112, x212, x312, x412, x512, xo12q, xa12q, xb12q, xc12q, xf12q, x112q, x212q, x312q, x412q, x512q, L12]
  obtain ⟨h13, E13, l13, f13, D13⟩ := D12.pd (uS A_12 3 0) (sc A_12 2) 0 (sc A_12 4) (sc A_12 5) (sc A_12 6) (sc A_12 7)
  rw [E13]
  obtain ⟨A_13, hA_13⟩ : ∃ Z, Z = uS A_12 3 0 := ⟨_, rfl⟩
  rw [← hA_13] at D13
  have F13 : frd h h13 B := F12.tr f13
  have L13 : h13.length = h.length := by omega
  have D13q := D0q.kept (fun j a b => F13 j (by omega))
  have xo13 := D13.o
  have xa13 := D13.sh
  have xb13 := D13.ko
  have xc13 := D13.lo
  have xf13 := D13.co
  have x113 := D13.wo
  have x213 := D13.to
  have x313 := D13.so
  have x413 := D13.go
  have x513 := D13.po
  have xo13q := D13q.o
  have xa13q := D13q.sh
  have xb13q := D13q.ko
  have xc13q := D13q.lo
  have xf13q := D13q.co
  have x113q := D13q.wo
  have x213q := D13q.to
  have x313q := D13q.so
  have x413q := D13q.go
  have x513q := D13q.po
  simp only [w_X2_startLike_106, w_X2_startLike_107, w_X2_startLike_108, pm_1i_c, pm_2i_c, pm_1l_c, pm_2l_c, pm_1a_c, pm_ia_c, pm_iia_c, pm_va_c, pm_cp_c, pm_k0_c, pm_k1_c, pm_k2_c, pm_k3_c, pm_s1_c, pm_s2_c, pm_s3_c, pm_s4_c, pm_ri_c, pm_ra_c, pm_rn_c, pm_rk_i, pm_rk_z, pm_rk_a, pm_vk_i, pm_vk_z, pm_vk_a, pm_cti, pm_ctr, pm_ldi_z, pm_ldi_s, pm_lda_z, pm_lda_s, pm_cat_n, pm_cat_i, pm_cat_r, pm_cat_l, pm_obj, pm_arr, pm_opt, pm_ird, pm_aln, List.getElem?_cons_zero, List.getElem?_cons_succ, List.set_cons_zero, List.set_cons_succ, List.length_cons, List.length_nil, List.length_set, true_and, and_true, Nat.add_zero, Nat.zero_add, Nat.le_refl, Nat.reduceAdd, Nat.reduceLT, Nat.reduceLeDiff, Nat.zero_le, not_false_eq_true, not_true_eq_false, false_implies, implies_true, true_implies, Nat.zero_lt_succ, Nat.lt_add_one, xo13, xa13, xb13, xc13, xf13, x113, x213, x313, x413, x513, xo13q, xa13q, xb13q, xc13q, xf13q, x113q, x213q, x313q, x413q, x513q, L13]
  obtain ⟨h14, E14, l14, f14, D14⟩ := D13.pd (uS A_13 4 0) (sc A_13 2) (sc A_13 3) 0 (sc A_13 5) (sc A_13 6) (sc A_13 7)
  rw [E14]
  obtain ⟨A_14, hA_14⟩ : ∃ Z, Z = uS A_13 4 0 := ⟨_, rfl⟩
  rw [← hA_14] at D14
  have F14 : frd h h14 B := F13.tr f14
  have L14 : h14.length = h.length := by omega
  have D14q := D0q.kept (fun j a b => F14 j (by omega))
  have xo14 := D14.o
  have xa14 := D14.sh
  have xb14 := D14.ko
  have xc14 := D14.lo
  have xf14 := D14.co
  have x114 := D14.wo
  have x214 := D14.to
  have x314 := D14.so
  have x414 := D14.go
  have x514 := D14.po
  have xo14q := D14q.o
  have xa14q := D14q.sh
  have xb14q := D14q.ko
  have xc14q := D14q.lo
  have xf14q := D14q.co
  have x114q := D14q.wo
  have x214q := D14q.to
  have x314q := D14q.so
  have x414q := D14q.go
  have x514q := D14q.po
  simp only [w_X2_startLike_111, w_X2_startLike_112, w_X2_startLike_113, pm_1i_c, pm_2i_c, pm_1l_c, pm_2l_c, pm_1a_c, pm_ia_c, pm_iia_c, pm_va_c, pm_cp_c, pm_k0_c, pm_k1_c, pm_k2_c, pm_k3_c, pm_s1_c, pm_s2_c, pm_s3_c, pm_s4_c, pm_ri_c, pm_ra_c, pm_rn_c, pm_rk_i, pm_rk_z, pm_rk_a, pm_vk_i, pm_vk_z, pm_vk_a, pm_cti, pm_ctr, pm_ldi_z, pm_ldi_s, pm_lda_z, pm_lda_s, pm_cat_n, pm_cat_i, pm_cat_r, pm_cat_l, pm_obj, pm_arr, pm_opt, pm_ird, pm_aln, List.getElem?_cons_zero, List.getElem?_cons_succ, List.set_cons_zero, List.set_cons_succ, List.length_cons, List.length_nil, List.length_set, true_and, and_true, Nat.add_zero, Nat.zero_add, Nat.le_refl, Nat.reduceAdd, Nat.reduceLT, Nat.reduceLeDiff, Nat.zero_le, not_false_eq_true, not_true_eq_false, false_implies, implies_true, true_implies, Nat.zero_lt_succ, Nat.lt_add_one, xo14, xa14, xb14, xc14, xf14, x114, x214, x314, x414, x514, xo14q, xa14q, xb14q, xc14q, xf14q, x114q, x214q, x314q, x414q, x514q, L14]
  obtain ⟨h15, E15, l15, f15, D15⟩ := D14.pd (uS A_14 5 0) (sc A_14 2) (sc A_14 3) (sc A_14 4) 0 (sc A_14 6) (sc A_14 7)
  rw [E15]
  obtain ⟨A_15, hA_15⟩ : ∃ Z, Z = uS A_14 5 0 := ⟨_, rfl⟩
  rw [← hA_15] at D15
  have F15 : frd h h15 B := F14.tr f15
  have L15 : h15.length = h.length := by omega
  have D15q := D0q.kept (fun j a b => F15 j (by omega))
  have xo15 := D15.o
  have xa15 := D15.sh
  have xb15 := D15.ko
  have xc15 := D15.lo
  have xf15 := D15.co
  have x115 := D15.wo
  have x215 := D15.to
  have x315 := D15.so
  have x415 := D15.go
  have x515 := D15.po
  have xo15q := D15q.o
  have xa15q := D15q.sh
  have xb15q := D15q.ko
  have xc15q := D15q.lo
  have xf15q := D15q.co
  have x115q := D15q.wo
  have x215q := D15q.to
  have x315q := D15q.so
  have x415q := D15q.go
  have x515q := D15q.po
  simp only [w_X2_startLike_116, w_X2_startLike_117, w_X2_startLike_118, pm_1i_c, pm_2i_c, pm_1l_c, pm_2l_c, pm_1a_c, pm_ia_c, pm_iia_c, pm_va_c, pm_cp_c, pm_k0_c, pm_k1_c, pm_k2_c, pm_k3_c, pm_s1_c, pm_s2_c, pm_s3_c, pm_s4_c, pm_ri_c, pm_ra_c, pm_rn_c, pm_rk_i, pm_rk_z, pm_rk_a, pm_vk_i, pm_vk_z, pm_vk_a, pm_cti, pm_ctr, pm_ldi_z, pm_ldi_s, pm_lda_z, pm_lda_s, pm_cat_n, pm_cat_i, pm_cat_r, pm_cat_l, pm_obj, pm_arr, pm_opt, pm_ird, pm_aln, List.getElem?_cons_zero, List.getElem?_cons_succ, List.set_cons_zero, List.set_cons_succ, List.length_cons, List.length_nil, List.length_set, true_and, and_true, Nat.add_zero, Nat.zero_add, Nat.le_refl, Nat.reduceAdd, Nat.reduceLT, Nat.reduceLeDiff, Nat.zero_le, not_false_eq_true, not_true_eq_false, false_implies, implies_true, true_implies, Nat.zero_lt_succ, Nat.lt_add_one, xo15, xa15, xb15, xc15, xf15, x115, x215, x315, x415, x515, xo15q, xa15q, xb15q, xc15q, xf15q, x115q, x215q, x315q, x415q, x515q, L15]
  obtain ⟨h16, E16, l16, f16, D16⟩ := D15.pd (uS A_15 6 0) (sc A_15 2) (sc A_15 3) (sc A_15 4) (sc A_15 5) 0 (sc A_15 7)
  rw [E16]
  obtain ⟨A_16, hA_16⟩ : ∃ Z, Z = uS A_15 6 0 := ⟨_, rfl⟩
  rw [← hA_16] at D16
  have F16 : frd h h16 B := F15.tr f16
  have L16 : h16.length = h.length := by omega
  have D16q := D0q.kept (fun j a b => F16 j (by omega))
  have xo16 := D16.o
  have xa16 := D16.sh
  have xb16 := D16.ko
  have xc16 := D16.lo
  have xf16 := D16.co
  have x116 := D16.wo
  have x216 := D16.to
  have x316 := D16.so
  have x416 := D16.go
  have x516 := D16.po
  have xo16q := D16q.o
  have xa16q := D16q.sh
  have xb16q := D16q.ko
  have xc16q := D16q.lo
  have xf16q := D16q.co
  have x116q := D16q.wo
  have x216q := D16q.to
  have x316q := D16q.so
  have x416q := D16q.go
  have x516q := D16q.po
  simp only [w_X2_startLike_121, w_X2_startLike_122, w_X2_startLike_123, pm_1i_c, pm_2i_c, pm_1l_c, pm_2l_c, pm_1a_c, pm_ia_c, pm_iia_c, pm_va_c, pm_cp_c, pm_k0_c, pm_k1_c, pm_k2_c, pm_k3_c, pm_s1_c, pm_s2_c, pm_s3_c, pm_s4_c, pm_ri_c, pm_ra_c, pm_rn_c, pm_rk_i, pm_rk_z, pm_rk_a, pm_vk_i, pm_vk_z, pm_vk_a, pm_cti, pm_ctr, pm_ldi_z, pm_ldi_s, pm_lda_z, pm_lda_s, pm_cat_n, pm_cat_i, pm_cat_r, pm_cat_l, pm_obj, pm_arr, pm_opt, pm_ird, pm_aln, List.getElem?_cons_zero, List.getElem?_cons_succ, List.set_cons_zero, List.set_cons_succ, List.length_cons, List.length_nil, List.length_set, true_and, and_true, Nat.add_zero, Nat.zero_add, Nat.le_refl, Nat.reduceAdd, Nat.reduceLT, Nat.reduceLeDiff, Nat.zero_le, not_false_eq_true, not_true_eq_false, false_implies, implies_true, true_implies, Nat.zero_lt_succ, Nat.lt_add_one, xo16, xa16, xb16, xc16, xf16, x116, x216, x316, x416, x516, xo16q, xa16q, xb16q, xc16q, xf16q, x116q, x216q, x316q, x416q, x516q, L16]
  obtain ⟨h17, E17, l17, f17, D17⟩ := D16.pd (uS A_16 7 0) (sc A_16 2) (sc A_16 3) (sc A_16 4) (sc A_16 5) (sc A_16 6) 0
  rw [E17]
  obtain ⟨A_17, hA_17⟩ : ∃ Z, Z = uS A_16 7 0 := ⟨_, rfl⟩
  rw [← hA_17] at D17
  have F17 : frd h h17 B := F16.tr f17
  have L17 : h17.length = h.length := by omega
  have D17q := D0q.kept (fun j a b => F17 j (by omega))
  have xo17 := D17.o
  have xa17 := D17.sh
  have xb17 := D17.ko
  have xc17 := D17.lo
  have xf17 := D17.co
  have x117 := D17.wo
  have x217 := D17.to
  have x317 := D17.so
  have x417 := D17.go
  have x517 := D17.po
  have xo17q := D17q.o
  have xa17q := D17q.sh
  have xb17q := D17q.ko
  have xc17q := D17q.lo
  have xf17q := D17q.co
  have x117q := D17q.wo
  have x217q := D17q.to
  have x317q := D17q.so
  have x417q := D17q.go
  have x517q := D17q.po
  simp only [w_X2_startLike_126, pm_1i_c, pm_2i_c, pm_1l_c, pm_2l_c, pm_1a_c, pm_ia_c, pm_iia_c, pm_va_c, pm_cp_c, pm_k0_c, pm_k1_c, pm_k2_c, pm_k3_c, pm_s1_c, pm_s2_c, pm_s3_c, pm_s4_c, pm_ri_c, pm_ra_c, pm_rn_c, pm_rk_i, pm_rk_z, pm_rk_a, pm_vk_i, pm_vk_z, pm_vk_a, pm_cti, pm_ctr, pm_ldi_z, pm_ldi_s, pm_lda_z, pm_lda_s, pm_cat_n, pm_cat_i, pm_cat_r, pm_cat_l, pm_obj, pm_arr, pm_opt, pm_ird, pm_aln, List.getElem?_cons_zero, List.getElem?_cons_succ, List.set_cons_zero, List.set_cons_succ, List.length_cons, List.length_nil, List.length_set, true_and, and_true, Nat.add_zero, Nat.zero_add, Nat.le_refl, Nat.reduceAdd, Nat.reduceLT, Nat.reduceLeDiff, Nat.zero_le, not_false_eq_true, not_true_eq_false, false_implies, implies_true, true_implies, Nat.zero_lt_succ, Nat.lt_add_one, xo17, xa17, xb17, xc17, xf17, x117, x217, x317, x417, x517, xo17q, xa17q, xb17q, xc17q, xf17q, x117q, x217q, x317q, x417q, x517q, L17]
  subst hA_17 hA_16 hA_15 hA_14 hA_13 hA_12 hA_11 hA_10 hA_9 hA_8 hA_7 hA_6 hA_5 hA_4 hA_3 hA_2 hA_1
  exact ⟨D17.ext ⟨all24 rfl rfl rfl rfl rfl rfl rfl rfl rfl rfl rfl rfl rfl rfl rfl rfl rfl rfl rfl rfl rfl rfl rfl rfl, all5 rfl rfl rfl rfl rfl, fun _ _ => rfl, fun _ _ => rfl, Or.inr fun _ => rfl⟩, F17⟩
set_option maxHeartbeats 2000000 in
theorem c_Desk_copyFrom (D0 : dk_ h B A) (D0q : dk_ h O A2) (nd : B + 26 ≤ O ∨ O + 26 ≤ B) (V : skV A2) (d : Nat) : PM (d + 5) 26 [.ref B, .ref O] h (fun v h' => v = none ∧ dk_ h' B A2 ∧ frd h h' B) := by
  refine en_X2_copyFrom rfl rfl ?_
  have xo0 := D0.o
  have xa0 := D0.sh
  have xb0 := D0.ko
  have xc0 := D0.lo
  have xf0 := D0.co
  have x10 := D0.wo
  have x20 := D0.to
  have x30 := D0.so
  have x40 := D0.go
  have x50 := D0.po
  have xo0q := D0q.o
  have xa0q := D0q.sh
  have xb0q := D0q.ko
  have xc0q := D0q.lo
  have xf0q := D0q.co
  have x10q := D0q.wo
  have x20q := D0q.to
  have x30q := D0q.so
  have x40q := D0q.go
  have x50q := D0q.po
  simp only [w_X2_copyFrom_0, w_X2_copyFrom_1, w_X2_copyFrom_4, w_X2_copyFrom_5, w_X2_copyFrom_8, pm_1i_c, pm_2i_c, pm_1l_c, pm_2l_c, pm_1a_c, pm_ia_c, pm_iia_c, pm_va_c, pm_cp_c, pm_k0_c, pm_k1_c, pm_k2_c, pm_k3_c, pm_s1_c, pm_s2_c, pm_s3_c, pm_s4_c, pm_ri_c, pm_ra_c, pm_rn_c, pm_rk_i, pm_rk_z, pm_rk_a, pm_vk_i, pm_vk_z, pm_vk_a, pm_cti, pm_ctr, pm_ldi_z, pm_ldi_s, pm_lda_z, pm_lda_s, pm_cat_n, pm_cat_i, pm_cat_r, pm_cat_l, pm_obj, pm_arr, pm_opt, pm_ird, pm_aln, List.getElem?_cons_zero, List.getElem?_cons_succ, List.set_cons_zero, List.set_cons_succ, List.length_cons, List.length_nil, List.length_set, true_and, and_true, Nat.add_zero, Nat.zero_add, Nat.le_refl, Nat.reduceAdd, Nat.reduceLT, Nat.reduceLeDiff, Nat.zero_le, not_false_eq_true, not_true_eq_false, false_implies, implies_true, true_implies, Nat.zero_lt_succ, Nat.lt_add_one, xo0, xa0, xb0, xc0, xf0, x10, x20, x30, x40, x50, xo0q, xa0q, xb0q, xc0q, xf0q, x10q, x20q, x30q, x40q, x50q]
  refine PM_use (c_Shares_copyFrom D0.sh D0q.sh (by omega) (d + 3)) ?_
  rintro v h1 l1 ⟨rfl, E1⟩
  obtain ⟨g1, Eg1, lg1, fg1, D1⟩ := D0.psh (uS (uS (uS A 8 (sc A2 8)) 9 (sc A2 9)) 10 (sc A2 10)) (sc A2 8) (sc A2 9) (sc A2 10)
  rw [Eg1] at E1
  subst E1
  have f1 : frd h h1 B := fg1
  obtain ⟨A_1, hA_1⟩ : ∃ Z, Z = uS (uS (uS A 8 (sc A2 8)) 9 (sc A2 9)) 10 (sc A2 10) := ⟨_, rfl⟩
  rw [← hA_1] at D1
  have F1 : frd h h1 B := f1
  have L1 : h1.length = h.length := by omega
  have D1q := D0q.kept (fun j a b => F1 j (by omega))
  have xo1 := D1.o
  have xa1 := D1.sh
  have xb1 := D1.ko
  have xc1 := D1.lo
  have xf1 := D1.co
  have x11 := D1.wo
  have x21 := D1.to
  have x31 := D1.so
  have x41 := D1.go
  have x51 := D1.po
  have xo1q := D1q.o
  have xa1q := D1q.sh
  have xb1q := D1q.ko
  have xc1q := D1q.lo
  have xf1q := D1q.co
  have x11q := D1q.wo
  have x21q := D1q.to
  have x31q := D1q.so
  have x41q := D1q.go
  have x51q := D1q.po
  show W_X2_copyFrom _ _ _ _ _ _ _ _ _
  simp only [w_X2_copyFrom_11, w_X2_copyFrom_12, w_X2_copyFrom_15, w_X2_copyFrom_16, w_X2_copyFrom_19, pm_1i_c, pm_2i_c, pm_1l_c, pm_2l_c, pm_1a_c, pm_ia_c, pm_iia_c, pm_va_c, pm_cp_c, pm_k0_c, pm_k1_c, pm_k2_c, pm_k3_c, pm_s1_c, pm_s2_c, pm_s3_c, pm_s4_c, pm_ri_c, pm_ra_c, pm_rn_c, pm_rk_i, pm_rk_z, pm_rk_a, pm_vk_i, pm_vk_z, pm_vk_a, pm_cti, pm_ctr, pm_ldi_z, pm_ldi_s, pm_lda_z, pm_lda_s, pm_cat_n, pm_cat_i, pm_cat_r, pm_cat_l, pm_obj, pm_arr, pm_opt, pm_ird, pm_aln, List.getElem?_cons_zero, List.getElem?_cons_succ, List.set_cons_zero, List.set_cons_succ, List.length_cons, List.length_nil, List.length_set, true_and, and_true, Nat.add_zero, Nat.zero_add, Nat.le_refl, Nat.reduceAdd, Nat.reduceLT, Nat.reduceLeDiff, Nat.zero_le, not_false_eq_true, not_true_eq_false, false_implies, implies_true, true_implies, Nat.zero_lt_succ, Nat.lt_add_one, pm_tl_n, pm_tl_s, sc_uL, xo1, xa1, xb1, xc1, xf1, x11, x21, x31, x41, x51, xo1q, xa1q, xb1q, xc1q, xf1q, x11q, x21q, x31q, x41q, x51q, L1]
  refine PM_use (c_Sketch_copyFrom D1.sk D1q.sk V (by omega) (d + 3)) ?_
  rintro v h2 l2 ⟨rfl, K2a, K2b⟩
  have D2 := D1.usk (A' := mixS A_1 A2) (K2a.cg rfl rfl rfl rfl rfl rfl rfl) K2b (skEq_mixS _ _)
  have f2 : frd h1 h2 B := frd_3 K2b
  obtain ⟨A_2, hA_2⟩ : ∃ Z, Z = mixS A_1 A2 := ⟨_, rfl⟩
  rw [← hA_2] at D2
  have F2 : frd h h2 B := F1.tr f2
  have L2 : h2.length = h.length := by omega
  have D2q := D0q.kept (fun j a b => F2 j (by omega))
  have xo2 := D2.o
  have xa2 := D2.sh
  have xb2 := D2.ko
  have xc2 := D2.lo
  have xf2 := D2.co
  have x12 := D2.wo
  have x22 := D2.to
  have x32 := D2.so
  have x42 := D2.go
  have x52 := D2.po
  have xo2q := D2q.o
  have xa2q := D2q.sh
  have xb2q := D2q.ko
  have xc2q := D2q.lo
  have xf2q := D2q.co
  have x12q := D2q.wo
  have x22q := D2q.to
  have x32q := D2q.so
  have x42q := D2q.go
  have x52q := D2q.po
  show W_X2_copyFrom _ _ _ _ _ _ _ _ _
  simp only [w_X2_copyFrom_22, w_X2_copyFrom_23, w_X2_copyFrom_26, w_X2_copyFrom_27, w_X2_copyFrom_30, pm_1i_c, pm_2i_c, pm_1l_c, pm_2l_c, pm_1a_c, pm_ia_c, pm_iia_c, pm_va_c, pm_cp_c, pm_k0_c, pm_k1_c, pm_k2_c, pm_k3_c, pm_s1_c, pm_s2_c, pm_s3_c, pm_s4_c, pm_ri_c, pm_ra_c, pm_rn_c, pm_rk_i, pm_rk_z, pm_rk_a, pm_vk_i, pm_vk_z, pm_vk_a, pm_cti, pm_ctr, pm_ldi_z, pm_ldi_s, pm_lda_z, pm_lda_s, pm_cat_n, pm_cat_i, pm_cat_r, pm_cat_l, pm_obj, pm_arr, pm_opt, pm_ird, pm_aln, List.getElem?_cons_zero, List.getElem?_cons_succ, List.set_cons_zero, List.set_cons_succ, List.length_cons, List.length_nil, List.length_set, true_and, and_true, Nat.add_zero, Nat.zero_add, Nat.le_refl, Nat.reduceAdd, Nat.reduceLT, Nat.reduceLeDiff, Nat.zero_le, not_false_eq_true, not_true_eq_false, false_implies, implies_true, true_implies, Nat.zero_lt_succ, Nat.lt_add_one, pm_tl_n, pm_tl_s, sc_uL, xo2, xa2, xb2, xc2, xf2, x12, x22, x32, x42, x52, xo2q, xa2q, xb2q, xc2q, xf2q, x12q, x22q, x32q, x42q, x52q, L2]
  obtain ⟨cs3, ka3, kb3⟩ := D2.la.2.1
  obtain ⟨ys3, kc3, kd3⟩ := D2q.la.2.1
  obtain ⟨st3, ke3⟩ := D2.la.2.2
  refine PM_use (c_Law_copyFrom D2.lo ka3 D2q.lo kc3 (by omega) (d + 2)) ?_
  rintro v h3 l3 ⟨rfl, K3a, K3b, K3c⟩
  have D3 : dk_ h3 B (uW (uS A_2 23 (sc A2 23)) (lw A2)) := D2.ulw ⟨K3a, ⟨ys3, K3b, kd3⟩, st3, ke3.kept (K3c _ (by omega) (by omega) (by omega)) (K3c _ (by omega) (by omega) (by omega))⟩ (fun i hi => K3c i (by omega) (by omega) (by omega)) (fun i hi => sc_ne hi) rfl rfl rfl
  have f3 : frd h2 h3 B := fun i hi => K3c i (by omega) (by omega) (by omega)
  obtain ⟨A_3, hA_3⟩ : ∃ Z, Z = uW (uS A_2 23 (sc A2 23)) (lw A2) := ⟨_, rfl⟩
  rw [← hA_3] at D3
  have F3 : frd h h3 B := F2.tr f3
  have L3 : h3.length = h.length := by omega
  have D3q := D0q.kept (fun j a b => F3 j (by omega))
  have xo3 := D3.o
  have xa3 := D3.sh
  have xb3 := D3.ko
  have xc3 := D3.lo
  have xf3 := D3.co
  have x13 := D3.wo
  have x23 := D3.to
  have x33 := D3.so
  have x43 := D3.go
  have x53 := D3.po
  have xo3q := D3q.o
  have xa3q := D3q.sh
  have xb3q := D3q.ko
  have xc3q := D3q.lo
  have xf3q := D3q.co
  have x13q := D3q.wo
  have x23q := D3q.to
  have x33q := D3q.so
  have x43q := D3q.go
  have x53q := D3q.po
  obtain ⟨dn, cell, hdn⟩ := D3.cl
  obtain ⟨dn2, cell2, hdn2⟩ := D3q.cl
  show W_X2_copyFrom _ _ _ _ _ _ _ _ _
  simp only [w_X2_copyFrom_33, w_X2_copyFrom_34, w_X2_copyFrom_37, w_X2_copyFrom_38, w_X2_copyFrom_41, pm_1i_c, pm_2i_c, pm_1l_c, pm_2l_c, pm_1a_c, pm_ia_c, pm_iia_c, pm_va_c, pm_cp_c, pm_k0_c, pm_k1_c, pm_k2_c, pm_k3_c, pm_s1_c, pm_s2_c, pm_s3_c, pm_s4_c, pm_ri_c, pm_ra_c, pm_rn_c, pm_rk_i, pm_rk_z, pm_rk_a, pm_vk_i, pm_vk_z, pm_vk_a, pm_cti, pm_ctr, pm_ldi_z, pm_ldi_s, pm_lda_z, pm_lda_s, pm_cat_n, pm_cat_i, pm_cat_r, pm_cat_l, pm_obj, pm_arr, pm_opt, pm_ird, pm_aln, List.getElem?_cons_zero, List.getElem?_cons_succ, List.set_cons_zero, List.set_cons_succ, List.length_cons, List.length_nil, List.length_set, true_and, and_true, Nat.add_zero, Nat.zero_add, Nat.le_refl, Nat.reduceAdd, Nat.reduceLT, Nat.reduceLeDiff, Nat.zero_le, not_false_eq_true, not_true_eq_false, false_implies, implies_true, true_implies, Nat.zero_lt_succ, Nat.lt_add_one, pm_tl_n, pm_tl_s, sc_uL, xo3, xa3, xb3, xc3, xf3, x13, x23, x33, x43, x53, xo3q, xa3q, xb3q, xc3q, xf3q, x13q, x23q, x33q, x43q, x53q, L3, cell, cell2]
  refine PM_use (c_Climb_copyFrom cell cell2 (by rcases hdn2 with z | z; exact Or.inl z.1; exact Or.inr z.1) (by omega) (d + 3)) ?_
  rintro v h4 l4 ⟨rfl, E4⟩
  have D4 : dk_ h4 B (uS (uS (uS (uS (uS A_3 12 (sc A2 12)) 15 (sc A2 15)) 16 (sc A2 16)) 17 (sc A2 17)) 18 (sc A2 18)) := by
    rw [E4]
    exact D3.ucl ⟨dn2, by rw [hset_s, cell]; rfl, hdn2⟩ (fun i hi => hset_n (Ne.symm hi)) (fun i h1 h2 => by rw [sc_ne (by omega), sc_ne (by omega), sc_ne (by omega), sc_ne (by omega), sc_ne (by omega)]) rfl
  have f4 : frd h3 h4 B := by rw [E4]; exact frd_s (by omega)
  obtain ⟨A_4, hA_4⟩ : ∃ Z, Z = uS (uS (uS (uS (uS A_3 12 (sc A2 12)) 15 (sc A2 15)) 16 (sc A2 16)) 17 (sc A2 17)) 18 (sc A2 18) := ⟨_, rfl⟩
  rw [← hA_4] at D4
  have F4 : frd h h4 B := F3.tr f4
  have L4 : h4.length = h.length := by omega
  have D4q := D0q.kept (fun j a b => F4 j (by omega))
  have xo4 := D4.o
  have xa4 := D4.sh
  have xb4 := D4.ko
  have xc4 := D4.lo
  have xf4 := D4.co
  have x14 := D4.wo
  have x24 := D4.to
  have x34 := D4.so
  have x44 := D4.go
  have x54 := D4.po
  have xo4q := D4q.o
  have xa4q := D4q.sh
  have xb4q := D4q.ko
  have xc4q := D4q.lo
  have xf4q := D4q.co
  have x14q := D4q.wo
  have x24q := D4q.to
  have x34q := D4q.so
  have x44q := D4q.go
  have x54q := D4q.po
  show W_X2_copyFrom _ _ _ _ _ _ _ _ _
  simp only [w_X2_copyFrom_44, w_X2_copyFrom_45, w_X2_copyFrom_48, w_X2_copyFrom_49, w_X2_copyFrom_52, pm_1i_c, pm_2i_c, pm_1l_c, pm_2l_c, pm_1a_c, pm_ia_c, pm_iia_c, pm_va_c, pm_cp_c, pm_k0_c, pm_k1_c, pm_k2_c, pm_k3_c, pm_s1_c, pm_s2_c, pm_s3_c, pm_s4_c, pm_ri_c, pm_ra_c, pm_rn_c, pm_rk_i, pm_rk_z, pm_rk_a, pm_vk_i, pm_vk_z, pm_vk_a, pm_cti, pm_ctr, pm_ldi_z, pm_ldi_s, pm_lda_z, pm_lda_s, pm_cat_n, pm_cat_i, pm_cat_r, pm_cat_l, pm_obj, pm_arr, pm_opt, pm_ird, pm_aln, List.getElem?_cons_zero, List.getElem?_cons_succ, List.set_cons_zero, List.set_cons_succ, List.length_cons, List.length_nil, List.length_set, true_and, and_true, Nat.add_zero, Nat.zero_add, Nat.le_refl, Nat.reduceAdd, Nat.reduceLT, Nat.reduceLeDiff, Nat.zero_le, not_false_eq_true, not_true_eq_false, false_implies, implies_true, true_implies, Nat.zero_lt_succ, Nat.lt_add_one, pm_tl_n, pm_tl_s, sc_uL, xo4, xa4, xb4, xc4, xf4, x14, x24, x34, x44, x54, xo4q, xa4q, xb4q, xc4q, xf4q, x14q, x24q, x34q, x44q, x54q, L4]
  refine PM_use (c_Contest_copyFrom D4.co D4q.co (by omega) (d + 3)) ?_
  rintro v h5 l5 ⟨rfl, E5⟩
  obtain ⟨g5, Eg5, lg5, fg5, D5⟩ := D4.pc (uS (uS (uS (uS A_4 19 (sc A2 19)) 20 (sc A2 20)) 21 (sc A2 21)) 22 (sc A2 22)) (sc A2 19) (sc A2 20) (sc A2 21) (sc A2 22)
  rw [Eg5] at E5
  subst E5
  have f5 : frd h4 h5 B := fg5
  obtain ⟨A_5, hA_5⟩ : ∃ Z, Z = uS (uS (uS (uS A_4 19 (sc A2 19)) 20 (sc A2 20)) 21 (sc A2 21)) 22 (sc A2 22) := ⟨_, rfl⟩
  rw [← hA_5] at D5
  have F5 : frd h h5 B := F4.tr f5
  have L5 : h5.length = h.length := by omega
  have D5q := D0q.kept (fun j a b => F5 j (by omega))
  have xo5 := D5.o
  have xa5 := D5.sh
  have xb5 := D5.ko
  have xc5 := D5.lo
  have xf5 := D5.co
  have x15 := D5.wo
  have x25 := D5.to
  have x35 := D5.so
  have x45 := D5.go
  have x55 := D5.po
  have xo5q := D5q.o
  have xa5q := D5q.sh
  have xb5q := D5q.ko
  have xc5q := D5q.lo
  have xf5q := D5q.co
  have x15q := D5q.wo
  have x25q := D5q.to
  have x35q := D5q.so
  have x45q := D5q.go
  have x55q := D5q.po
  show W_X2_copyFrom _ _ _ _ _ _ _ _ _
  simp only [w_X2_copyFrom_55, w_X2_copyFrom_56, w_X2_copyFrom_59, w_X2_copyFrom_60, w_X2_copyFrom_63, pm_1i_c, pm_2i_c, pm_1l_c, pm_2l_c, pm_1a_c, pm_ia_c, pm_iia_c, pm_va_c, pm_cp_c, pm_k0_c, pm_k1_c, pm_k2_c, pm_k3_c, pm_s1_c, pm_s2_c, pm_s3_c, pm_s4_c, pm_ri_c, pm_ra_c, pm_rn_c, pm_rk_i, pm_rk_z, pm_rk_a, pm_vk_i, pm_vk_z, pm_vk_a, pm_cti, pm_ctr, pm_ldi_z, pm_ldi_s, pm_lda_z, pm_lda_s, pm_cat_n, pm_cat_i, pm_cat_r, pm_cat_l, pm_obj, pm_arr, pm_opt, pm_ird, pm_aln, List.getElem?_cons_zero, List.getElem?_cons_succ, List.set_cons_zero, List.set_cons_succ, List.length_cons, List.length_nil, List.length_set, true_and, and_true, Nat.add_zero, Nat.zero_add, Nat.le_refl, Nat.reduceAdd, Nat.reduceLT, Nat.reduceLeDiff, Nat.zero_le, not_false_eq_true, not_true_eq_false, false_implies, implies_true, true_implies, Nat.zero_lt_succ, Nat.lt_add_one, pm_tl_n, pm_tl_s, sc_uL, xo5, xa5, xb5, xc5, xf5, x15, x25, x35, x45, x55, xo5q, xa5q, xb5q, xc5q, xf5q, x15q, x25q, x35q, x45q, x55q, L5]
  refine PM_use (c_Row_copyFrom D5.w D5q.w D5q.w.le.1 (by omega) (by omega) (by omega) (d + 3)) ?_
  rintro v h6 l6 ⟨rfl, K6a, K6b⟩
  have D6 := D5.ur (p := 1) (by omega) (by omega) K6a K6b
  have f6 : frd h5 h6 B := frd_2 1 K6b (by omega)
  obtain ⟨A_6, hA_6⟩ : ∃ Z, Z = uL A_5 1 (li A2 1) := ⟨_, rfl⟩
  rw [← hA_6] at D6
  have F6 : frd h h6 B := F5.tr f6
  have L6 : h6.length = h.length := by omega
  have D6q := D0q.kept (fun j a b => F6 j (by omega))
  have xo6 := D6.o
  have xa6 := D6.sh
  have xb6 := D6.ko
  have xc6 := D6.lo
  have xf6 := D6.co
  have x16 := D6.wo
  have x26 := D6.to
  have x36 := D6.so
  have x46 := D6.go
  have x56 := D6.po
  have xo6q := D6q.o
  have xa6q := D6q.sh
  have xb6q := D6q.ko
  have xc6q := D6q.lo
  have xf6q := D6q.co
  have x16q := D6q.wo
  have x26q := D6q.to
  have x36q := D6q.so
  have x46q := D6q.go
  have x56q := D6q.po
  show W_X2_copyFrom _ _ _ _ _ _ _ _ _
  simp only [w_X2_copyFrom_66, w_X2_copyFrom_67, w_X2_copyFrom_70, w_X2_copyFrom_71, w_X2_copyFrom_74, pm_1i_c, pm_2i_c, pm_1l_c, pm_2l_c, pm_1a_c, pm_ia_c, pm_iia_c, pm_va_c, pm_cp_c, pm_k0_c, pm_k1_c, pm_k2_c, pm_k3_c, pm_s1_c, pm_s2_c, pm_s3_c, pm_s4_c, pm_ri_c, pm_ra_c, pm_rn_c, pm_rk_i, pm_rk_z, pm_rk_a, pm_vk_i, pm_vk_z, pm_vk_a, pm_cti, pm_ctr, pm_ldi_z, pm_ldi_s, pm_lda_z, pm_lda_s, pm_cat_n, pm_cat_i, pm_cat_r, pm_cat_l, pm_obj, pm_arr, pm_opt, pm_ird, pm_aln, List.getElem?_cons_zero, List.getElem?_cons_succ, List.set_cons_zero, List.set_cons_succ, List.length_cons, List.length_nil, List.length_set, true_and, and_true, Nat.add_zero, Nat.zero_add, Nat.le_refl, Nat.reduceAdd, Nat.reduceLT, Nat.reduceLeDiff, Nat.zero_le, not_false_eq_true, not_true_eq_false, false_implies, implies_true, true_implies, Nat.zero_lt_succ, Nat.lt_add_one, pm_tl_n, pm_tl_s, sc_uL, xo6, xa6, xb6, xc6, xf6, x16, x26, x36, x46, x56, xo6q, xa6q, xb6q, xc6q, xf6q, x16q, x26q, x36q, x46q, x56q, L6]
  refine PM_use (c_Row_copyFrom D6.t D6q.t D6q.t.le.1 (by omega) (by omega) (by omega) (d + 3)) ?_
  rintro v h7 l7 ⟨rfl, K7a, K7b⟩
  have D7 := D6.ur (p := 2) (by omega) (by omega) K7a K7b
  have f7 : frd h6 h7 B := frd_2 2 K7b (by omega)
  obtain ⟨A_7, hA_7⟩ : ∃ Z, Z = uL A_6 2 (li A2 2) := ⟨_, rfl⟩
  rw [← hA_7] at D7
  have F7 : frd h h7 B := F6.tr f7
  have L7 : h7.length = h.length := by omega
  have D7q := D0q.kept (fun j a b => F7 j (by omega))
  have xo7 := D7.o
  have xa7 := D7.sh
  have xb7 := D7.ko
  have xc7 := D7.lo
  have xf7 := D7.co
  have x17 := D7.wo
  have x27 := D7.to
  have x37 := D7.so
  have x47 := D7.go
  have x57 := D7.po
  have xo7q := D7q.o
  have xa7q := D7q.sh
  have xb7q := D7q.ko
  have xc7q := D7q.lo
  have xf7q := D7q.co
  have x17q := D7q.wo
  have x27q := D7q.to
  have x37q := D7q.so
  have x47q := D7q.go
  have x57q := D7q.po
  show W_X2_copyFrom _ _ _ _ _ _ _ _ _
  simp only [w_X2_copyFrom_77, w_X2_copyFrom_78, w_X2_copyFrom_81, w_X2_copyFrom_82, w_X2_copyFrom_85, pm_1i_c, pm_2i_c, pm_1l_c, pm_2l_c, pm_1a_c, pm_ia_c, pm_iia_c, pm_va_c, pm_cp_c, pm_k0_c, pm_k1_c, pm_k2_c, pm_k3_c, pm_s1_c, pm_s2_c, pm_s3_c, pm_s4_c, pm_ri_c, pm_ra_c, pm_rn_c, pm_rk_i, pm_rk_z, pm_rk_a, pm_vk_i, pm_vk_z, pm_vk_a, pm_cti, pm_ctr, pm_ldi_z, pm_ldi_s, pm_lda_z, pm_lda_s, pm_cat_n, pm_cat_i, pm_cat_r, pm_cat_l, pm_obj, pm_arr, pm_opt, pm_ird, pm_aln, List.getElem?_cons_zero, List.getElem?_cons_succ, List.set_cons_zero, List.set_cons_succ, List.length_cons, List.length_nil, List.length_set, true_and, and_true, Nat.add_zero, Nat.zero_add, Nat.le_refl, Nat.reduceAdd, Nat.reduceLT, Nat.reduceLeDiff, Nat.zero_le, not_false_eq_true, not_true_eq_false, false_implies, implies_true, true_implies, Nat.zero_lt_succ, Nat.lt_add_one, pm_tl_n, pm_tl_s, sc_uL, xo7, xa7, xb7, xc7, xf7, x17, x27, x37, x47, x57, xo7q, xa7q, xb7q, xc7q, xf7q, x17q, x27q, x37q, x47q, x57q, L7]
  refine PM_use (c_Row_copyFrom D7.s D7q.s D7q.s.le.1 (by omega) (by omega) (by omega) (d + 3)) ?_
  rintro v h8 l8 ⟨rfl, K8a, K8b⟩
  have D8 := D7.ur (p := 3) (by omega) (by omega) K8a K8b
  have f8 : frd h7 h8 B := frd_2 3 K8b (by omega)
  obtain ⟨A_8, hA_8⟩ : ∃ Z, Z = uL A_7 3 (li A2 3) := ⟨_, rfl⟩
  rw [← hA_8] at D8
  have F8 : frd h h8 B := F7.tr f8
  have L8 : h8.length = h.length := by omega
  have D8q := D0q.kept (fun j a b => F8 j (by omega))
  have xo8 := D8.o
  have xa8 := D8.sh
  have xb8 := D8.ko
  have xc8 := D8.lo
  have xf8 := D8.co
  have x18 := D8.wo
  have x28 := D8.to
  have x38 := D8.so
  have x48 := D8.go
  have x58 := D8.po
  have xo8q := D8q.o
  have xa8q := D8q.sh
  have xb8q := D8q.ko
  have xc8q := D8q.lo
  have xf8q := D8q.co
  have x18q := D8q.wo
  have x28q := D8q.to
  have x38q := D8q.so
  have x48q := D8q.go
  have x58q := D8q.po
  show W_X2_copyFrom _ _ _ _ _ _ _ _ _
  simp only [w_X2_copyFrom_88, w_X2_copyFrom_89, w_X2_copyFrom_92, w_X2_copyFrom_93, w_X2_copyFrom_96, pm_1i_c, pm_2i_c, pm_1l_c, pm_2l_c, pm_1a_c, pm_ia_c, pm_iia_c, pm_va_c, pm_cp_c, pm_k0_c, pm_k1_c, pm_k2_c, pm_k3_c, pm_s1_c, pm_s2_c, pm_s3_c, pm_s4_c, pm_ri_c, pm_ra_c, pm_rn_c, pm_rk_i, pm_rk_z, pm_rk_a, pm_vk_i, pm_vk_z, pm_vk_a, pm_cti, pm_ctr, pm_ldi_z, pm_ldi_s, pm_lda_z, pm_lda_s, pm_cat_n, pm_cat_i, pm_cat_r, pm_cat_l, pm_obj, pm_arr, pm_opt, pm_ird, pm_aln, List.getElem?_cons_zero, List.getElem?_cons_succ, List.set_cons_zero, List.set_cons_succ, List.length_cons, List.length_nil, List.length_set, true_and, and_true, Nat.add_zero, Nat.zero_add, Nat.le_refl, Nat.reduceAdd, Nat.reduceLT, Nat.reduceLeDiff, Nat.zero_le, not_false_eq_true, not_true_eq_false, false_implies, implies_true, true_implies, Nat.zero_lt_succ, Nat.lt_add_one, pm_tl_n, pm_tl_s, sc_uL, xo8, xa8, xb8, xc8, xf8, x18, x28, x38, x48, x58, xo8q, xa8q, xb8q, xc8q, xf8q, x18q, x28q, x38q, x48q, x58q, L8]
  refine PM_use (c_Row_copyFrom D8.g D8q.g D8q.g.le.1 (by omega) (by omega) (by omega) (d + 3)) ?_
  rintro v h9 l9 ⟨rfl, K9a, K9b⟩
  have D9 := D8.ur (p := 4) (by omega) (by omega) K9a K9b
  have f9 : frd h8 h9 B := frd_2 4 K9b (by omega)
  obtain ⟨A_9, hA_9⟩ : ∃ Z, Z = uL A_8 4 (li A2 4) := ⟨_, rfl⟩
  rw [← hA_9] at D9
  have F9 : frd h h9 B := F8.tr f9
  have L9 : h9.length = h.length := by omega
  have D9q := D0q.kept (fun j a b => F9 j (by omega))
  have xo9 := D9.o
  have xa9 := D9.sh
  have xb9 := D9.ko
  have xc9 := D9.lo
  have xf9 := D9.co
  have x19 := D9.wo
  have x29 := D9.to
  have x39 := D9.so
  have x49 := D9.go
  have x59 := D9.po
  have xo9q := D9q.o
  have xa9q := D9q.sh
  have xb9q := D9q.ko
  have xc9q := D9q.lo
  have xf9q := D9q.co
  have x19q := D9q.wo
  have x29q := D9q.to
  have x39q := D9q.so
  have x49q := D9q.go
  have x59q := D9q.po
  show W_X2_copyFrom _ _ _ _ _ _ _ _ _
  simp only [w_X2_copyFrom_99, w_X2_copyFrom_100, w_X2_copyFrom_103, w_X2_copyFrom_104, w_X2_copyFrom_107, pm_1i_c, pm_2i_c, pm_1l_c, pm_2l_c, pm_1a_c, pm_ia_c, pm_iia_c, pm_va_c, pm_cp_c, pm_k0_c, pm_k1_c, pm_k2_c, pm_k3_c, pm_s1_c, pm_s2_c, pm_s3_c, pm_s4_c, pm_ri_c, pm_ra_c, pm_rn_c, pm_rk_i, pm_rk_z, pm_rk_a, pm_vk_i, pm_vk_z, pm_vk_a, pm_cti, pm_ctr, pm_ldi_z, pm_ldi_s, pm_lda_z, pm_lda_s, pm_cat_n, pm_cat_i, pm_cat_r, pm_cat_l, pm_obj, pm_arr, pm_opt, pm_ird, pm_aln, List.getElem?_cons_zero, List.getElem?_cons_succ, List.set_cons_zero, List.set_cons_succ, List.length_cons, List.length_nil, List.length_set, true_and, and_true, Nat.add_zero, Nat.zero_add, Nat.le_refl, Nat.reduceAdd, Nat.reduceLT, Nat.reduceLeDiff, Nat.zero_le, not_false_eq_true, not_true_eq_false, false_implies, implies_true, true_implies, Nat.zero_lt_succ, Nat.lt_add_one, pm_tl_n, pm_tl_s, sc_uL, xo9, xa9, xb9, xc9, xf9, x19, x29, x39, x49, x59, xo9q, xa9q, xb9q, xc9q, xf9q, x19q, x29q, x39q, x49q, x59q, L9]
  refine PM_use (c_Row_copyFrom D9.p D9q.p D9q.p.le.1 (by omega) (by omega) (by omega) (d + 3)) ?_
  rintro v h10 l10 ⟨rfl, K10a, K10b⟩
  have D10 := D9.ur (p := 5) (by omega) (by omega) K10a K10b
  have f10 : frd h9 h10 B := frd_2 5 K10b (by omega)
  obtain ⟨A_10, hA_10⟩ : ∃ Z, Z = uL A_9 5 (li A2 5) := ⟨_, rfl⟩
  rw [← hA_10] at D10
  have F10 : frd h h10 B := F9.tr f10
  have L10 : h10.length = h.length := by omega
  have D10q := D0q.kept (fun j a b => F10 j (by omega))
  have xo10 := D10.o
  have xa10 := D10.sh
  have xb10 := D10.ko
  have xc10 := D10.lo
  have xf10 := D10.co
  have x110 := D10.wo
  have x210 := D10.to
  have x310 := D10.so
  have x410 := D10.go
  have x510 := D10.po
  have xo10q := D10q.o
  have xa10q := D10q.sh
  have xb10q := D10q.ko
  have xc10q := D10q.lo
  have xf10q := D10q.co
  have x110q := D10q.wo
  have x210q := D10q.to
  have x310q := D10q.so
  have x410q := D10q.go
  have x510q := D10q.po
  show W_X2_copyFrom _ _ _ _ _ _ _ _ _
  simp only [w_X2_copyFrom_110, w_X2_copyFrom_111, w_X2_copyFrom_112, w_X2_copyFrom_115, pm_1i_c, pm_2i_c, pm_1l_c, pm_2l_c, pm_1a_c, pm_ia_c, pm_iia_c, pm_va_c, pm_cp_c, pm_k0_c, pm_k1_c, pm_k2_c, pm_k3_c, pm_s1_c, pm_s2_c, pm_s3_c, pm_s4_c, pm_ri_c, pm_ra_c, pm_rn_c, pm_rk_i, pm_rk_z, pm_rk_a, pm_vk_i, pm_vk_z, pm_vk_a, pm_cti, pm_ctr, pm_ldi_z, pm_ldi_s, pm_lda_z, pm_lda_s, pm_cat_n, pm_cat_i, pm_cat_r, pm_cat_l, pm_obj, pm_arr, pm_opt, pm_ird, pm_aln, List.getElem?_cons_zero, List.getElem?_cons_succ, List.set_cons_zero, List.set_cons_succ, List.length_cons, List.length_nil, List.length_set, true_and, and_true, Nat.add_zero, Nat.zero_add, Nat.le_refl, Nat.reduceAdd, Nat.reduceLT, Nat.reduceLeDiff, Nat.zero_le, not_false_eq_true, not_true_eq_false, false_implies, implies_true, true_implies, Nat.zero_lt_succ, Nat.lt_add_one, pm_tl_n, pm_tl_s, sc_uL, xo10, xa10, xb10, xc10, xf10, x110, x210, x310, x410, x510, xo10q, xa10q, xb10q, xc10q, xf10q, x110q, x210q, x310q, x410q, x510q, L10]
  obtain ⟨h11, E11, l11, f11, D11⟩ := D10.pd (uS A_10 2 (sc A2 2)) (sc A2 2) (sc A_10 3) (sc A_10 4) (sc A_10 5) (sc A_10 6) (sc A_10 7)
  rw [E11]
  obtain ⟨A_11, hA_11⟩ : ∃ Z, Z = uS A_10 2 (sc A2 2) := ⟨_, rfl⟩
  rw [← hA_11] at D11
  have F11 : frd h h11 B := F10.tr f11
  have L11 : h11.length = h.length := by omega
  have D11q := D0q.kept (fun j a b => F11 j (by omega))
  have xo11 := D11.o
  have xa11 := D11.sh
  have xb11 := D11.ko
  have xc11 := D11.lo
  have xf11 := D11.co
  have x111 := D11.wo
  have x211 := D11.to
  have x311 := D11.so
  have x411 := D11.go
  have x511 := D11.po
  have xo11q := D11q.o
  have xa11q := D11q.sh
  have xb11q := D11q.ko
  have xc11q := D11q.lo
  have xf11q := D11q.co
  have x111q := D11q.wo
  have x211q := D11q.to
  have x311q := D11q.so
  have x411q := D11q.go
  have x511q := D11q.po
  simp only [w_X2_copyFrom_118, w_X2_copyFrom_119, w_X2_copyFrom_120, w_X2_copyFrom_123, pm_1i_c, pm_2i_c, pm_1l_c, pm_2l_c, pm_1a_c, pm_ia_c, pm_iia_c, pm_va_c, pm_cp_c, pm_k0_c, pm_k1_c, pm_k2_c, pm_k3_c, pm_s1_c, pm_s2_c, pm_s3_c, pm_s4_c, pm_ri_c, pm_ra_c, pm_rn_c, pm_rk_i, pm_rk_z, pm_rk_a, pm_vk_i, pm_vk_z, pm_vk_a, pm_cti, pm_ctr, pm_ldi_z, pm_ldi_s, pm_lda_z, pm_lda_s, pm_cat_n, pm_cat_i, pm_cat_r, pm_cat_l, pm_obj, pm_arr, pm_opt, pm_ird, pm_aln, List.getElem?_cons_zero, List.getElem?_cons_succ, List.set_cons_zero, List.set_cons_succ, List.length_cons, List.length_nil, List.length_set, true_and, and_true, Nat.add_zero, Nat.zero_add, Nat.le_refl, Nat.reduceAdd, Nat.reduceLT, Nat.reduceLeDiff, Nat.zero_le, not_false_eq_true, not_true_eq_false, false_implies, implies_true, true_implies, Nat.zero_lt_succ, Nat.lt_add_one, xo11, xa11, xb11, xc11, xf11, x111, x211, x311, x411, x511, xo11q, xa11q, xb11q, xc11q, xf11q, x111q, x211q, x311q, x411q, x511q, L11]
  obtain ⟨h12, E12, l12, f12, D12⟩ := D11.pd (uS A_11 3 (sc A2 3)) (sc A_11 2) (sc A2 3) (sc A_11 4) (sc A_11 5) (sc A_11 6) (sc A_11 7)
  rw [E12]
  obtain ⟨A_12, hA_12⟩ : ∃ Z, Z = uS A_11 3 (sc A2 3) := ⟨_, rfl⟩
  rw [← hA_12] at D12
  have F12 : frd h h12 B := F11.tr f12
  have L12 : h12.length = h.length := by omega
  have D12q := D0q.kept (fun j a b => F12 j (by omega))
  have xo12 := D12.o
  have xa12 := D12.sh
  have xb12 := D12.ko
  have xc12 := D12.lo
  have xf12 := D12.co
  have x112 := D12.wo
  have x212 := D12.to
  have x312 := D12.so
  have x412 := D12.go
  have x512 := D12.po
  have xo12q := D12q.o
  have xa12q := D12q.sh
  have xb12q := D12q.ko
  have xc12q := D12q.lo
  have xf12q := D12q.co
  have x112q := D12q.wo
  have x212q := D12q.to
  have x312q := D12q.so
  have x412q := D12q.go
  have x512q := D12q.po
  simp only [w_X2_copyFrom_126, w_X2_copyFrom_127, w_X2_copyFrom_128, w_X2_copyFrom_131, pm_1i_c, pm_2i_c, pm_1l_c, pm_2l_c, pm_1a_c, pm_ia_c, pm_iia_c, pm_va_c, pm_cp_c, pm_k0_c, pm_k1_c, pm_k2_c, pm_k3_c, pm_s1_c, pm_s2_c, pm_s3_c, pm_s4_c, pm_ri_c, pm_ra_c, pm_rn_c, pm_rk_i, pm_rk_z, pm_rk_a, pm_vk_i, pm_vk_z, pm_vk_a, pm_cti, pm_ctr, pm_ldi_z, pm_ldi_s, pm_lda_z, pm_lda_s, pm_cat_n, pm_cat_i, pm_cat_r, pm_cat_l, pm_obj, pm_arr, pm_opt, pm_ird, pm_aln, List.getElem?_cons_zero, List.getElem?_cons_succ, List.set_cons_zero, List.set_cons_succ, List.length_cons, List.length_nil, List.length_set, true_and, and_true, Nat.add_zero, Nat.zero_add, Nat.le_refl, Nat.reduceAdd, Nat.reduceLT, Nat.reduceLeDiff, Nat.zero_le, not_false_eq_true, not_true_eq_false, false_implies, implies_true, true_implies, Nat.zero_lt_succ, Nat.lt_add_one, xo12, xa12, xb12, xc12, xf12, x112, x212, x312, x412, x512, xo12q, xa12q, xb12q, xc12q, xf12q, x112q, x212q, x312q, x412q, x512q, L12]
  obtain ⟨h13, E13, l13, f13, D13⟩ := D12.pd (uS A_12 4 (sc A2 4)) (sc A_12 2) (sc A_12 3) (sc A2 4) (sc A_12 5) (sc A_12 6) (sc A_12 7)
  rw [E13]
  obtain ⟨A_13, hA_13⟩ : ∃ Z, Z = uS A_12 4 (sc A2 4) := ⟨_, rfl⟩
  rw [← hA_13] at D13
  have F13 : frd h h13 B := F12.tr f13
  have L13 : h13.length = h.length := by omega
  have D13q := D0q.kept (fun j a b => F13 j (by omega))
  have xo13 := D13.o
  have xa13 := D13.sh
  have xb13 := D13.ko
  have xc13 := D13.lo
  have xf13 := D13.co
  have x113 := D13.wo
  have x213 := D13.to
  have x313 := D13.so
  have x413 := D13.go
  have x513 := D13.po
  have xo13q := D13q.o
  have xa13q := D13q.sh
  have xb13q := D13q.ko
  have xc13q := D13q.lo
  have xf13q := D13q.co
  have x113q := D13q.wo
  have x213q := D13q.to
  have x313q := D13q.so
  have x413q := D13q.go
  have x513q := D13q.po
  simp only [w_X2_copyFrom_134, w_X2_copyFrom_135, w_X2_copyFrom_136, w_X2_copyFrom_139, pm_1i_c, pm_2i_c, pm_1l_c, pm_2l_c, pm_1a_c, pm_ia_c, pm_iia_c, pm_va_c, pm_cp_c, pm_k0_c, pm_k1_c, pm_k2_c, pm_k3_c, pm_s1_c, pm_s2_c, pm_s3_c, pm_s4_c, pm_ri_c, pm_ra_c, pm_rn_c, pm_rk_i, pm_rk_z, pm_rk_a, pm_vk_i, pm_vk_z, pm_vk_a, pm_cti, pm_ctr, pm_ldi_z, pm_ldi_s, pm_lda_z, pm_lda_s, pm_cat_n, pm_cat_i, pm_cat_r, pm_cat_l, pm_obj, pm_arr, pm_opt, pm_ird, pm_aln, List.getElem?_cons_zero, List.getElem?_cons_succ, List.set_cons_zero, List.set_cons_succ, List.length_cons, List.length_nil, List.length_set, true_and, and_true, Nat.add_zero, Nat.zero_add, Nat.le_refl, Nat.reduceAdd, Nat.reduceLT, Nat.reduceLeDiff, Nat.zero_le, not_false_eq_true, not_true_eq_false, false_implies, implies_true, true_implies, Nat.zero_lt_succ, Nat.lt_add_one, xo13, xa13, xb13, xc13, xf13, x113, x213, x313, x413, x513, xo13q, xa13q, xb13q, xc13q, xf13q, x113q, x213q, x313q, x413q, x513q, L13]
  obtain ⟨h14, E14, l14, f14, D14⟩ := D13.pd (uS A_13 5 (sc A2 5)) (sc A_13 2) (sc A_13 3) (sc A_13 4) (sc A2 5) (sc A_13 6) (sc A_13 7)
  rw [E14]
  obtain ⟨A_14, hA_14⟩ : ∃ Z, Z = uS A_13 5 (sc A2 5) := ⟨_, rfl⟩
  rw [← hA_14] at D14
  have F14 : frd h h14 B := F13.tr f14
  have L14 : h14.length = h.length := by omega
  have D14q := D0q.kept (fun j a b => F14 j (by omega))
  have xo14 := D14.o
  have xa14 := D14.sh
  have xb14 := D14.ko
  have xc14 := D14.lo
  have xf14 := D14.co
  have x114 := D14.wo
  have x214 := D14.to
  have x314 := D14.so
  have x414 := D14.go
  have x514 := D14.po
  have xo14q := D14q.o
  have xa14q := D14q.sh
  have xb14q := D14q.ko
  have xc14q := D14q.lo
  have xf14q := D14q.co
  have x114q := D14q.wo
  have x214q := D14q.to
  have x314q := D14q.so
  have x414q := D14q.go
  have x514q := D14q.po
  simp only [w_X2_copyFrom_142, w_X2_copyFrom_143, w_X2_copyFrom_144, w_X2_copyFrom_147, pm_1i_c, pm_2i_c, pm_1l_c, pm_2l_c, pm_1a_c, pm_ia_c, pm_iia_c, pm_va_c, pm_cp_c, pm_k0_c, pm_k1_c, pm_k2_c, pm_k3_c, pm_s1_c, pm_s2_c, pm_s3_c, pm_s4_c, pm_ri_c, pm_ra_c, pm_rn_c, pm_rk_i, pm_rk_z, pm_rk_a, pm_vk_i, pm_vk_z, pm_vk_a, pm_cti, pm_ctr, pm_ldi_z, pm_ldi_s, pm_lda_z, pm_lda_s, pm_cat_n, pm_cat_i, pm_cat_r, pm_cat_l, pm_obj, pm_arr, pm_opt, pm_ird, pm_aln, List.getElem?_cons_zero, List.getElem?_cons_succ, List.set_cons_zero, List.set_cons_succ, List.length_cons, List.length_nil, List.length_set, true_and, and_true, Nat.add_zero, Nat.zero_add, Nat.le_refl, Nat.reduceAdd, Nat.reduceLT, Nat.reduceLeDiff, Nat.zero_le, not_false_eq_true, not_true_eq_false, false_implies, implies_true, true_implies, Nat.zero_lt_succ, Nat.lt_add_one, xo14, xa14, xb14, xc14, xf14, x114, x214, x314, x414, x514, xo14q, xa14q, xb14q, xc14q, xf14q, x114q, x214q, x314q, x414q, x514q, L14]
  obtain ⟨h15, E15, l15, f15, D15⟩ := D14.pd (uS A_14 6 (sc A2 6)) (sc A_14 2) (sc A_14 3) (sc A_14 4) (sc A_14 5) (sc A2 6) (sc A_14 7)
  rw [E15]
  obtain ⟨A_15, hA_15⟩ : ∃ Z, Z = uS A_14 6 (sc A2 6) := ⟨_, rfl⟩
  rw [← hA_15] at D15
  have F15 : frd h h15 B := F14.tr f15
  have L15 : h15.length = h.length := by omega
  have D15q := D0q.kept (fun j a b => F15 j (by omega))
  have xo15 := D15.o
  have xa15 := D15.sh
  have xb15 := D15.ko
  have xc15 := D15.lo
  have xf15 := D15.co
  have x115 := D15.wo
  have x215 := D15.to
  have x315 := D15.so
  have x415 := D15.go
  have x515 := D15.po
  have xo15q := D15q.o
  have xa15q := D15q.sh
  have xb15q := D15q.ko
  have xc15q := D15q.lo
  have xf15q := D15q.co
  have x115q := D15q.wo
  have x215q := D15q.to
  have x315q := D15q.so
  have x415q := D15q.go
  have x515q := D15q.po
  simp only [w_X2_copyFrom_150, w_X2_copyFrom_151, w_X2_copyFrom_152, w_X2_copyFrom_155, pm_1i_c, pm_2i_c, pm_1l_c, pm_2l_c, pm_1a_c, pm_ia_c, pm_iia_c, pm_va_c, pm_cp_c, pm_k0_c, pm_k1_c, pm_k2_c, pm_k3_c, pm_s1_c, pm_s2_c, pm_s3_c, pm_s4_c, pm_ri_c, pm_ra_c, pm_rn_c, pm_rk_i, pm_rk_z, pm_rk_a, pm_vk_i, pm_vk_z, pm_vk_a, pm_cti, pm_ctr, pm_ldi_z, pm_ldi_s, pm_lda_z, pm_lda_s, pm_cat_n, pm_cat_i, pm_cat_r, pm_cat_l, pm_obj, pm_arr, pm_opt, pm_ird, pm_aln, List.getElem?_cons_zero, List.getElem?_cons_succ, List.set_cons_zero, List.set_cons_succ, List.length_cons, List.length_nil, List.length_set, true_and, and_true, Nat.add_zero, Nat.zero_add, Nat.le_refl, Nat.reduceAdd, Nat.reduceLT, Nat.reduceLeDiff, Nat.zero_le, not_false_eq_true, not_true_eq_false, false_implies, implies_true, true_implies, Nat.zero_lt_succ, Nat.lt_add_one, xo15, xa15, xb15, xc15, xf15, x115, x215, x315, x415, x515, xo15q, xa15q, xb15q, xc15q, xf15q, x115q, x215q, x315q, x415q, x515q, L15]
  obtain ⟨h16, E16, l16, f16, D16⟩ := D15.pd (uS A_15 7 (sc A2 7)) (sc A_15 2) (sc A_15 3) (sc A_15 4) (sc A_15 5) (sc A_15 6) (sc A2 7)
  rw [E16]
  obtain ⟨A_16, hA_16⟩ : ∃ Z, Z = uS A_15 7 (sc A2 7) := ⟨_, rfl⟩
  rw [← hA_16] at D16
  have F16 : frd h h16 B := F15.tr f16
  have L16 : h16.length = h.length := by omega
  have D16q := D0q.kept (fun j a b => F16 j (by omega))
  have xo16 := D16.o
  have xa16 := D16.sh
  have xb16 := D16.ko
  have xc16 := D16.lo
  have xf16 := D16.co
  have x116 := D16.wo
  have x216 := D16.to
  have x316 := D16.so
  have x416 := D16.go
  have x516 := D16.po
  have xo16q := D16q.o
  have xa16q := D16q.sh
  have xb16q := D16q.ko
  have xc16q := D16q.lo
  have xf16q := D16q.co
  have x116q := D16q.wo
  have x216q := D16q.to
  have x316q := D16q.so
  have x416q := D16q.go
  have x516q := D16q.po
  simp only [w_X2_copyFrom_158, pm_1i_c, pm_2i_c, pm_1l_c, pm_2l_c, pm_1a_c, pm_ia_c, pm_iia_c, pm_va_c, pm_cp_c, pm_k0_c, pm_k1_c, pm_k2_c, pm_k3_c, pm_s1_c, pm_s2_c, pm_s3_c, pm_s4_c, pm_ri_c, pm_ra_c, pm_rn_c, pm_rk_i, pm_rk_z, pm_rk_a, pm_vk_i, pm_vk_z, pm_vk_a, pm_cti, pm_ctr, pm_ldi_z, pm_ldi_s, pm_lda_z, pm_lda_s, pm_cat_n, pm_cat_i, pm_cat_r, pm_cat_l, pm_obj, pm_arr, pm_opt, pm_ird, pm_aln, List.getElem?_cons_zero, List.getElem?_cons_succ, List.set_cons_zero, List.set_cons_succ, List.length_cons, List.length_nil, List.length_set, true_and, and_true, Nat.add_zero, Nat.zero_add, Nat.le_refl, Nat.reduceAdd, Nat.reduceLT, Nat.reduceLeDiff, Nat.zero_le, not_false_eq_true, not_true_eq_false, false_implies, implies_true, true_implies, Nat.zero_lt_succ, Nat.lt_add_one, xo16, xa16, xb16, xc16, xf16, x116, x216, x316, x416, x516, xo16q, xa16q, xb16q, xc16q, xf16q, x116q, x216q, x316q, x416q, x516q, L16]
  subst hA_16 hA_15 hA_14 hA_13 hA_12 hA_11 hA_10 hA_9 hA_8 hA_7 hA_6 hA_5 hA_4 hA_3 hA_2 hA_1
  exact ⟨D16.ext ⟨all24 rfl rfl rfl rfl rfl rfl rfl rfl rfl rfl rfl rfl rfl rfl rfl rfl rfl rfl rfl rfl rfl rfl rfl rfl, all5 rfl rfl rfl rfl rfl, fun _ _ => rfl, fun _ _ => rfl, Or.inr fun _ => rfl⟩, F16⟩
end DU
