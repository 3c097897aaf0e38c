/-! Desk: serving, settings. -/
theorem skEq.rf {A : AD} : skEq A A := ⟨rfl, rfl, fun _ _ _ _ _ _ => rfl⟩
theorem skEq.tr {A A1 A2 : AD} (x : skEq A A1) (y : skEq A1 A2) : skEq A A2 := ⟨y.1.trans x.1, y.2.1.trans x.2.1, fun i a b c d e => (y.2.2 i a b c d e).trans (x.2.2 i a b c d e)⟩
theorem skEq_halF (A : AD) : skEq A (halF A) := ⟨rfl, rfl, fun i a b c d e => by unfold halF; rw [sc_ne b, sc_ne a]; rfl⟩
theorem skEq_addF1 (A : AD) (key : Int32) : skEq A (addF1 A key) := by
  unfold addF1
  split
  · exact ⟨rfl, rfl, fun _ _ _ _ _ _ => rfl⟩
  · exact ⟨rfl, rfl, fun i a b c d e => by rw [sc_ne a]; rfl⟩
theorem skEq_addF (A : AD) (key : Int32) : skEq A (addF A key) := by
  unfold addF
  split
  · exact skEq_addF1 A key
  · exact (skEq_addF1 A key).tr (skEq_halF _)
theorem skEq_halN : ∀ (n : Nat) (A : AD), skEq A (halN n A)
  | 0, A => skEq.rf
  | n + 1, A => by
    unfold halN
    split
    · exact skEq.rf
    · exact (skEq_halF A).tr (skEq_halN n _)
theorem skV_halF {A : AD} (V : skV A) : skV (halF A) := ⟨V.1, V.2.1, fun _ _ => Or.inl rfl⟩
theorem skV_addF1 {A : AD} (V : skV A) (key : Int32) : skV (addF1 A key) := by
  unfold addF1
  split
  · refine ⟨V.1, V.2.1, fun k hk => ?_⟩
    rw [nt_uN]
    unfold upd
    split
    · exact Or.inr rfl
    · split
      · exact Or.inr rfl
      · exact V.2.2 k hk
  · exact ⟨V.1, V.2.1, V.2.2⟩
theorem skV_addF {A : AD} (V : skV A) (key : Int32) : skV (addF A key) := by
  unfold addF
  split
  · exact skV_addF1 V key
  · exact skV_halF (skV_addF1 V key)
theorem skV_halN : ∀ (n : Nat) {A : AD}, skV A → skV (halN n A)
  | 0, _, V => V
  | n + 1, A, V => by
    unfold halN
    split
    · exact V
    · exact skV_halN n (skV_halF V)
theorem skV_lvF {A : AD} (V : skV A) (c : Int32) : skV (lvF A c) := by
  unfold lvF lvG
  split
  · exact V
  · split
    · exact V
    · unfold lvH
      split
      · exact V
      · exact V
theorem skV_srB2 {A : AD} (V : skV A) : skV (srB2 A) := by
  unfold srB2
  split
  · exact skV_lvF (A := drpR A 1) V _
  · exact V
theorem skV_cmF {A : AD} (V : skV A) (key : Int32) : skV (cmF A key) := by
  unfold cmF cmG
  split
  · exact V
  · exact V
theorem skV_mvE {A : AD} (V : skV A) : skV (mvE A) := by
  unfold mvE
  split
  · exact V
  · exact V
theorem skV_mvF {A : AD} (V : skV A) (p : Nat) (key : Int32) : skV (mvF A p key) := skV_mvE (A := insR (uL A p ((li A p).erase key)) (if p = 1 then 1 else 3) key) V
theorem skV_fit1 : ∀ (n : Nat) {A : AD}, skV A → skV (fit1 n A)
  | 0, _, V => V
  | n + 1, A, V => by
    unfold fit1
    split
    · exact skV_fit1 n (A := mvD A 3) V
    · exact V
theorem skV_fit2 : ∀ (n : Nat) {A : AD}, skV A → skV (fit2 n A)
  | 0, _, V => V
  | n + 1, A, V => by
    unfold fit2
    split
    · exact skV_fit2 n (A := mvD A 1) V
    · exact V
theorem skV_fit3 : ∀ (n : Nat) {A : AD}, skV A → skV (fit3 n A)
  | 0, _, V => V
  | n + 1, A, V => by
    unfold fit3
    split
    · exact skV_fit3 n (A := drpF A) V
    · exact V
theorem skV_fitF {A : AD} (V : skV A) : skV (fitF A) := skV_fit3 65 (skV_fit2 65 (skV_fit1 65 V))
theorem skV_srC {A : AD} (V : skV A) (hit : Int32) : skV (srC A hit) := by
  unfold srC
  split
  · exact V
  · split
    · exact V
    · exact skV_fitF (A := srC3 (srC2 (srC1 A hit))) V
theorem skV_srvF {A : AD} (V : skV A) (key : Int32) : skV (srvF A key) := by
  unfold srvF
  have V1 : skV (srA A key) := skV_addF V key
  unfold srG
  split
  · exact skV_srC (skV_srB2 (skV_cmF V1 key)) 0
  · exact skV_srC (skV_mvF (A := uS (srA A key) 3 (sc (srA A key) 3 + 1)) V1 _ _) 1
section DS
variable {h : pmH} {B : Nat} {A : AD}
theorem clR.cell {h : pmH} {a : Nat} {A : AD} {dn : Int32} (H : h[a]? = some (.inr (0, [.int (sc A 12), .int (sc A 16), .int (sc A 17), .int (sc A 18), .int dn]))) (e : dn = 0 ∧ sc A 15 = 1 ∨ dn = 1 ∧ sc A 15 = -1) : clR h a A := ⟨dn, H, e⟩
theorem partN_le (A : AD) (key : Int32) : partN A key ≤ 3 := by
  unfold partN
  split
  · omega
  · split
    · omega
    · split <;> omega
set_option maxHeartbeats 2000000 in
theorem c_Desk_serve (hl : h.length ≤ 1000000) (D0 : dk_ h B A) (V : skV A) (key : Int32) (d : Nat) : PM (d + 6) 9 [.ref B, .int key] h (fun v h' => v = some (.int (nI (partN (srA A key) key))) ∧ dk_ h' B (srvF A key) ∧ frd h h' B) := by
  refine en_X2_serve rfl rfl ?_
  -- the climb, and the end
  have tail : ∀ (h4 : pmH) (A2 : AD) (p : Nat), dk_ h4 B A2 → skV A2 → h4.length = h.length → frd h h4 B → p ≤ 3 → p = partN (srA A key) key → srC A2 (if p = 0 then 0 else 1) = srvF A key → W_X2_serve (d + 5) (h.length + 0) 0 (fun v h' => v = some (.int (nI (partN (srA A key) key))) ∧ dk_ h' B (srvF A key) ∧ frd h h' B) 85 [some (.ref B), some (.int key), some (.int (nI p))] [] h4 0 := by
    intro h4 A2 p D2 V2 l4 f4 hp ep eq
    have xo2 := D2.o
    have xa2 := D2.sh
    have xb2 := D2.ko
    have xc2 := D2.lo
    have xf2 := D2.co
    have x12 := D2.wo
    have x22 := D2.to
    have x32 := D2.so
    have x42 := D2.go
    have x52 := D2.po
    obtain ⟨dn, cell, hdn⟩ := D2.cl
    -- the call of endsWith
    have go : ∀ (hit : Bool), srC A2 (if hit then 1 else 0) = srvF A key → PM (d + 5) 2 [.ref (B + 10), .int (if hit then 1 else 0)] h4 (fun v h2 => V_X2_serve (d + 5) (h.length + 0) 0 (fun v h' => v = some (.int (nI (partN (srA A key) key))) ∧ dk_ h' B (srvF A key) ∧ frd h h' B) 101 [some (.ref B), some (.int key), some (.int (nI p))] (v.toList ++ []) h2 (0 + 0)) := by
      intro hit eq
      refine PM_use (c_Climb_endsWith cell hit (d + 4)) ?_
      intro v h5 l5 K
      unfold srC at eq
      by_cases c1 : sc A2 12 < 1
      · rw [if_pos c1] at K eq
        obtain ⟨rfl, rfl⟩ := K
        show W_X2_serve _ _ _ _ _ _ _ _ _
        simp only [w_X2_serve_101, w_X2_serve_122, w_X2_serve_123, pm_1i_c, pm_2i_c, pm_1l_c, pm_2l_c, pm_1a_c, pm_ia_c, pm_iia_c, pm_va_c, pm_cp_c, pm_k0_c, pm_k1_c, pm_k2_c, pm_k3_c, pm_s1_c, pm_s2_c, pm_s3_c, pm_s4_c, pm_ri_c, pm_ra_c, pm_rn_c, pm_rk_i, pm_rk_z, pm_rk_a, pm_vk_i, pm_vk_z, pm_vk_a, pm_cti, pm_ctr, pm_ldi_z, pm_ldi_s, pm_lda_z, pm_lda_s, pm_cat_n, pm_cat_i, pm_cat_r, pm_cat_l, pm_obj, pm_arr, pm_opt, pm_ird, pm_aln, List.getElem?_cons_zero, List.getElem?_cons_succ, List.set_cons_zero, List.set_cons_succ, List.length_cons, List.length_nil, List.length_set, true_and, and_true, Nat.add_zero, Nat.zero_add, Nat.le_refl, Nat.reduceAdd, Nat.reduceLT, Nat.reduceLeDiff, Nat.zero_le, not_false_eq_true, not_true_eq_false, false_implies, implies_true, true_implies, Nat.zero_lt_succ, Nat.lt_add_one, pm_tl_n, pm_tl_s, sc_uL, l4]
        exact ⟨by rw [ep], eq ▸ D2, f4⟩
      · rw [if_neg c1] at K eq
        obtain ⟨rfl, E5⟩ := K
        have D5 : dk_ h5 B (srC1 A2 (if hit then 1 else 0)) := by
          rw [E5]
          exact D2.ucl ⟨dn, by rw [hset_s, cell]; rfl, hdn⟩ (fun i hi => hset_n (Ne.symm hi)) (fun i h1 h2 => by unfold srC1; rw [sc_ne (by omega), sc_ne (by omega)]) rfl
        have f5 : frd h4 h5 B := by rw [E5]; exact frd_s (by omega)
        by_cases c2 : sc A2 16 + 1 < sc A2 12
        · rw [if_pos c2] at eq
          show W_X2_serve _ _ _ _ _ _ _ _ _
          simp only [w_X2_serve_101, w_X2_serve_122, w_X2_serve_123, pm_1i_c, pm_2i_c, pm_1l_c, pm_2l_c, pm_1a_c, pm_ia_c, pm_iia_c, pm_va_c, pm_cp_c, pm_k0_c, pm_k1_c, pm_k2_c, pm_k3_c, pm_s1_c, pm_s2_c, pm_s3_c, pm_s4_c, pm_ri_c, pm_ra_c, pm_rn_c, pm_rk_i, pm_rk_z, pm_rk_a, pm_vk_i, pm_vk_z, pm_vk_a, pm_cti, pm_ctr, pm_ldi_z, pm_ldi_s, pm_lda_z, pm_lda_s, pm_cat_n, pm_cat_i, pm_cat_r, pm_cat_l, pm_obj, pm_arr, pm_opt, pm_ird, pm_aln, List.getElem?_cons_zero, List.getElem?_cons_succ, List.set_cons_zero, List.set_cons_succ, List.length_cons, List.length_nil, List.length_set, true_and, and_true, Nat.add_zero, Nat.zero_add, Nat.le_refl, Nat.reduceAdd, Nat.reduceLT, Nat.reduceLeDiff, Nat.zero_le, not_false_eq_true, not_true_eq_false, false_implies, implies_true, true_implies, Nat.zero_lt_succ, Nat.lt_add_one, pm_tl_n, pm_tl_s, sc_uL, l4, l5, if_pos c2]
          exact ⟨by rw [ep], eq ▸ D5, f4.tr f5⟩
        · rw [if_neg c2] at eq
          obtain ⟨A3, hA3⟩ : ∃ A3, A3 = srC1 A2 (if hit then 1 else 0) := ⟨_, rfl⟩
          have V3 : skV A3 := by rw [hA3]; exact V2
          rw [← hA3] at D5 eq
          clear E5
          have xo5 := D5.o
          have xa5 := D5.sh
          have xb5 := D5.ko
          have xc5 := D5.lo
          have xf5 := D5.co
          have x15 := D5.wo
          have x25 := D5.to
          have x35 := D5.so
          have x45 := D5.go
          have x55 := D5.po
          obtain ⟨dn2, cell2, hdn2⟩ := D5.cl
          show W_X2_serve _ _ _ _ _ _ _ _ _
          simp only [w_X2_serve_101, w_X2_serve_104, w_X2_serve_105, w_X2_serve_108, w_X2_serve_109, w_X2_serve_112, w_X2_serve_115, w_X2_serve_118, w_X2_serve_119, w_X2_serve_122, w_X2_serve_123, pm_1i_c, pm_2i_c, pm_1l_c, pm_2l_c, pm_1a_c, pm_ia_c, pm_iia_c, pm_va_c, pm_cp_c, pm_k0_c, pm_k1_c, pm_k2_c, pm_k3_c, pm_s1_c, pm_s2_c, pm_s3_c, pm_s4_c, pm_ri_c, pm_ra_c, pm_rn_c, pm_rk_i, pm_rk_z, pm_rk_a, pm_vk_i, pm_vk_z, pm_vk_a, pm_cti, pm_ctr, pm_ldi_z, pm_ldi_s, pm_lda_z, pm_lda_s, pm_cat_n, pm_cat_i, pm_cat_r, pm_cat_l, pm_obj, pm_arr, pm_opt, pm_ird, pm_aln, List.getElem?_cons_zero, List.getElem?_cons_succ, List.set_cons_zero, List.set_cons_succ, List.length_cons, List.length_nil, List.length_set, true_and, and_true, Nat.add_zero, Nat.zero_add, Nat.le_refl, Nat.reduceAdd, Nat.reduceLT, Nat.reduceLeDiff, Nat.zero_le, not_false_eq_true, not_true_eq_false, false_implies, implies_true, true_implies, Nat.zero_lt_succ, Nat.lt_add_one, pm_tl_n, pm_tl_s, sc_uL, l4, l5, if_neg c2, xo5, xa5, xb5, xc5, xf5, x15, x25, x35, x45, x55, cell2, show ¬ (1 : Int32) = 0 by decide]
          refine PM_use (c_Climb_nextStep cell2 (by rcases hdn2 with z | z; exact Or.inl z.1; exact Or.inr z.1) (d + 4)) ?_
          rintro v h6 l6 ⟨rfl, E6⟩
          have wy : (if (if sc A3 17 < sc A3 18 then 1 - dn2 else dn2) = 0 then (5 : Int32) else -5) = 5 * (if sc A3 17 < sc A3 18 then - sc A3 15 else sc A3 15) ∧ ((if sc A3 17 < sc A3 18 then 1 - dn2 else dn2) = 0 ∧ (if sc A3 17 < sc A3 18 then - sc A3 15 else sc A3 15) = 1 ∨ (if sc A3 17 < sc A3 18 then 1 - dn2 else dn2) = 1 ∧ (if sc A3 17 < sc A3 18 then - sc A3 15 else sc A3 15) = -1) := by
            rcases hdn2 with ⟨z1, z2⟩ | ⟨z1, z2⟩ <;> rw [z1, z2] <;> split <;> decide
          have D6 : dk_ h6 B (srC2 A3) := by
            rw [E6]
            exact D5.ucl ⟨_, by rw [hset_s, cell2]; rfl, wy.2⟩ (fun i hi => hset_n (Ne.symm hi)) (fun i h1 h2 => by unfold srC2; rw [sc_ne (by omega), sc_ne (by omega), sc_ne (by omega), sc_ne (by omega)]) rfl
          have f6 : frd h5 h6 B := by rw [E6]; exact frd_s (by omega)
          have sc15 : sc (srC2 A3) 15 = if sc A3 17 < sc A3 18 then - sc A3 15 else sc A3 15 := rfl
          rw [wy.1, ← sc15]
          clear wy E6
          obtain ⟨A4, hA4⟩ : ∃ A4, A4 = srC2 A3 := ⟨_, rfl⟩
          have V4 : skV A4 := by rw [hA4]; exact V3
          rw [← hA4] at D6 eq ⊢
          have xo6 := D6.o
          have xa6 := D6.sh
          have xb6 := D6.ko
          have xc6 := D6.lo
          have xf6 := D6.co
          have x16 := D6.wo
          have x26 := D6.to
          have x36 := D6.so
          have x46 := D6.go
          have x56 := D6.po
          show W_X2_serve _ _ _ _ _ _ _ _ _
          simp only [w_X2_serve_115, pm_1i_c, pm_2i_c, pm_1l_c, pm_2l_c, pm_1a_c, pm_ia_c, pm_iia_c, pm_va_c, pm_cp_c, pm_k0_c, pm_k1_c, pm_k2_c, pm_k3_c, pm_s1_c, pm_s2_c, pm_s3_c, pm_s4_c, pm_ri_c, pm_ra_c, pm_rn_c, pm_rk_i, pm_rk_z, pm_rk_a, pm_vk_i, pm_vk_z, pm_vk_a, pm_cti, pm_ctr, pm_ldi_z, pm_ldi_s, pm_lda_z, pm_lda_s, pm_cat_n, pm_cat_i, pm_cat_r, pm_cat_l, pm_obj, pm_arr, pm_opt, pm_ird, pm_aln, List.getElem?_cons_zero, List.getElem?_cons_succ, List.set_cons_zero, List.set_cons_succ, List.length_cons, List.length_nil, List.length_set, true_and, and_true, Nat.add_zero, Nat.zero_add, Nat.le_refl, Nat.reduceAdd, Nat.reduceLT, Nat.reduceLeDiff, Nat.zero_le, not_false_eq_true, not_true_eq_false, false_implies, implies_true, true_implies, Nat.zero_lt_succ, Nat.lt_add_one, pm_tl_n, pm_tl_s, sc_uL, xo6, xa6, xb6, xc6, xf6, x16, x26, x36, x46, x56, l6, l5, l4]
          refine PM_use (c_Shares_moveDoor D6.sh (5 * sc A4 15) (d + 4)) ?_
          rintro v h7 l7 ⟨rfl, E7⟩
          obtain ⟨h8, E8, l8, f8, D8⟩ := D6.psh (srC3 A4) (sc A4 8) (mdI (sc A4 9) (5 * sc A4 15)) (sc A4 10) rfl rfl rfl (fun i hi => by unfold srC3; rw [sc_ne (by omega)])
          rw [E8] at E7
          subst E7
          have xo8 := D8.o
          have xa8 := D8.sh
          have xb8 := D8.ko
          have xc8 := D8.lo
          have xf8 := D8.co
          have x18 := D8.wo
          have x28 := D8.to
          have x38 := D8.so
          have x48 := D8.go
          have x58 := D8.po
          show W_X2_serve _ _ _ _ _ _ _ _ _
          simp only [w_X2_serve_118, w_X2_serve_119, pm_1i_c, pm_2i_c, pm_1l_c, pm_2l_c, pm_1a_c, pm_ia_c, pm_iia_c, pm_va_c, pm_cp_c, pm_k0_c, pm_k1_c, pm_k2_c, pm_k3_c, pm_s1_c, pm_s2_c, pm_s3_c, pm_s4_c, pm_ri_c, pm_ra_c, pm_rn_c, pm_rk_i, pm_rk_z, pm_rk_a, pm_vk_i, pm_vk_z, pm_vk_a, pm_cti, pm_ctr, pm_ldi_z, pm_ldi_s, pm_lda_z, pm_lda_s, pm_cat_n, pm_cat_i, pm_cat_r, pm_cat_l, pm_obj, pm_arr, pm_opt, pm_ird, pm_aln, List.getElem?_cons_zero, List.getElem?_cons_succ, List.set_cons_zero, List.set_cons_succ, List.length_cons, List.length_nil, List.length_set, true_and, and_true, Nat.add_zero, Nat.zero_add, Nat.le_refl, Nat.reduceAdd, Nat.reduceLT, Nat.reduceLeDiff, Nat.zero_le, not_false_eq_true, not_true_eq_false, false_implies, implies_true, true_implies, Nat.zero_lt_succ, Nat.lt_add_one, pm_tl_n, pm_tl_s, sc_uL, xo8, xa8, xb8, xc8, xf8, x18, x28, x38, x48, x58, l8, l6, l5, l4]
          refine PM_use (c_Desk_fit (by rw [l8, l6, l5, l4]; exact hl) D8 (show skV (srC3 A4) from V4) d) ?_
          rintro v h9 l9 ⟨rfl, D9, f9⟩
          show W_X2_serve _ _ _ _ _ _ _ _ _
          simp only [w_X2_serve_122, w_X2_serve_123, pm_1i_c, pm_2i_c, pm_1l_c, pm_2l_c, pm_1a_c, pm_ia_c, pm_iia_c, pm_va_c, pm_cp_c, pm_k0_c, pm_k1_c, pm_k2_c, pm_k3_c, pm_s1_c, pm_s2_c, pm_s3_c, pm_s4_c, pm_ri_c, pm_ra_c, pm_rn_c, pm_rk_i, pm_rk_z, pm_rk_a, pm_vk_i, pm_vk_z, pm_vk_a, pm_cti, pm_ctr, pm_ldi_z, pm_ldi_s, pm_lda_z, pm_lda_s, pm_cat_n, pm_cat_i, pm_cat_r, pm_cat_l, pm_obj, pm_arr, pm_opt, pm_ird, pm_aln, List.getElem?_cons_zero, List.getElem?_cons_succ, List.set_cons_zero, List.set_cons_succ, List.length_cons, List.length_nil, List.length_set, true_and, and_true, Nat.add_zero, Nat.zero_add, Nat.le_refl, Nat.reduceAdd, Nat.reduceLT, Nat.reduceLeDiff, Nat.zero_le, not_false_eq_true, not_true_eq_false, false_implies, implies_true, true_implies, Nat.zero_lt_succ, Nat.lt_add_one, pm_tl_n, pm_tl_s, sc_uL, l9, l8, l6, l5, l4]
          exact ⟨by rw [ep], eq ▸ D9, (((f4.tr f5).tr f6).tr f8).tr f9⟩
    have zz : ∀ p : Nat, p ≤ 3 → (nI p = 0 ↔ p = 0) := by decide
    by_cases c0 : p = 0
    · have e0 : nI p = 0 := (zz p hp).mpr c0
      rw [if_pos c0] at eq
      have G := go false eq
      simp only [w_X2_serve_85, w_X2_serve_86, w_X2_serve_89, w_X2_serve_90, w_X2_serve_93, w_X2_serve_94, w_X2_serve_97, w_X2_serve_98, pm_1i_c, pm_2i_c, pm_1l_c, pm_2l_c, pm_1a_c, pm_ia_c, pm_iia_c, pm_va_c, pm_cp_c, pm_k0_c, pm_k1_c, pm_k2_c, pm_k3_c, pm_s1_c, pm_s2_c, pm_s3_c, pm_s4_c, pm_ri_c, pm_ra_c, pm_rn_c, pm_rk_i, pm_rk_z, pm_rk_a, pm_vk_i, pm_vk_z, pm_vk_a, pm_cti, pm_ctr, pm_ldi_z, pm_ldi_s, pm_lda_z, pm_lda_s, pm_cat_n, pm_cat_i, pm_cat_r, pm_cat_l, pm_obj, pm_arr, pm_opt, pm_ird, pm_aln, List.getElem?_cons_zero, List.getElem?_cons_succ, List.set_cons_zero, List.set_cons_succ, List.length_cons, List.length_nil, List.length_set, true_and, and_true, Nat.add_zero, Nat.zero_add, Nat.le_refl, Nat.reduceAdd, Nat.reduceLT, Nat.reduceLeDiff, Nat.zero_le, not_false_eq_true, not_true_eq_false, false_implies, implies_true, true_implies, Nat.zero_lt_succ, Nat.lt_add_one, xo2, xa2, xb2, xc2, xf2, x12, x22, x32, x42, x52, l4, cell, e0]
      rw [e0] at G
      exact G
    · have e0 : ¬ nI p = 0 := fun e => c0 ((zz p hp).mp e)
      rw [if_neg c0] at eq
      have G := go true eq
      simp only [w_X2_serve_85, w_X2_serve_86, w_X2_serve_89, w_X2_serve_90, w_X2_serve_93, w_X2_serve_94, w_X2_serve_97, w_X2_serve_98, pm_1i_c, pm_2i_c, pm_1l_c, pm_2l_c, pm_1a_c, pm_ia_c, pm_iia_c, pm_va_c, pm_cp_c, pm_k0_c, pm_k1_c, pm_k2_c, pm_k3_c, pm_s1_c, pm_s2_c, pm_s3_c, pm_s4_c, pm_ri_c, pm_ra_c, pm_rn_c, pm_rk_i, pm_rk_z, pm_rk_a, pm_vk_i, pm_vk_z, pm_vk_a, pm_cti, pm_ctr, pm_ldi_z, pm_ldi_s, pm_lda_z, pm_lda_s, pm_cat_n, pm_cat_i, pm_cat_r, pm_cat_l, pm_obj, pm_arr, pm_opt, pm_ird, pm_aln, List.getElem?_cons_zero, List.getElem?_cons_succ, List.set_cons_zero, List.set_cons_succ, List.length_cons, List.length_nil, List.length_set, true_and, and_true, Nat.add_zero, Nat.zero_add, Nat.le_refl, Nat.reduceAdd, Nat.reduceLT, Nat.reduceLeDiff, Nat.zero_le, not_false_eq_true, not_true_eq_false, false_implies, implies_true, true_implies, Nat.zero_lt_succ, Nat.lt_add_one, xo2, xa2, xb2, xc2, xf2, x12, x22, x32, x42, x52, l4, cell, e0]
      exact G
  have xo0 := D0.o
  have xa0 := D0.sh
  have xb0 := D0.ko
  have xc0 := D0.lo
  have xf0 := D0.co
  have x10 := D0.wo
  have x20 := D0.to
  have x30 := D0.so
  have x40 := D0.go
  have x50 := D0.po
  simp only [w_X2_serve_0, w_X2_serve_1, w_X2_serve_4, w_X2_serve_5, w_X2_serve_8, w_X2_serve_9, w_X2_serve_10, w_X2_serve_13, w_X2_serve_14, w_X2_serve_15, pm_1i_c, pm_2i_c, pm_1l_c, pm_2l_c, pm_1a_c, pm_ia_c, pm_iia_c, pm_va_c, pm_cp_c, pm_k0_c, pm_k1_c, pm_k2_c, pm_k3_c, pm_s1_c, pm_s2_c, pm_s3_c, pm_s4_c, pm_ri_c, pm_ra_c, pm_rn_c, pm_rk_i, pm_rk_z, pm_rk_a, pm_vk_i, pm_vk_z, pm_vk_a, pm_cti, pm_ctr, pm_ldi_z, pm_ldi_s, pm_lda_z, pm_lda_s, pm_cat_n, pm_cat_i, pm_cat_r, pm_cat_l, pm_obj, pm_arr, pm_opt, pm_ird, pm_aln, List.getElem?_cons_zero, List.getElem?_cons_succ, List.set_cons_zero, List.set_cons_succ, List.length_cons, List.length_nil, List.length_set, true_and, and_true, Nat.add_zero, Nat.zero_add, Nat.le_refl, Nat.reduceAdd, Nat.reduceLT, Nat.reduceLeDiff, Nat.zero_le, not_false_eq_true, not_true_eq_false, false_implies, implies_true, true_implies, Nat.zero_lt_succ, Nat.lt_add_one, xo0, xa0, xb0, xc0, xf0, x10, x20, x30, x40, x50]
  refine PM_use (c_Sketch_add hl D0.sk V key (d + 2)) ?_
  rintro v h1 l1 ⟨rfl, K1, K2⟩
  have D1 := D0.usk K1 K2 (skEq_addF A key)
  have f1 : frd h h1 B := frd_3 K2
  obtain ⟨A1, hA1⟩ : ∃ A1, A1 = addF A key := ⟨_, rfl⟩
  have V1 : skV A1 := by rw [hA1]; exact skV_addF V key
  rw [← hA1] at D1
  have xo1 := D1.o
  have xa1 := D1.sh
  have xb1 := D1.ko
  have xc1 := D1.lo
  have xf1 := D1.co
  have x11 := D1.wo
  have x21 := D1.to
  have x31 := D1.so
  have x41 := D1.go
  have x51 := D1.po
  show W_X2_serve _ _ _ _ _ _ _ _ _
  simp only [w_X2_serve_8, w_X2_serve_9, w_X2_serve_10, w_X2_serve_13, w_X2_serve_14, w_X2_serve_15, pm_1i_c, pm_2i_c, pm_1l_c, pm_2l_c, pm_1a_c, pm_ia_c, pm_iia_c, pm_va_c, pm_cp_c, pm_k0_c, pm_k1_c, pm_k2_c, pm_k3_c, pm_s1_c, pm_s2_c, pm_s3_c, pm_s4_c, pm_ri_c, pm_ra_c, pm_rn_c, pm_rk_i, pm_rk_z, pm_rk_a, pm_vk_i, pm_vk_z, pm_vk_a, pm_cti, pm_ctr, pm_ldi_z, pm_ldi_s, pm_lda_z, pm_lda_s, pm_cat_n, pm_cat_i, pm_cat_r, pm_cat_l, pm_obj, pm_arr, pm_opt, pm_ird, pm_aln, List.getElem?_cons_zero, List.getElem?_cons_succ, List.set_cons_zero, List.set_cons_succ, List.length_cons, List.length_nil, List.length_set, true_and, and_true, Nat.add_zero, Nat.zero_add, Nat.le_refl, Nat.reduceAdd, Nat.reduceLT, Nat.reduceLeDiff, Nat.zero_le, not_false_eq_true, not_true_eq_false, false_implies, implies_true, true_implies, Nat.zero_lt_succ, Nat.lt_add_one, pm_tl_n, pm_tl_s, sc_uL, xo1, xa1, xb1, xc1, xf1, x11, x21, x31, x41, x51, l1]
  obtain ⟨h2, E2, l2, f2, D2⟩ := D1.pd (uS A1 2 (sc A1 2 + 1)) (sc A1 2 + 1) (sc A1 3) (sc A1 4) (sc A1 5) (sc A1 6) (sc A1 7)
  rw [E2]
  have xo2 := D2.o
  have xa2 := D2.sh
  have xb2 := D2.ko
  have xc2 := D2.lo
  have xf2 := D2.co
  have x12 := D2.wo
  have x22 := D2.to
  have x32 := D2.so
  have x42 := D2.go
  have x52 := D2.po
  simp only [w_X2_serve_18, w_X2_serve_19, w_X2_serve_20, pm_1i_c, pm_2i_c, pm_1l_c, pm_2l_c, pm_1a_c, pm_ia_c, pm_iia_c, pm_va_c, pm_cp_c, pm_k0_c, pm_k1_c, pm_k2_c, pm_k3_c, pm_s1_c, pm_s2_c, pm_s3_c, pm_s4_c, pm_ri_c, pm_ra_c, pm_rn_c, pm_rk_i, pm_rk_z, pm_rk_a, pm_vk_i, pm_vk_z, pm_vk_a, pm_cti, pm_ctr, pm_ldi_z, pm_ldi_s, pm_lda_z, pm_lda_s, pm_cat_n, pm_cat_i, pm_cat_r, pm_cat_l, pm_obj, pm_arr, pm_opt, pm_ird, pm_aln, List.getElem?_cons_zero, List.getElem?_cons_succ, List.set_cons_zero, List.set_cons_succ, List.length_cons, List.length_nil, List.length_set, true_and, and_true, Nat.add_zero, Nat.zero_add, Nat.le_refl, Nat.reduceAdd, Nat.reduceLT, Nat.reduceLeDiff, Nat.zero_le, not_false_eq_true, not_true_eq_false, false_implies, implies_true, true_implies, Nat.zero_lt_succ, Nat.lt_add_one, xo2, xa2, xb2, xc2, xf2, x12, x22, x32, x42, x52, l2, l1]
  refine PM_use (c_Desk_remember D2 key (d + 3)) ?_
  rintro v h3 l3 ⟨rfl, D3, f3⟩
  have eA : remF (uS A1 2 (sc A1 2 + 1)) key = srA A key := by rw [hA1]; rfl
  have V3 : skV (srA A key) := skV_addF V key
  have hF : srvF A key = srG (srA A key) key := rfl
  rw [eA] at D3
  rw [hF] at tail ⊢
  obtain ⟨A3, hA3⟩ : ∃ A3, A3 = srA A key := ⟨_, rfl⟩
  rw [← hA3] at D3 V3 tail ⊢
  clear hF eA hA3
  have xo3 := D3.o
  have xa3 := D3.sh
  have xb3 := D3.ko
  have xc3 := D3.lo
  have xf3 := D3.co
  have x13 := D3.wo
  have x23 := D3.to
  have x33 := D3.so
  have x43 := D3.go
  have x53 := D3.po
  show W_X2_serve _ _ _ _ _ _ _ _ _
  simp only [w_X2_serve_23, w_X2_serve_24, w_X2_serve_25, pm_1i_c, pm_2i_c, pm_1l_c, pm_2l_c, pm_1a_c, pm_ia_c, pm_iia_c, pm_va_c, pm_cp_c, pm_k0_c, pm_k1_c, pm_k2_c, pm_k3_c, pm_s1_c, pm_s2_c, pm_s3_c, pm_s4_c, pm_ri_c, pm_ra_c, pm_rn_c, pm_rk_i, pm_rk_z, pm_rk_a, pm_vk_i, pm_vk_z, pm_vk_a, pm_cti, pm_ctr, pm_ldi_z, pm_ldi_s, pm_lda_z, pm_lda_s, pm_cat_n, pm_cat_i, pm_cat_r, pm_cat_l, pm_obj, pm_arr, pm_opt, pm_ird, pm_aln, List.getElem?_cons_zero, List.getElem?_cons_succ, List.set_cons_zero, List.set_cons_succ, List.length_cons, List.length_nil, List.length_set, true_and, and_true, Nat.add_zero, Nat.zero_add, Nat.le_refl, Nat.reduceAdd, Nat.reduceLT, Nat.reduceLeDiff, Nat.zero_le, not_false_eq_true, not_true_eq_false, false_implies, implies_true, true_implies, Nat.zero_lt_succ, Nat.lt_add_one, pm_tl_n, pm_tl_s, sc_uL, xo3, xa3, xb3, xc3, xf3, x13, x23, x33, x43, x53, l3, l2, l1]
  refine PM_use (c_Desk_partOf D3 key (d + 3)) ?_
  rintro v h4 l4 ⟨rfl, rfl⟩
  have zz : ∀ p : Nat, p ≤ 3 → (nI p = 0 ↔ p = 0) := by decide
  have ple := partN_le A3 key
  obtain ⟨p, hp⟩ : ∃ p, p = partN A3 key := ⟨_, rfl⟩
  unfold srG at tail ⊢
  rw [← hp] at ple tail ⊢
  by_cases c0 : p = 0
  · have e0 : nI p = 0 := (zz p ple).mpr c0
    rw [if_pos c0] at tail ⊢
    show W_X2_serve _ _ _ _ _ _ _ _ _
    simp only [w_X2_serve_28, w_X2_serve_29, w_X2_serve_30, w_X2_serve_33, w_X2_serve_34, w_X2_serve_35, pm_1i_c, pm_2i_c, pm_1l_c, pm_2l_c, pm_1a_c, pm_ia_c, pm_iia_c, pm_va_c, pm_cp_c, pm_k0_c, pm_k1_c, pm_k2_c, pm_k3_c, pm_s1_c, pm_s2_c, pm_s3_c, pm_s4_c, pm_ri_c, pm_ra_c, pm_rn_c, pm_rk_i, pm_rk_z, pm_rk_a, pm_vk_i, pm_vk_z, pm_vk_a, pm_cti, pm_ctr, pm_ldi_z, pm_ldi_s, pm_lda_z, pm_lda_s, pm_cat_n, pm_cat_i, pm_cat_r, pm_cat_l, pm_obj, pm_arr, pm_opt, pm_ird, pm_aln, List.getElem?_cons_zero, List.getElem?_cons_succ, List.set_cons_zero, List.set_cons_succ, List.length_cons, List.length_nil, List.length_set, true_and, and_true, Nat.add_zero, Nat.zero_add, Nat.le_refl, Nat.reduceAdd, Nat.reduceLT, Nat.reduceLeDiff, Nat.zero_le, not_false_eq_true, not_true_eq_false, false_implies, implies_true, true_implies, Nat.zero_lt_succ, Nat.lt_add_one, pm_tl_n, pm_tl_s, sc_uL, xo3, xa3, xb3, xc3, xf3, x13, x23, x33, x43, x53, l3, l2, l1, e0]
    refine PM_use (c_Desk_comeIn D3 key (d + 3)) ?_
    rintro v h5 l5 ⟨rfl, D5, f5⟩
    have V5 := skV_cmF V3 key
    obtain ⟨A5, hA5⟩ : ∃ A5, A5 = cmF A3 key := ⟨_, rfl⟩
    rw [← hA5] at D5 V5 tail ⊢
    clear hA5
    have T := fun h6 A6 D V l f => tail h6 A6 p D V l f ple rfl
    rw [if_pos c0, e0] at T
    have xo5 := D5.o
    have xa5 := D5.sh
    have xb5 := D5.ko
    have xc5 := D5.lo
    have xf5 := D5.co
    have x15 := D5.wo
    have x25 := D5.to
    have x35 := D5.so
    have x45 := D5.go
    have x55 := D5.po
    show W_X2_serve _ _ _ _ _ _ _ _ _
    simp only [w_X2_serve_38, w_X2_serve_39, w_X2_serve_42, pm_1i_c, pm_2i_c, pm_1l_c, pm_2l_c, pm_1a_c, pm_ia_c, pm_iia_c, pm_va_c, pm_cp_c, pm_k0_c, pm_k1_c, pm_k2_c, pm_k3_c, pm_s1_c, pm_s2_c, pm_s3_c, pm_s4_c, pm_ri_c, pm_ra_c, pm_rn_c, pm_rk_i, pm_rk_z, pm_rk_a, pm_vk_i, pm_vk_z, pm_vk_a, pm_cti, pm_ctr, pm_ldi_z, pm_ldi_s, pm_lda_z, pm_lda_s, pm_cat_n, pm_cat_i, pm_cat_r, pm_cat_l, pm_obj, pm_arr, pm_opt, pm_ird, pm_aln, List.getElem?_cons_zero, List.getElem?_cons_succ, List.set_cons_zero, List.set_cons_succ, List.length_cons, List.length_nil, List.length_set, true_and, and_true, Nat.add_zero, Nat.zero_add, Nat.le_refl, Nat.reduceAdd, Nat.reduceLT, Nat.reduceLeDiff, Nat.zero_le, not_false_eq_true, not_true_eq_false, false_implies, implies_true, true_implies, Nat.zero_lt_succ, Nat.lt_add_one, pm_tl_n, pm_tl_s, sc_uL, xo5, xa5, xb5, xc5, xf5, x15, x25, x35, x45, x55, l5, l3, l2, l1]
    refine PM_use (c_Row_size D5.w (d + 4)) ?_
    rintro v h6 l6 ⟨rfl, rfl⟩
    show W_X2_serve _ _ _ _ _ _ _ _ _
    simp only [w_X2_serve_45, w_X2_serve_46, w_X2_serve_49, pm_1i_c, pm_2i_c, pm_1l_c, pm_2l_c, pm_1a_c, pm_ia_c, pm_iia_c, pm_va_c, pm_cp_c, pm_k0_c, pm_k1_c, pm_k2_c, pm_k3_c, pm_s1_c, pm_s2_c, pm_s3_c, pm_s4_c, pm_ri_c, pm_ra_c, pm_rn_c, pm_rk_i, pm_rk_z, pm_rk_a, pm_vk_i, pm_vk_z, pm_vk_a, pm_cti, pm_ctr, pm_ldi_z, pm_ldi_s, pm_lda_z, pm_lda_s, pm_cat_n, pm_cat_i, pm_cat_r, pm_cat_l, pm_obj, pm_arr, pm_opt, pm_ird, pm_aln, List.getElem?_cons_zero, List.getElem?_cons_succ, List.set_cons_zero, List.set_cons_succ, List.length_cons, List.length_nil, List.length_set, true_and, and_true, Nat.add_zero, Nat.zero_add, Nat.le_refl, Nat.reduceAdd, Nat.reduceLT, Nat.reduceLeDiff, Nat.zero_le, not_false_eq_true, not_true_eq_false, false_implies, implies_true, true_implies, Nat.zero_lt_succ, Nat.lt_add_one, pm_tl_n, pm_tl_s, sc_uL, xo5, xa5, xb5, xc5, xf5, x15, x25, x35, x45, x55, l5, l3, l2, l1]
    refine PM_use (c_Shares_windowFor D5.sh (d + 4)) ?_
    rintro v h6 l6 ⟨rfl, rfl⟩
    show W_X2_serve _ _ _ _ _ _ _ _ _
    simp only [w_X2_serve_52, w_X2_serve_55, w_X2_serve_56, w_X2_serve_57, w_X2_serve_60, pm_1i_c, pm_2i_c, pm_1l_c, pm_2l_c, pm_1a_c, pm_ia_c, pm_iia_c, pm_va_c, pm_cp_c, pm_k0_c, pm_k1_c, pm_k2_c, pm_k3_c, pm_s1_c, pm_s2_c, pm_s3_c, pm_s4_c, pm_ri_c, pm_ra_c, pm_rn_c, pm_rk_i, pm_rk_z, pm_rk_a, pm_vk_i, pm_vk_z, pm_vk_a, pm_cti, pm_ctr, pm_ldi_z, pm_ldi_s, pm_lda_z, pm_lda_s, pm_cat_n, pm_cat_i, pm_cat_r, pm_cat_l, pm_obj, pm_arr, pm_opt, pm_ird, pm_aln, List.getElem?_cons_zero, List.getElem?_cons_succ, List.set_cons_zero, List.set_cons_succ, List.length_cons, List.length_nil, List.length_set, true_and, and_true, Nat.add_zero, Nat.zero_add, Nat.le_refl, Nat.reduceAdd, Nat.reduceLT, Nat.reduceLeDiff, Nat.zero_le, not_false_eq_true, not_true_eq_false, false_implies, implies_true, true_implies, Nat.zero_lt_succ, Nat.lt_add_one, pm_tl_n, pm_tl_s, sc_uL, xo5, xa5, xb5, xc5, xf5, x15, x25, x35, x45, x55, l5, l3, l2, l1]
    refine ⟨fun c1 => ?_, fun c1 => ?_⟩
    · have e5 : srB2 A5 = A5 := if_neg c1
      rw [e5] at T ⊢
      exact T h6 A5 D5 V5 (by rw [l5, l3, l2, l1]; rfl) ((((f1.tr f2).tr f3)).tr f5) rfl
    · have e5 : srB2 A5 = lvF (drpR A5 1) ((li A5 1).getLastD (-1)) := if_pos c1
      rw [e5] at T ⊢
      refine PM_use (c_Row_removeLast D5.w (d + 3)) ?_
      rintro v h7 l7 ⟨rfl, K3, K4⟩
      obtain ⟨D7, f7⟩ := D5.mv1 (q := 1) (Or.inl rfl) K3 K4
      have xo7 := D7.o
      have xa7 := D7.sh
      have xb7 := D7.ko
      have xc7 := D7.lo
      have xf7 := D7.co
      have x17 := D7.wo
      have x27 := D7.to
      have x37 := D7.so
      have x47 := D7.go
      have x57 := D7.po
      show W_X2_serve _ _ _ _ _ _ _ _ _
      simp only [w_X2_serve_63, pm_1i_c, pm_2i_c, pm_1l_c, pm_2l_c, pm_1a_c, pm_ia_c, pm_iia_c, pm_va_c, pm_cp_c, pm_k0_c, pm_k1_c, pm_k2_c, pm_k3_c, pm_s1_c, pm_s2_c, pm_s3_c, pm_s4_c, pm_ri_c, pm_ra_c, pm_rn_c, pm_rk_i, pm_rk_z, pm_rk_a, pm_vk_i, pm_vk_z, pm_vk_a, pm_cti, pm_ctr, pm_ldi_z, pm_ldi_s, pm_lda_z, pm_lda_s, pm_cat_n, pm_cat_i, pm_cat_r, pm_cat_l, pm_obj, pm_arr, pm_opt, pm_ird, pm_aln, List.getElem?_cons_zero, List.getElem?_cons_succ, List.set_cons_zero, List.set_cons_succ, List.length_cons, List.length_nil, List.length_set, true_and, and_true, Nat.add_zero, Nat.zero_add, Nat.le_refl, Nat.reduceAdd, Nat.reduceLT, Nat.reduceLeDiff, Nat.zero_le, not_false_eq_true, not_true_eq_false, false_implies, implies_true, true_implies, Nat.zero_lt_succ, Nat.lt_add_one, pm_tl_n, pm_tl_s, sc_uL, xo7, xa7, xb7, xc7, xf7, x17, x27, x37, x47, x57, l7, l5, l3, l2, l1]
      refine PM_use (c_Desk_leaveWindow (by rw [l7, l5, l3, l2, l1]; exact hl) D7 (show skV (drpR A5 1) from V5) ((li A5 1).getLastD (-1)) d) ?_
      rintro v h8 l8 ⟨rfl, D8, f8⟩
      show W_X2_serve _ _ _ _ _ _ _ _ _
      simp only [w_X2_serve_66, pm_1i_c, pm_2i_c, pm_1l_c, pm_2l_c, pm_1a_c, pm_ia_c, pm_iia_c, pm_va_c, pm_cp_c, pm_k0_c, pm_k1_c, pm_k2_c, pm_k3_c, pm_s1_c, pm_s2_c, pm_s3_c, pm_s4_c, pm_ri_c, pm_ra_c, pm_rn_c, pm_rk_i, pm_rk_z, pm_rk_a, pm_vk_i, pm_vk_z, pm_vk_a, pm_cti, pm_ctr, pm_ldi_z, pm_ldi_s, pm_lda_z, pm_lda_s, pm_cat_n, pm_cat_i, pm_cat_r, pm_cat_l, pm_obj, pm_arr, pm_opt, pm_ird, pm_aln, List.getElem?_cons_zero, List.getElem?_cons_succ, List.set_cons_zero, List.set_cons_succ, List.length_cons, List.length_nil, List.length_set, true_and, and_true, Nat.add_zero, Nat.zero_add, Nat.le_refl, Nat.reduceAdd, Nat.reduceLT, Nat.reduceLeDiff, Nat.zero_le, not_false_eq_true, not_true_eq_false, false_implies, implies_true, true_implies, Nat.zero_lt_succ, Nat.lt_add_one, pm_tl_n, pm_tl_s, sc_uL]
      exact T h8 _ D8 (skV_lvF (A := drpR A5 1) V5 _) (by rw [l8, l7, l5, l3, l2, l1]; rfl) ((((((f1.tr f2).tr f3)).tr f5).tr f7).tr f8) rfl
  · have e0 : ¬ nI p = 0 := fun e => c0 ((zz p ple).mp e)
    rw [if_neg c0] at tail ⊢
    show W_X2_serve _ _ _ _ _ _ _ _ _
    simp only [w_X2_serve_28, w_X2_serve_29, w_X2_serve_30, w_X2_serve_33, w_X2_serve_34, w_X2_serve_35, w_X2_serve_69, w_X2_serve_70, w_X2_serve_71, w_X2_serve_74, w_X2_serve_75, w_X2_serve_76, pm_1i_c, pm_2i_c, pm_1l_c, pm_2l_c, pm_1a_c, pm_ia_c, pm_iia_c, pm_va_c, pm_cp_c, pm_k0_c, pm_k1_c, pm_k2_c, pm_k3_c, pm_s1_c, pm_s2_c, pm_s3_c, pm_s4_c, pm_ri_c, pm_ra_c, pm_rn_c, pm_rk_i, pm_rk_z, pm_rk_a, pm_vk_i, pm_vk_z, pm_vk_a, pm_cti, pm_ctr, pm_ldi_z, pm_ldi_s, pm_lda_z, pm_lda_s, pm_cat_n, pm_cat_i, pm_cat_r, pm_cat_l, pm_obj, pm_arr, pm_opt, pm_ird, pm_aln, List.getElem?_cons_zero, List.getElem?_cons_succ, List.set_cons_zero, List.set_cons_succ, List.length_cons, List.length_nil, List.length_set, true_and, and_true, Nat.add_zero, Nat.zero_add, Nat.le_refl, Nat.reduceAdd, Nat.reduceLT, Nat.reduceLeDiff, Nat.zero_le, not_false_eq_true, not_true_eq_false, false_implies, implies_true, true_implies, Nat.zero_lt_succ, Nat.lt_add_one, pm_tl_n, pm_tl_s, sc_uL, xo3, xa3, xb3, xc3, xf3, x13, x23, x33, x43, x53, l3, l2, l1, e0]
    obtain ⟨h5, E5, l5, f5, D5⟩ := D3.pd (uS A3 3 (sc A3 3 + 1)) (sc A3 2) (sc A3 3 + 1) (sc A3 4) (sc A3 5) (sc A3 6) (sc A3 7)
    rw [E5]
    have xo5 := D5.o
    have xa5 := D5.sh
    have xb5 := D5.ko
    have xc5 := D5.lo
    have xf5 := D5.co
    have x15 := D5.wo
    have x25 := D5.to
    have x35 := D5.so
    have x45 := D5.go
    have x55 := D5.po
    simp only [w_X2_serve_79, w_X2_serve_80, w_X2_serve_81, w_X2_serve_82, pm_1i_c, pm_2i_c, pm_1l_c, pm_2l_c, pm_1a_c, pm_ia_c, pm_iia_c, pm_va_c, pm_cp_c, pm_k0_c, pm_k1_c, pm_k2_c, pm_k3_c, pm_s1_c, pm_s2_c, pm_s3_c, pm_s4_c, pm_ri_c, pm_ra_c, pm_rn_c, pm_rk_i, pm_rk_z, pm_rk_a, pm_vk_i, pm_vk_z, pm_vk_a, pm_cti, pm_ctr, pm_ldi_z, pm_ldi_s, pm_lda_z, pm_lda_s, pm_cat_n, pm_cat_i, pm_cat_r, pm_cat_l, pm_obj, pm_arr, pm_opt, pm_ird, pm_aln, List.getElem?_cons_zero, List.getElem?_cons_succ, List.set_cons_zero, List.set_cons_succ, List.length_cons, List.length_nil, List.length_set, true_and, and_true, Nat.add_zero, Nat.zero_add, Nat.le_refl, Nat.reduceAdd, Nat.reduceLT, Nat.reduceLeDiff, Nat.zero_le, not_false_eq_true, not_true_eq_false, false_implies, implies_true, true_implies, Nat.zero_lt_succ, Nat.lt_add_one, xo5, xa5, xb5, xc5, xf5, x15, x25, x35, x45, x55, l5, l3, l2, l1]
    refine PM_use (c_Desk_moveUp D5 (by omega : 1 ≤ p) ple key (d + 1)) ?_
    rintro v h6 l6 ⟨rfl, D6, f6⟩
    have T := tail h6 _ p D6 (skV_mvF (A := uS A3 3 (sc A3 3 + 1)) V3 _ _) (by rw [l6, l5, l3, l2, l1]; rfl) ((((f1.tr f2).tr f3).tr f5).tr f6) ple rfl (by rw [if_neg c0])
    exact T
end DS
