/-! AdmissionDeskModel: law. -/
section ML
variable {h h' h0 : pmH} {m : Nat} {o oo : Nat → Int32} {bs ws : List Int32} {A K : AD} {p b dp n : Nat} {fa : Int32} {cs ks : List Int32}
/-- the reader's numbers as the model's own -/
def rdO (o : Nat → Int32) (p b l : Nat) (fa : Int32) (dp n c k : Nat) : Nat → Int32 := fun i => if i = 3 then nI p else if i = 4 then nI b else if i = 5 then nI l else if i = 6 then fa else if i = 8 then nI dp else if i = 9 then nI n else if i = 10 then nI c else if i = 11 then nI k else o i
theorem pr_.mm (P : pr_ h0 h m o bs p b dp n fa cs ks) (C : mm_ h' m oo A K bs ws) (F : fr1 h' h0 m) (e0 : o 0 = oo 0) (e2 : o 2 = 0) (e12 : o 12 = oo 12) : mm_ h m (rdO o p b bs.length fa dp n cs.length ks.length) A K [] ws ∧ frM h' h m := by
  have F' : ∀ i, i ≠ m → i ≠ m + 6 → i ≠ m + 8 → h[i]? = h'[i]? := fun i a b c => (P.fr i a b c).trans (F i a)
  refine ⟨⟨P.1, ?_, ?_, ?_, ?_, ?_, ?_, ?_, ?_, ?_, ?_⟩, fun i hi => F' i (by omega) (by omega) (by omega)⟩
  · obtain ⟨f, h1, h2⟩ := C.n
    exact ⟨f, (F' _ (by omega) (by omega) (by omega)).trans h1, h2⟩
  · obtain ⟨f, h1, h2⟩ := C.k
    exact ⟨f, (F' _ (by omega) (by omega) (by omega)).trans h1, fun z => h2 (e0.symm.trans z)⟩
  · obtain ⟨f, h1⟩ := C.as
    exact ⟨f, (F' _ (by omega) (by omega) (by omega)).trans h1⟩
  · obtain ⟨f, h1, -⟩ := C.tp
    exact ⟨f, (F' _ (by omega) (by omega) (by omega)).trans h1, Nat.zero_le _, e2, fun k hk => absurd hk (Nat.not_lt_zero _)⟩
  · obtain ⟨f, h1⟩ := C.fv
    exact ⟨f, (F' _ (by omega) (by omega) (by omega)).trans h1⟩
  · obtain ⟨f, f1, -⟩ := P.2.1
    exact ⟨f, f1⟩
  · exact C.p.keep (F' _ (by omega) (by omega) (by omega))
  · obtain ⟨f, f1, -⟩ := P.2.2.1
    exact ⟨f, f1⟩
  · obtain ⟨f, h1⟩ := C.rw
    exact ⟨f, (F' _ (by omega) (by omega) (by omega)).trans h1⟩
  · obtain ⟨f, h1, h2, h3, h4⟩ := C.tx
    exact ⟨f, (F' _ (by omega) (by omega) (by omega)).trans h1, h2, e12.trans h3, h4⟩
/-- the fault told -/
theorem pr_.u7 (P : pr_ h0 h m o bs p b dp n fa cs ks) (x : Int32) : ∃ h1, h.set m (.inr (12, [.ref (m + 1), .ref (m + 2), .ref (m + 3), .int (o 0), .int (o 1), .ref (m + 4), .int (o 2), .ref (m + 5), .int (nI p), .int (nI b), .int (nI bs.length), .int fa, .int x, .int (nI dp), .int (nI n), .int (nI cs.length), .ref (m + 6), .ref (m + 7), .ref (m + 8), .int (nI ks.length), .ref (m + 9), .ref (m + 10), .int (o 12)])) = h1 ∧ h1.length = h.length ∧ pr_ h0 h1 m (upd o 7 x) bs p b dp n fa cs ks := by
  obtain ⟨f, f1, f2⟩ := P.2.1
  obtain ⟨g, g1, g2⟩ := P.2.2.1
  refine ⟨_, rfl, List.length_set, ?_, ⟨f, (hset_n (by omega)).trans f1, f2⟩, ⟨g, (hset_n (by omega)).trans g1, g2⟩, fun i a b c => (hset_n (Ne.symm a)).trans (P.fr i a b c)⟩
  rw [hset_s, P.1]
  rfl
set_option maxHeartbeats 2000000 in
theorem c_P_law (C : mm_ h m o A K bs ws) (hb : byts bs) (d : Nat) : PM (d + 440) 173 [.ref m] h (fun v h' => if lwV bs = -1 then v = some (.int (nI (lwS bs).2.1)) ∧ mq_ h m (lwA A bs) K [] ws (o 0) 0 (-1) h' else v = some (.int 0) ∧ mq_ h m A K [] ws (o 0) 1 (lwV bs) h') := by
  have hl : bs.length ≤ 400 := by
    obtain ⟨f, -, t, -⟩ := C.tp
    exact t
  have H0 := C.ob
  unfold mO at H0
  obtain ⟨h1, e1, l1, F1, C1, H1⟩ := C.th 0
  refine en_X12_law rfl ?_
  simp only [w_X12_law_0, w_X12_law_1, w_X12_law_2, w_X12_law_5, w_X12_law_6, pm_1i_c, pm_2i_c, pm_1l_c, pm_2l_c, pm_1a_c, pm_ia_c, pm_iia_c, pm_va_c, pm_cp_c, pm_k0_c, pm_k1_c, pm_k2_c, pm_k3_c, pm_s1_c, pm_s2_c, pm_s3_c, pm_s4_c, pm_ri_c, pm_ra_c, pm_rn_c, pm_rk_i, pm_rk_z, pm_rk_a, pm_vk_i, pm_vk_z, pm_vk_a, pm_cti, pm_ctr, pm_ldi_z, pm_ldi_s, pm_lda_z, pm_lda_s, pm_cat_n, pm_cat_i, pm_cat_r, pm_cat_l, pm_obj, pm_arr, pm_opt, pm_ird, pm_aln, List.getElem?_cons_zero, List.getElem?_cons_succ, List.set_cons_zero, List.set_cons_succ, List.length_cons, List.length_nil, List.length_set, true_and, and_true, Nat.add_zero, Nat.zero_add, Nat.le_refl, Nat.reduceAdd, Nat.reduceLT, Nat.reduceLeDiff, Nat.zero_le, not_false_eq_true, not_true_eq_false, false_implies, implies_true, true_implies, Nat.zero_lt_succ, Nat.lt_add_one, H0, e1, H1, l1]
  refine PM_use (c_Y_begins C1 hb (d + 438)) ?_
  rintro v h2 l2 ⟨rfl, b, o', q0, q1, q2, q7, q12, P2, T, F2⟩
  have H2 := P2.c0
  show W_X12_law _ _ _ _ _ _ _ _ _
  simp only [w_X12_law_9, w_X12_law_10, pm_1i_c, pm_2i_c, pm_1l_c, pm_2l_c, pm_1a_c, pm_ia_c, pm_iia_c, pm_va_c, pm_cp_c, pm_k0_c, pm_k1_c, pm_k2_c, pm_k3_c, pm_s1_c, pm_s2_c, pm_s3_c, pm_s4_c, pm_ri_c, pm_ra_c, pm_rn_c, pm_rk_i, pm_rk_z, pm_rk_a, pm_vk_i, pm_vk_z, pm_vk_a, pm_cti, pm_ctr, pm_ldi_z, pm_ldi_s, pm_lda_z, pm_lda_s, pm_cat_n, pm_cat_i, pm_cat_r, pm_cat_l, pm_obj, pm_arr, pm_opt, pm_ird, pm_aln, List.getElem?_cons_zero, List.getElem?_cons_succ, List.set_cons_zero, List.set_cons_succ, List.length_cons, List.length_nil, List.length_set, true_and, and_true, Nat.add_zero, Nat.zero_add, Nat.le_refl, Nat.reduceAdd, Nat.reduceLT, Nat.reduceLeDiff, Nat.zero_le, not_false_eq_true, not_true_eq_false, false_implies, implies_true, true_implies, Nat.zero_lt_succ, Nat.lt_add_one, pm_tl_n, pm_tl_s, sc_uL, H2, l2, l1]
  obtain ⟨Z, hZ⟩ : ∃ Z, Z = lwS bs := ⟨_, rfl⟩
  have I := c_Y_LE T d 8 (by omega) 400 h2 ((0, -1), 0, []) 0 b 0 (-1) [] P2 ⟨Nat.zero_le _, Or.inl ⟨rfl, rfl, RT_0 hl⟩⟩ rfl rfl (by omega) (Nat.le_refl _) (by omega)
  rw [show d + 3 * 8 + 3 + 12 + 400 = d + 439 by omega, show LE (cuF bs 4).1 (cuF bs 4).2.2 8 ((0, -1), 0, []) = Z from hZ.symm, show 8 - 8 = 0 from rfl] at I
  refine PM_use (I) ?_
  rintro v h3 l3 ⟨rfl, p, b3, n, fa, cs, P3, R⟩
  have H3 := P3.c0
  have hV : lwV bs = (if fa = -1 then (if skp bs p < bs.length then nI (skp bs p) else -1) else fa) := by
    unfold lwV
    rw [← hZ]
    exact lw_end hl hb R.1
  show W_X12_law _ _ _ _ _ _ _ _ _
  simp only [w_X12_law_13, w_X12_law_14, pm_1i_c, pm_2i_c, pm_1l_c, pm_2l_c, pm_1a_c, pm_ia_c, pm_iia_c, pm_va_c, pm_cp_c, pm_k0_c, pm_k1_c, pm_k2_c, pm_k3_c, pm_s1_c, pm_s2_c, pm_s3_c, pm_s4_c, pm_ri_c, pm_ra_c, pm_rn_c, pm_rk_i, pm_rk_z, pm_rk_a, pm_vk_i, pm_vk_z, pm_vk_a, pm_cti, pm_ctr, pm_ldi_z, pm_ldi_s, pm_lda_z, pm_lda_s, pm_cat_n, pm_cat_i, pm_cat_r, pm_cat_l, pm_obj, pm_arr, pm_opt, pm_ird, pm_aln, List.getElem?_cons_zero, List.getElem?_cons_succ, List.set_cons_zero, List.set_cons_succ, List.length_cons, List.length_nil, List.length_set, true_and, and_true, Nat.add_zero, Nat.zero_add, Nat.le_refl, Nat.reduceAdd, Nat.reduceLT, Nat.reduceLeDiff, Nat.zero_le, not_false_eq_true, not_true_eq_false, false_implies, implies_true, true_implies, Nat.zero_lt_succ, Nat.lt_add_one, pm_tl_n, pm_tl_s, sc_uL, H3, l3, l2, l1]
  refine PM_use (c_Y_blanks P3 T R.1.1 (d + 437)) ?_
  rintro v h4 l4 ⟨rfl, P4⟩
  have H4 := P4.c0
  have l4' : h4.length = h.length := l4.trans (l3.trans (l2.trans l1))
  have kp := skp_le (bs := bs) R.1.1
  -- behind the reading
  have tail : ∀ (X : Int32) (g : pmH), X = lwV bs → (X = -1 → fa = -1) → pr_ h2 g m o' bs (skp bs p) (skp bs p) 0 n X cs [] → g.length = h.length → W_X12_law (d + 439) (h.length + 0) 0 (fun v h' => if lwV bs = -1 then v = some (.int (nI (lwS bs).2.1)) ∧ mq_ h m (lwA A bs) K [] ws (o 0) 0 (-1) h' else v = some (.int 0) ∧ mq_ h m A K [] ws (o 0) 1 (lwV bs) h') 43 [some (.ref m), none] [] g 0 := by
    intro X g hX hX2 P lg
    have H := P.c0
    obtain ⟨g1, E, lg1, Pg⟩ := P.u7 X
    rw [List.length_nil] at E
    have Hg := Pg.c0
    have lg1' : g1.length = h.length := lg1.trans lg
    rw [show (upd o' 7 X) 7 = X from rfl, show (upd o' 7 X) 0 = o' 0 from rfl, show (upd o' 7 X) 1 = o' 1 from rfl, show (upd o' 7 X) 2 = o' 2 from rfl, show (upd o' 7 X) 12 = o' 12 from rfl] at Hg
    obtain ⟨Cg, Fg⟩ := Pg.mm C1 F2 q0 q2 q12
    have Fh := F1.tr Fg
    simp only [w_X12_law_43, w_X12_law_44, w_X12_law_45, w_X12_law_48, w_X12_law_51, w_X12_law_52, w_X12_law_53, pm_1i_c, pm_2i_c, pm_1l_c, pm_2l_c, pm_1a_c, pm_ia_c, pm_iia_c, pm_va_c, pm_cp_c, pm_k0_c, pm_k1_c, pm_k2_c, pm_k3_c, pm_s1_c, pm_s2_c, pm_s3_c, pm_s4_c, pm_ri_c, pm_ra_c, pm_rn_c, pm_rk_i, pm_rk_z, pm_rk_a, pm_vk_i, pm_vk_z, pm_vk_a, pm_cti, pm_ctr, pm_ldi_z, pm_ldi_s, pm_lda_z, pm_lda_s, pm_cat_n, pm_cat_i, pm_cat_r, pm_cat_l, pm_obj, pm_arr, pm_opt, pm_ird, pm_aln, List.getElem?_cons_zero, List.getElem?_cons_succ, List.set_cons_zero, List.set_cons_succ, List.length_cons, List.length_nil, List.length_set, true_and, and_true, Nat.add_zero, Nat.zero_add, Nat.le_refl, Nat.reduceAdd, Nat.reduceLT, Nat.reduceLeDiff, Nat.zero_le, not_false_eq_true, not_true_eq_false, false_implies, implies_true, true_implies, Nat.zero_lt_succ, Nat.lt_add_one, H, lg, E, Hg, lg1']
    refine PM_use (c_Y_hasFailed Pg (d + 438)) ?_
    rintro v g2 l2 ⟨rfl, rfl⟩
    show W_X12_law _ _ _ _ _ _ _ _ _
    simp only [w_X12_law_56, w_X12_law_57, pm_1i_c, pm_2i_c, pm_1l_c, pm_2l_c, pm_1a_c, pm_ia_c, pm_iia_c, pm_va_c, pm_cp_c, pm_k0_c, pm_k1_c, pm_k2_c, pm_k3_c, pm_s1_c, pm_s2_c, pm_s3_c, pm_s4_c, pm_ri_c, pm_ra_c, pm_rn_c, pm_rk_i, pm_rk_z, pm_rk_a, pm_vk_i, pm_vk_z, pm_vk_a, pm_cti, pm_ctr, pm_ldi_z, pm_ldi_s, pm_lda_z, pm_lda_s, pm_cat_n, pm_cat_i, pm_cat_r, pm_cat_l, pm_obj, pm_arr, pm_opt, pm_ird, pm_aln, List.getElem?_cons_zero, List.getElem?_cons_succ, List.set_cons_zero, List.set_cons_succ, List.length_cons, List.length_nil, List.length_set, true_and, and_true, Nat.add_zero, Nat.zero_add, Nat.le_refl, Nat.reduceAdd, Nat.reduceLT, Nat.reduceLeDiff, Nat.zero_le, not_false_eq_true, not_true_eq_false, false_implies, implies_true, true_implies, Nat.zero_lt_succ, Nat.lt_add_one, pm_tl_n, pm_tl_s, sc_uL, Hg, lg1']
    rw [← hX]
    by_cases c : X = -1
    · simp only [if_pos c]
      refine PM_use (c_P_throwsIf0 Cg 1 (d + 438)) ?_
      rintro v g3 l3 ⟨rfl, rfl⟩
      obtain ⟨f, f1, fR⟩ := Cg.n
      obtain ⟨cf, cf1, cf2⟩ := Pg.2.1
      have hf := hX2 c
      obtain ⟨u1, u2, u3, u4, e, e', z, u5, u6, u7, u8⟩ := R.2.2.2 hf
      have u6 : cs = e' := u6
      have u5 : Z.2.2 = e := u5
      have w3 : cs.length + 0 ≤ 0 + p := R.2.2.1
      have w1 := R.1.1
      have c5 : cs.length ≤ 400 := by omega
      have nm : ∀ (l : pmH) (q : pmC), (l.set (m + 1) q)[m]? = l[m]? := fun _ _ => hset_n (by omega)
      have nm6 : ∀ (l : pmH) (q : pmC), (l.set (m + 1) q)[m + 6]? = l[m + 6]? := fun _ _ => hset_n (by omega)
      have loop : ∀ z k, cs.length - k = z → k ≤ cs.length → ∀ (gg : pmH) (ff : Nat → Int32), gg[m + 1]? = some (.inl (0, 2195, .inl ff)) → (∀ i, i < 1693 → ff i = f i) → ff 1693 = nI n → ff 1694 = nI cs.length → (∀ i, i < k → ff (1695 + i) = cs.getD i (-1)) → fr1 g3 gg (m + 1) → gg.length = h.length → W_X12_law (d + 439) (h.length + 0) 0 (fun v h' => v = some (.int (nI (lwS bs).2.1)) ∧ mq_ h m (lwA A bs) K [] ws (o 0) 0 (-1) h') 91 [some (.ref m), some (.int (nI k))] [] gg 0 := by
        intro z
        induction z with
        | zero =>
          intro k hz hk gg ff k1 k2 k3 k4 k5 k6 k7
          have : k = cs.length := by omega
          subst this
          have Hm := (k6 m (by omega)).trans Hg
          have RL := rep_lw (n := n) fR u8 (by omega) (by rw [← u6]; exact c5) k2 k3 (by rw [k4, u6]) (fun i hi => by rw [← u6] at hi ⊢; exact k5 i hi)
          have eA : lwB A (nI n) (e.take 400) = lwA A bs := by
            unfold lwA
            rw [← hZ, u5, u3]
          rw [eA] at RL
          obtain ⟨C9, F9⟩ := Cg.ud ⟨Cg.ob.kept k6, ff, k1, RL⟩ k6
          rw [w_X12_law_91]
          simp only [w_X12_law_92, w_X12_law_93, w_X12_law_96, w_X12_law_121, w_X12_law_122, w_X12_law_125, pm_1i_c, pm_2i_c, pm_1l_c, pm_2l_c, pm_1a_c, pm_ia_c, pm_iia_c, pm_va_c, pm_cp_c, pm_k0_c, pm_k1_c, pm_k2_c, pm_k3_c, pm_s1_c, pm_s2_c, pm_s3_c, pm_s4_c, pm_ri_c, pm_ra_c, pm_rn_c, pm_rk_i, pm_rk_z, pm_rk_a, pm_vk_i, pm_vk_z, pm_vk_a, pm_cti, pm_ctr, pm_ldi_z, pm_ldi_s, pm_lda_z, pm_lda_s, pm_cat_n, pm_cat_i, pm_cat_r, pm_cat_l, pm_obj, pm_arr, pm_opt, pm_ird, pm_aln, List.getElem?_cons_zero, List.getElem?_cons_succ, List.set_cons_zero, List.set_cons_succ, List.length_cons, List.length_nil, List.length_set, true_and, and_true, Nat.add_zero, Nat.zero_add, Nat.le_refl, Nat.reduceAdd, Nat.reduceLT, Nat.reduceLeDiff, Nat.zero_le, not_false_eq_true, not_true_eq_false, false_implies, implies_true, true_implies, Nat.zero_lt_succ, Nat.lt_add_one, Hm, k7, Int32.lt_irrefl, not_false_eq_true]
          refine ⟨by rw [← hZ, u3], ⟨⟨_, C9, q0, q1, c⟩, Fh.tr F9⟩⟩
        | succ z ih =>
          intro k hz hk gg ff k1 k2 k3 k4 k5 k6 k7
          have Hm := (k6 m (by omega)).trans Hg
          have H6 := (k6 (m + 6) (by omega)).trans cf1
          have v1 : vp_in (nI k) 500 := vp_in_nI (by omega) (by omega)
          have v2 : (nI k).toNatClampNeg = k := nI_clamp (by omega)
          have v3 : (1695 : Int32) + nI k = nI (1695 + k) := nI_add 1695 k
          have v4 : vp_in (nI (1695 + k)) 2195 := vp_in_nI (by omega) (by omega)
          have v5 : (nI (1695 + k)).toNatClampNeg = 1695 + k := nI_clamp (by omega)
          have v6 : nI k < nI cs.length := nI_lt (by omega) (by omega)
          rw [w_X12_law_91]
          simp only [w_X12_law_92, w_X12_law_93, w_X12_law_96, w_X12_law_99, w_X12_law_100, w_X12_law_103, w_X12_law_106, w_X12_law_107, w_X12_law_108, w_X12_law_109, w_X12_law_112, w_X12_law_113, w_X12_law_114, w_X12_law_115, w_X12_law_118, pm_1i_c, pm_2i_c, pm_1l_c, pm_2l_c, pm_1a_c, pm_ia_c, pm_iia_c, pm_va_c, pm_cp_c, pm_k0_c, pm_k1_c, pm_k2_c, pm_k3_c, pm_s1_c, pm_s2_c, pm_s3_c, pm_s4_c, pm_ri_c, pm_ra_c, pm_rn_c, pm_rk_i, pm_rk_z, pm_rk_a, pm_vk_i, pm_vk_z, pm_vk_a, pm_cti, pm_ctr, pm_ldi_z, pm_ldi_s, pm_lda_z, pm_lda_s, pm_cat_n, pm_cat_i, pm_cat_r, pm_cat_l, pm_obj, pm_arr, pm_opt, pm_ird, pm_aln, List.getElem?_cons_zero, List.getElem?_cons_succ, List.set_cons_zero, List.set_cons_succ, List.length_cons, List.length_nil, List.length_set, true_and, and_true, Nat.add_zero, Nat.zero_add, Nat.le_refl, Nat.reduceAdd, Nat.reduceLT, Nat.reduceLeDiff, Nat.zero_le, not_false_eq_true, not_true_eq_false, false_implies, implies_true, true_implies, Nat.zero_lt_succ, Nat.lt_add_one, Hm, H6, k1, v1, v2, v3, v4, v5, v6, nI_1, nm, k7]
          refine ih (k + 1) (by omega) (by omega) _ (upd ff (1695 + k) (cf k)) (by rw [hset_s, k1]; rfl) (fun i hi => ?_) ?_ ?_ (fun i hi => ?_) (fun i hi => (hset_n (Ne.symm hi)).trans (k6 i hi)) (by rw [List.length_set]; exact k7)
          · rw [upd_n (by omega)]
            exact k2 i hi
          · rw [upd_n (by omega)]
            exact k3
          · rw [upd_n (by omega)]
            exact k4
          · by_cases ci : i = k
            · rw [ci, upd_e]
              exact cf2 k (by omega)
            · rw [upd_n (by omega)]
              exact k5 i (by omega)
      show W_X12_law _ _ _ _ _ _ _ _ _
      simp only [w_X12_law_60, w_X12_law_65, w_X12_law_66, w_X12_law_69, w_X12_law_72, w_X12_law_73, w_X12_law_76, w_X12_law_77, w_X12_law_78, w_X12_law_81, w_X12_law_84, w_X12_law_85, w_X12_law_88, w_X12_law_89, w_X12_law_90, pm_1i_c, pm_2i_c, pm_1l_c, pm_2l_c, pm_1a_c, pm_ia_c, pm_iia_c, pm_va_c, pm_cp_c, pm_k0_c, pm_k1_c, pm_k2_c, pm_k3_c, pm_s1_c, pm_s2_c, pm_s3_c, pm_s4_c, pm_ri_c, pm_ra_c, pm_rn_c, pm_rk_i, pm_rk_z, pm_rk_a, pm_vk_i, pm_vk_z, pm_vk_a, pm_cti, pm_ctr, pm_ldi_z, pm_ldi_s, pm_lda_z, pm_lda_s, pm_cat_n, pm_cat_i, pm_cat_r, pm_cat_l, pm_obj, pm_arr, pm_opt, pm_ird, pm_aln, List.getElem?_cons_zero, List.getElem?_cons_succ, List.set_cons_zero, List.set_cons_succ, List.length_cons, List.length_nil, List.length_set, true_and, and_true, Nat.add_zero, Nat.zero_add, Nat.le_refl, Nat.reduceAdd, Nat.reduceLT, Nat.reduceLeDiff, Nat.zero_le, not_false_eq_true, not_true_eq_false, false_implies, implies_true, true_implies, Nat.zero_lt_succ, Nat.lt_add_one, pm_tl_n, pm_tl_s, sc_uL, Hg, lg1', f1, vi_1693, ix_1693, vi_1694, ix_1694, nm, hset_s, Option.map_some, List.set_set]
      refine loop _ 0 rfl (Nat.zero_le _) _ (upd (upd f 1693 (nI n)) 1694 (nI cs.length)) (by rw [hset_s, f1]; rfl) (fun i hi => ?_) ?_ ?_ (fun i hi => absurd hi (Nat.not_lt_zero _)) (fun i hi => hset_n (Ne.symm hi)) (by rw [List.length_set]; exact lg1')
      · rw [upd_n (by omega), upd_n (by omega)]
      · rw [upd_n (by omega), upd_e]
      · rw [upd_e]
    · simp only [if_neg c]
      refine PM_use (c_P_throwsIf1 Cg 1 (d + 438)) ?_
      rintro v g3 l3 ⟨rfl, C3, F3⟩
      show W_X12_law _ _ _ _ _ _ _ _ _
      simp only [w_X12_law_60, w_X12_law_63, w_X12_law_64, pm_1i_c, pm_2i_c, pm_1l_c, pm_2l_c, pm_1a_c, pm_ia_c, pm_iia_c, pm_va_c, pm_cp_c, pm_k0_c, pm_k1_c, pm_k2_c, pm_k3_c, pm_s1_c, pm_s2_c, pm_s3_c, pm_s4_c, pm_ri_c, pm_ra_c, pm_rn_c, pm_rk_i, pm_rk_z, pm_rk_a, pm_vk_i, pm_vk_z, pm_vk_a, pm_cti, pm_ctr, pm_ldi_z, pm_ldi_s, pm_lda_z, pm_lda_s, pm_cat_n, pm_cat_i, pm_cat_r, pm_cat_l, pm_obj, pm_arr, pm_opt, pm_ird, pm_aln, List.getElem?_cons_zero, List.getElem?_cons_succ, List.set_cons_zero, List.set_cons_succ, List.length_cons, List.length_nil, List.length_set, true_and, and_true, Nat.add_zero, Nat.zero_add, Nat.le_refl, Nat.reduceAdd, Nat.reduceLT, Nat.reduceLeDiff, Nat.zero_le, not_false_eq_true, not_true_eq_false, false_implies, implies_true, true_implies, Nat.zero_lt_succ, Nat.lt_add_one, pm_tl_n, pm_tl_s, sc_uL, l3, lg1', show ¬ (1 : Int32) = 0 by decide]
      exact ⟨⟨_, C3, q0, rfl, rfl⟩, Fh.tr F3⟩
  show W_X12_law _ _ _ _ _ _ _ _ _
  simp only [w_X12_law_17, w_X12_law_18, pm_1i_c, pm_2i_c, pm_1l_c, pm_2l_c, pm_1a_c, pm_ia_c, pm_iia_c, pm_va_c, pm_cp_c, pm_k0_c, pm_k1_c, pm_k2_c, pm_k3_c, pm_s1_c, pm_s2_c, pm_s3_c, pm_s4_c, pm_ri_c, pm_ra_c, pm_rn_c, pm_rk_i, pm_rk_z, pm_rk_a, pm_vk_i, pm_vk_z, pm_vk_a, pm_cti, pm_ctr, pm_ldi_z, pm_ldi_s, pm_lda_z, pm_lda_s, pm_cat_n, pm_cat_i, pm_cat_r, pm_cat_l, pm_obj, pm_arr, pm_opt, pm_ird, pm_aln, List.getElem?_cons_zero, List.getElem?_cons_succ, List.set_cons_zero, List.set_cons_succ, List.length_cons, List.length_nil, List.length_set, true_and, and_true, Nat.add_zero, Nat.zero_add, Nat.le_refl, Nat.reduceAdd, Nat.reduceLT, Nat.reduceLeDiff, Nat.zero_le, not_false_eq_true, not_true_eq_false, false_implies, implies_true, true_implies, Nat.zero_lt_succ, Nat.lt_add_one, pm_tl_n, pm_tl_s, sc_uL, H4, l4']
  refine PM_use (c_Y_hasFailed P4 (d + 438)) ?_
  rintro v h5 l5 ⟨rfl, rfl⟩
  by_cases c : fa = -1
  · simp only [if_pos c]
    rw [if_pos c] at hV
    by_cases c2 : skp bs p < bs.length
    · have c2' : nI (skp bs p) < nI bs.length := nI_lt c2 (by omega)
      rw [if_pos c2] at hV
      show W_X12_law _ _ _ _ _ _ _ _ _
      simp only [w_X12_law_21, w_X12_law_24, w_X12_law_25, w_X12_law_28, w_X12_law_29, w_X12_law_32, w_X12_law_35, w_X12_law_36, w_X12_law_37, w_X12_law_40, pm_1i_c, pm_2i_c, pm_1l_c, pm_2l_c, pm_1a_c, pm_ia_c, pm_iia_c, pm_va_c, pm_cp_c, pm_k0_c, pm_k1_c, pm_k2_c, pm_k3_c, pm_s1_c, pm_s2_c, pm_s3_c, pm_s4_c, pm_ri_c, pm_ra_c, pm_rn_c, pm_rk_i, pm_rk_z, pm_rk_a, pm_vk_i, pm_vk_z, pm_vk_a, pm_cti, pm_ctr, pm_ldi_z, pm_ldi_s, pm_lda_z, pm_lda_s, pm_cat_n, pm_cat_i, pm_cat_r, pm_cat_l, pm_obj, pm_arr, pm_opt, pm_ird, pm_aln, List.getElem?_cons_zero, List.getElem?_cons_succ, List.set_cons_zero, List.set_cons_succ, List.length_cons, List.length_nil, List.length_set, true_and, and_true, Nat.add_zero, Nat.zero_add, Nat.le_refl, Nat.reduceAdd, Nat.reduceLT, Nat.reduceLeDiff, Nat.zero_le, not_false_eq_true, not_true_eq_false, false_implies, implies_true, true_implies, Nat.zero_lt_succ, Nat.lt_add_one, pm_tl_n, pm_tl_s, sc_uL, H4, l4', c2']
      refine PM_use (c_Y_failsAt P4 (nI (skp bs p)) (d + 438)) ?_
      rintro v h6 l6 ⟨rfl, P6⟩
      rw [if_pos c] at P6
      show W_X12_law _ _ _ _ _ _ _ _ _
      exact tail _ h6 hV.symm (fun _ => c) P6 (l6.trans l4')
    · have c2' : ¬ nI (skp bs p) < nI bs.length := nI_nlt (by omega) (by omega)
      rw [if_neg c2] at hV
      show W_X12_law _ _ _ _ _ _ _ _ _
      simp only [w_X12_law_21, w_X12_law_24, w_X12_law_25, w_X12_law_28, w_X12_law_29, w_X12_law_32, pm_1i_c, pm_2i_c, pm_1l_c, pm_2l_c, pm_1a_c, pm_ia_c, pm_iia_c, pm_va_c, pm_cp_c, pm_k0_c, pm_k1_c, pm_k2_c, pm_k3_c, pm_s1_c, pm_s2_c, pm_s3_c, pm_s4_c, pm_ri_c, pm_ra_c, pm_rn_c, pm_rk_i, pm_rk_z, pm_rk_a, pm_vk_i, pm_vk_z, pm_vk_a, pm_cti, pm_ctr, pm_ldi_z, pm_ldi_s, pm_lda_z, pm_lda_s, pm_cat_n, pm_cat_i, pm_cat_r, pm_cat_l, pm_obj, pm_arr, pm_opt, pm_ird, pm_aln, List.getElem?_cons_zero, List.getElem?_cons_succ, List.set_cons_zero, List.set_cons_succ, List.length_cons, List.length_nil, List.length_set, true_and, and_true, Nat.add_zero, Nat.zero_add, Nat.le_refl, Nat.reduceAdd, Nat.reduceLT, Nat.reduceLeDiff, Nat.zero_le, not_false_eq_true, not_true_eq_false, false_implies, implies_true, true_implies, Nat.zero_lt_succ, Nat.lt_add_one, pm_tl_n, pm_tl_s, sc_uL, H4, l4', c2']
      rw [c] at P4
      exact tail _ h5 hV.symm (fun _ => c) P4 l4'
  · simp only [if_neg c]
    rw [if_neg c] at hV
    show W_X12_law _ _ _ _ _ _ _ _ _
    simp only [w_X12_law_21, pm_1i_c, pm_2i_c, pm_1l_c, pm_2l_c, pm_1a_c, pm_ia_c, pm_iia_c, pm_va_c, pm_cp_c, pm_k0_c, pm_k1_c, pm_k2_c, pm_k3_c, pm_s1_c, pm_s2_c, pm_s3_c, pm_s4_c, pm_ri_c, pm_ra_c, pm_rn_c, pm_rk_i, pm_rk_z, pm_rk_a, pm_vk_i, pm_vk_z, pm_vk_a, pm_cti, pm_ctr, pm_ldi_z, pm_ldi_s, pm_lda_z, pm_lda_s, pm_cat_n, pm_cat_i, pm_cat_r, pm_cat_l, pm_obj, pm_arr, pm_opt, pm_ird, pm_aln, List.getElem?_cons_zero, List.getElem?_cons_succ, List.set_cons_zero, List.set_cons_succ, List.length_cons, List.length_nil, List.length_set, true_and, and_true, Nat.add_zero, Nat.zero_add, Nat.le_refl, Nat.reduceAdd, Nat.reduceLT, Nat.reduceLeDiff, Nat.zero_le, not_false_eq_true, not_true_eq_false, false_implies, implies_true, true_implies, Nat.zero_lt_succ, Nat.lt_add_one, pm_tl_n, pm_tl_s, sc_uL, H4, l4', show ¬ (1 : Int32) = 0 by decide]
    exact tail _ h5 hV.symm (fun z => z) P4 l4'
end ML
