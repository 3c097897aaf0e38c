/-! The law's cases (by program). -/
set_option maxHeartbeats 8000000
section LCa
variable {p : Program} {l : Launch} {e : Env} {s : State} {m : MethodId} {b0 : Nat} {below : List Frame} {meth : Method} {c : Code} {Qf : State → Prop} {D : va_G} {ct : Nat → ClassId} {b : Nat} {g adV : Nat → Nat} {L : Nat} {xs : Nat → Int32} {xo : Nat}
theorem cs_feed (X : CX p l s m b0 meth c D ct b g adV L xs) (hxo : xo ≤ 900) {us : Nat} (hus : us + 6 ≤ 7293033) {th i : Int32} {u5 u6 : Option Value} {h : pmH} (R : RZ th h) (hl : h.length = 125) (hf : LG h) (i1 : vp_in (i + 1) L) (i2 : vp_in (i + 2) L) (i3 : vp_in (i + 3) L) (i4 : vp_in (i + 4) L) (i5 : vp_in (i + 5) L)  (hT : ∀ (u5 u6 : Option Value) (h2 : pmH), (∃ th, RZ th h2) → h2.length = 125 → LG h2 → SE p l e s m b0 below meth c Qf D ct b g xo 1934 [some (.ref 1000001), some (.ref 0), some (.ref 113), some (.ref 124), some (.int i), u5, u6] [] h2 us) : SE p l e s m b0 below meth c Qf D ct b g xo 208 [some (.ref 1000001), some (.ref 0), some (.ref 113), some (.ref 124), some (.int i), u5, u6] [] h us := by
  obtain ⟨bs, ws, A, K, o, S, -⟩ := R
  have c0 := S.C.o
  have r0 := lw_ird hl L xs
  have hus2 : us ≤ 7293033 := by omega
  refine law_run X (by omega) lk_1 ?_
  show KL1 _ _ _ _ _ _ _ _ _
  simp only [g_208, g_209, g_210, g_212, g_213, g_214, g_215, g_216, g_218, g_219, g_220, g_221, g_222, g_224, g_225, g_226, g_227, g_228, g_230, g_231, g_232, g_233, g_234, g_236, g_237, g_238, g_239, pm_1i_c, pm_2i_c, pm_1l_c, pm_2l_c, pm_1a_c, pm_ia_c, pm_iia_c, pm_va_c, pm_cp_c, pm_k0_c, pm_k1_c, pm_k2_c, pm_k3_c, pm_s1_c, pm_s2_c, pm_s3_c, pm_s4_c, pm_ri_c, pm_ra_c, pm_rn_c, pm_rk_i, pm_rk_z, pm_rk_a, pm_vk_i, pm_vk_z, pm_vk_a, pm_cti, pm_ctr, pm_ldi_z, pm_ldi_s, pm_lda_z, pm_lda_s, pm_cat_n, pm_cat_i, pm_cat_r, pm_cat_l, pm_obj, pm_arr, pm_opt, List.getElem?_cons_zero, List.getElem?_cons_succ, List.set_cons_zero, List.set_cons_succ, List.length_cons, List.length_nil, List.length_set, true_and, and_true, Nat.add_zero, Nat.zero_add, Nat.le_refl, Nat.reduceAdd, Nat.reduceLT, Nat.reduceLeDiff, Nat.zero_le, not_false_eq_true, not_true_eq_false, false_implies, implies_true, true_implies, Nat.zero_lt_succ, Nat.lt_add_one, pm_tl_v, List.cons_append, List.nil_append, pm_k5_c, pm_tl_n, pm_tl_s, i1, i2, i3, i4, i5, hus2, c0, r0, hl]
  refine PM_use (pr_feed S hl (xs ((i + 1).toNatClampNeg)) (xs ((i + 2).toNatClampNeg)) (xs ((i + 3).toNatClampNeg)) (xs ((i + 4).toNatClampNeg)) (xs ((i + 5).toNatClampNeg))) ?_
  rintro v h1 l1 ⟨y, rfl, e1, ⟨fs, hm⟩, P⟩
  have l1' : h1.length = 125 := by omega
  have r1 := lw_ird l1' L xs
  show KL1 _ _ _ _ _ _ _ _ _
  simp only [g_242, g_243, g_244, g_246, g_247, g_248, g_249, g_250, g_252, g_253, g_254, g_255, g_256, g_258, g_259, g_260, g_261, g_262, g_264, g_265, g_266, g_267, g_268, g_270, g_271, g_272, g_273, pm_1i_c, pm_2i_c, pm_1l_c, pm_2l_c, pm_1a_c, pm_ia_c, pm_iia_c, pm_va_c, pm_cp_c, pm_k0_c, pm_k1_c, pm_k2_c, pm_k3_c, pm_s1_c, pm_s2_c, pm_s3_c, pm_s4_c, pm_ri_c, pm_ra_c, pm_rn_c, pm_rk_i, pm_rk_z, pm_rk_a, pm_vk_i, pm_vk_z, pm_vk_a, pm_cti, pm_ctr, pm_ldi_z, pm_ldi_s, pm_lda_z, pm_lda_s, pm_cat_n, pm_cat_i, pm_cat_r, pm_cat_l, pm_obj, pm_arr, pm_opt, List.getElem?_cons_zero, List.getElem?_cons_succ, List.set_cons_zero, List.set_cons_succ, List.length_cons, List.length_nil, List.length_set, true_and, and_true, Nat.add_zero, Nat.zero_add, Nat.le_refl, Nat.reduceAdd, Nat.reduceLT, Nat.reduceLeDiff, Nat.zero_le, not_false_eq_true, not_true_eq_false, false_implies, implies_true, true_implies, Nat.zero_lt_succ, Nat.lt_add_one, pm_tl_v, List.cons_append, List.nil_append, pm_k5_c, pm_tl_n, pm_tl_s, i1, i2, i3, i4, i5, hus2, hm, r1, l1']
  refine PM_use P ?_
  rintro w h2 l2 ⟨rfl, R2, e2⟩
  show KL1 _ _ _ _ _ _ _ _ _
  simp only [g_276, g_279, g_1934, pm_1i_c, pm_2i_c, pm_1l_c, pm_2l_c, pm_1a_c, pm_ia_c, pm_iia_c, pm_va_c, pm_cp_c, pm_k0_c, pm_k1_c, pm_k2_c, pm_k3_c, pm_s1_c, pm_s2_c, pm_s3_c, pm_s4_c, pm_ri_c, pm_ra_c, pm_rn_c, pm_rk_i, pm_rk_z, pm_rk_a, pm_vk_i, pm_vk_z, pm_vk_a, pm_cti, pm_ctr, pm_ldi_z, pm_ldi_s, pm_lda_z, pm_lda_s, pm_cat_n, pm_cat_i, pm_cat_r, pm_cat_l, pm_obj, pm_arr, pm_opt, List.getElem?_cons_zero, List.getElem?_cons_succ, List.set_cons_zero, List.set_cons_succ, List.length_cons, List.length_nil, List.length_set, true_and, and_true, Nat.add_zero, Nat.zero_add, Nat.le_refl, Nat.reduceAdd, Nat.reduceLT, Nat.reduceLeDiff, Nat.zero_le, not_false_eq_true, not_true_eq_false, false_implies, implies_true, true_implies, Nat.zero_lt_succ, Nat.lt_add_one, pm_tl_v, List.cons_append, List.nil_append, pm_k5_c, pm_tl_n, pm_tl_s, i1, i2, i3, i4, i5, hus2]
  exact hT _ _ h2 ⟨_, R2⟩ (by omega) (by obtain ⟨f, hf⟩ := hf; exact ⟨f, (e2.trans e1).trans hf⟩)
theorem cs_end (X : CX p l s m b0 meth c D ct b g adV L xs) (hxo : xo ≤ 900) {us : Nat} (hus : us + 6 ≤ 7293033) {th i : Int32} {u5 u6 : Option Value} {h : pmH} (R : RZ th h) (hl : h.length = 125) (hf : LG h) (i1 : vp_in (i + 1) L) (i2 : vp_in (i + 2) L) (i3 : vp_in (i + 3) L) (i4 : vp_in (i + 4) L) (i5 : vp_in (i + 5) L)  (hT : ∀ (u5 u6 : Option Value) (h2 : pmH), (∃ th, RZ th h2) → h2.length = 125 → LG h2 → SE p l e s m b0 below meth c Qf D ct b g xo 1934 [some (.ref 1000001), some (.ref 0), some (.ref 113), some (.ref 124), some (.int i), u5, u6] [] h2 us) : SE p l e s m b0 below meth c Qf D ct b g xo 281 [some (.ref 1000001), some (.ref 0), some (.ref 113), some (.ref 124), some (.int i), u5, u6] [] h us := by
  obtain ⟨bs, ws, A, K, o, S, -⟩ := R
  have c0 := S.C.o
  have r0 := lw_ird hl L xs
  have hus2 : us ≤ 7293033 := by omega
  refine law_run X (by omega) lk_1 ?_
  show KL1 _ _ _ _ _ _ _ _ _
  simp only [g_281, g_282, g_283, g_285, g_286, g_287, g_288, pm_1i_c, pm_2i_c, pm_1l_c, pm_2l_c, pm_1a_c, pm_ia_c, pm_iia_c, pm_va_c, pm_cp_c, pm_k0_c, pm_k1_c, pm_k2_c, pm_k3_c, pm_s1_c, pm_s2_c, pm_s3_c, pm_s4_c, pm_ri_c, pm_ra_c, pm_rn_c, pm_rk_i, pm_rk_z, pm_rk_a, pm_vk_i, pm_vk_z, pm_vk_a, pm_cti, pm_ctr, pm_ldi_z, pm_ldi_s, pm_lda_z, pm_lda_s, pm_cat_n, pm_cat_i, pm_cat_r, pm_cat_l, pm_obj, pm_arr, pm_opt, List.getElem?_cons_zero, List.getElem?_cons_succ, List.set_cons_zero, List.set_cons_succ, List.length_cons, List.length_nil, List.length_set, true_and, and_true, Nat.add_zero, Nat.zero_add, Nat.le_refl, Nat.reduceAdd, Nat.reduceLT, Nat.reduceLeDiff, Nat.zero_le, not_false_eq_true, not_true_eq_false, false_implies, implies_true, true_implies, Nat.zero_lt_succ, Nat.lt_add_one, pm_tl_v, List.cons_append, List.nil_append, pm_k5_c, pm_tl_n, pm_tl_s, i1, i2, i3, i4, i5, hus2, c0, r0, hl]
  refine PM_use (pr_end S hl (xs ((i + 1).toNatClampNeg))) ?_
  rintro v h1 l1 ⟨y, rfl, e1, ⟨fs, hm⟩, P⟩
  have l1' : h1.length = 125 := by omega
  have r1 := lw_ird l1' L xs
  show KL1 _ _ _ _ _ _ _ _ _
  simp only [g_291, g_292, g_293, g_295, g_296, g_297, g_298, pm_1i_c, pm_2i_c, pm_1l_c, pm_2l_c, pm_1a_c, pm_ia_c, pm_iia_c, pm_va_c, pm_cp_c, pm_k0_c, pm_k1_c, pm_k2_c, pm_k3_c, pm_s1_c, pm_s2_c, pm_s3_c, pm_s4_c, pm_ri_c, pm_ra_c, pm_rn_c, pm_rk_i, pm_rk_z, pm_rk_a, pm_vk_i, pm_vk_z, pm_vk_a, pm_cti, pm_ctr, pm_ldi_z, pm_ldi_s, pm_lda_z, pm_lda_s, pm_cat_n, pm_cat_i, pm_cat_r, pm_cat_l, pm_obj, pm_arr, pm_opt, List.getElem?_cons_zero, List.getElem?_cons_succ, List.set_cons_zero, List.set_cons_succ, List.length_cons, List.length_nil, List.length_set, true_and, and_true, Nat.add_zero, Nat.zero_add, Nat.le_refl, Nat.reduceAdd, Nat.reduceLT, Nat.reduceLeDiff, Nat.zero_le, not_false_eq_true, not_true_eq_false, false_implies, implies_true, true_implies, Nat.zero_lt_succ, Nat.lt_add_one, pm_tl_v, List.cons_append, List.nil_append, pm_k5_c, pm_tl_n, pm_tl_s, i1, i2, i3, i4, i5, hus2, hm, r1, l1']
  refine PM_use P ?_
  rintro w h2 l2 ⟨rfl, R2, e2⟩
  show KL1 _ _ _ _ _ _ _ _ _
  simp only [g_301, g_304, g_1934, pm_1i_c, pm_2i_c, pm_1l_c, pm_2l_c, pm_1a_c, pm_ia_c, pm_iia_c, pm_va_c, pm_cp_c, pm_k0_c, pm_k1_c, pm_k2_c, pm_k3_c, pm_s1_c, pm_s2_c, pm_s3_c, pm_s4_c, pm_ri_c, pm_ra_c, pm_rn_c, pm_rk_i, pm_rk_z, pm_rk_a, pm_vk_i, pm_vk_z, pm_vk_a, pm_cti, pm_ctr, pm_ldi_z, pm_ldi_s, pm_lda_z, pm_lda_s, pm_cat_n, pm_cat_i, pm_cat_r, pm_cat_l, pm_obj, pm_arr, pm_opt, List.getElem?_cons_zero, List.getElem?_cons_succ, List.set_cons_zero, List.set_cons_succ, List.length_cons, List.length_nil, List.length_set, true_and, and_true, Nat.add_zero, Nat.zero_add, Nat.le_refl, Nat.reduceAdd, Nat.reduceLT, Nat.reduceLeDiff, Nat.zero_le, not_false_eq_true, not_true_eq_false, false_implies, implies_true, true_implies, Nat.zero_lt_succ, Nat.lt_add_one, pm_tl_v, List.cons_append, List.nil_append, pm_k5_c, pm_tl_n, pm_tl_s, i1, i2, i3, i4, i5, hus2]
  exact hT _ _ h2 ⟨_, R2⟩ (by omega) (by obtain ⟨f, hf⟩ := hf; exact ⟨f, (e2.trans e1).trans hf⟩)
theorem ct_law (X : CX p l s m b0 meth c D ct b g adV L xs) (hxo : xo ≤ 900) {us : Nat} (hus : us + 6 ≤ 7293033) {th i : Int32} {u5 u6 : Option Value} {h : pmH} (R : RZ th h) (hl : h.length = 125) (hf : LG h) (i1 : vp_in (i + 1) L) (i2 : vp_in (i + 2) L) (i3 : vp_in (i + 3) L) (i4 : vp_in (i + 4) L) (i5 : vp_in (i + 5) L)  (hT : ∀ (u5 u6 : Option Value) (h2 : pmH), (∃ th, RZ th h2) → h2.length = 125 → LG h2 → SE p l e s m b0 below meth c Qf D ct b g (xo + 1) 1934 [some (.ref 1000001), some (.ref 0), some (.ref 113), some (.ref 124), some (.int i), u5, u6] [] h2 (us + 6)) : SE p l e s m b0 below meth c Qf D ct b g xo 306 [some (.ref 1000001), some (.ref 0), some (.ref 113), some (.ref 124), some (.int i), u5, u6] [] h us := by
  obtain ⟨bs, ws, A, K, o, S, -⟩ := R
  have c0 := S.C.o
  have r0 := lw_ird hl L xs
  obtain ⟨f, hf⟩ := hf
  have hus2 : us ≤ 7293033 := by omega
  obtain ⟨Q, hW, hQ⟩ := tr_law S hl 
  refine law_run X (by omega) lk_1 ?_
  show KL1 _ _ _ _ _ _ _ _ _
  simp only [g_306, g_307, g_308, pm_1i_c, pm_2i_c, pm_1l_c, pm_2l_c, pm_1a_c, pm_ia_c, pm_iia_c, pm_va_c, pm_cp_c, pm_k0_c, pm_k1_c, pm_k2_c, pm_k3_c, pm_s1_c, pm_s2_c, pm_s3_c, pm_s4_c, pm_ri_c, pm_ra_c, pm_rn_c, pm_rk_i, pm_rk_z, pm_rk_a, pm_vk_i, pm_vk_z, pm_vk_a, pm_cti, pm_ctr, pm_ldi_z, pm_ldi_s, pm_lda_z, pm_lda_s, pm_cat_n, pm_cat_i, pm_cat_r, pm_cat_l, pm_obj, pm_arr, pm_opt, List.getElem?_cons_zero, List.getElem?_cons_succ, List.set_cons_zero, List.set_cons_succ, List.length_cons, List.length_nil, List.length_set, true_and, and_true, Nat.add_zero, Nat.zero_add, Nat.le_refl, Nat.reduceAdd, Nat.reduceLT, Nat.reduceLeDiff, Nat.zero_le, not_false_eq_true, not_true_eq_false, false_implies, implies_true, true_implies, Nat.zero_lt_succ, Nat.lt_add_one, pm_tl_v, List.cons_append, List.nil_append, pm_k5_c, pm_tl_n, pm_tl_s, i1, i2, i3, i4, i5, hus2, c0, r0, hl]
  refine law_call X (idx := 99) (n := 2) (y := yL_law) (cc := cL_law) (maxL := 3) (hh := [(0, 8, 11, 13)]) (as := [.ref 0, .ref 124]) (by omega) hus hl (hp_law (d := 458) (f := f) X.2.2.2.2.2.2.2.2.1 X.2.2.2.2.2.2.1 c0 (fun v h1 z => (hQ v h1 z).1.trans hf) (fun v h1 z => by
    rcases (hQ v h1 z).2.2 with ⟨y, hy, -⟩ | ⟨e, he, -⟩
    · exact Or.inl ⟨y, hy⟩
    · exact Or.inr ⟨e, he⟩) (fun e h1 z => by
    rcases (hQ _ h1 z).2.2 with ⟨y, hy, -⟩ | ⟨e9, he, hE, -⟩
    · cases hy
    · cases he
      exact hE) hW) (pm_w_in (j := 4006) (by decide +kernel)) (pm_w_in (j := 4004) (by decide +kernel)) (pm_w_in (j := 4005) (by decide +kernel)) (pm_w_in (j := 1000) (by decide +kernel)) (by decide +kernel) (by decide) rfl (by decide +kernel) ?_
  have hus2 : us + 6 ≤ 7293033 := hus
  intro v h1 l1 hp
  rcases hp with ⟨y, h9, hq, rfl, rfl⟩ | ⟨ev, he, hq, rfl⟩
  · rcases hQ _ _ hq with ⟨e1, ⟨fs, hm⟩, ⟨y', hy, P⟩ | ⟨e', hy, -⟩⟩
    · cases hy
      have l9 : h9.length = 125 := by rw [List.length_set] at l1; exact l1
      suffices key : ∀ h1 : pmH, h1 = h9.set 124 (.inl (3, 1, .inr (.inl (vp_updL f 0 y.toInt64)))) → SE p l e s m b0 below meth c Qf D ct b g (xo + 1) 311 [some (.ref 1000001), some (.ref 0), some (.ref 113), some (.ref 124), some (.int i), u5, u6] [.int 0] h1 (us + 6) from key _ rfl
      clear l1
      intro h1 hh1
      have f1 : ∀ i, i ≠ 124 → h1[i]? = h9[i]? := fun i hi => by rw [hh1]; exact List.getElem?_set_ne (fun z => hi z.symm)
      have f2 : h1[124]? = some (.inl (3, 1, .inr (.inl (vp_updL f 0 y.toInt64)))) := by rw [hh1]; exact List.getElem?_set_self (by omega)
      have l1 : h1.length = 125 := by rw [hh1, List.length_set]; exact l9
      clear hh1
      have r1 := lw_ird l1 L xs
      have hm1 := (f1 113 (by omega)).trans hm
      refine law_run X (by omega) lk_1 ?_
      show KL1 _ _ _ _ _ _ _ _ _
      simp only [g_311, g_313, g_314, pm_1i_c, pm_2i_c, pm_1l_c, pm_2l_c, pm_1a_c, pm_ia_c, pm_iia_c, pm_va_c, pm_cp_c, pm_k0_c, pm_k1_c, pm_k2_c, pm_k3_c, pm_s1_c, pm_s2_c, pm_s3_c, pm_s4_c, pm_ri_c, pm_ra_c, pm_rn_c, pm_rk_i, pm_rk_z, pm_rk_a, pm_vk_i, pm_vk_z, pm_vk_a, pm_cti, pm_ctr, pm_ldi_z, pm_ldi_s, pm_lda_z, pm_lda_s, pm_cat_n, pm_cat_i, pm_cat_r, pm_cat_l, pm_obj, pm_arr, pm_opt, List.getElem?_cons_zero, List.getElem?_cons_succ, List.set_cons_zero, List.set_cons_succ, List.length_cons, List.length_nil, List.length_set, true_and, and_true, Nat.add_zero, Nat.zero_add, Nat.le_refl, Nat.reduceAdd, Nat.reduceLT, Nat.reduceLeDiff, Nat.zero_le, not_false_eq_true, not_true_eq_false, false_implies, implies_true, true_implies, Nat.zero_lt_succ, Nat.lt_add_one, pm_tl_v, List.cons_append, List.nil_append, pm_k5_c, pm_tl_n, pm_tl_s, i1, i2, i3, i4, i5, hus2, hm1, r1, l1]
      refine PM_use (P h1 f1) ?_
      rintro w h3 l3 ⟨rfl, R3, e3⟩
      have l3' : h3.length = 125 := by omega
      obtain ⟨o3, m3, t3⟩ := R3.len
      have m3' := m3
      unfold mO at m3'
      have f3 := e3.trans f2
      show KL1 _ _ _ _ _ _ _ _ _
      simp only [g_317, g_319, g_320, pm_1i_c, pm_2i_c, pm_1l_c, pm_2l_c, pm_1a_c, pm_ia_c, pm_iia_c, pm_va_c, pm_cp_c, pm_k0_c, pm_k1_c, pm_k2_c, pm_k3_c, pm_s1_c, pm_s2_c, pm_s3_c, pm_s4_c, pm_ri_c, pm_ra_c, pm_rn_c, pm_rk_i, pm_rk_z, pm_rk_a, pm_vk_i, pm_vk_z, pm_vk_a, pm_cti, pm_ctr, pm_ldi_z, pm_ldi_s, pm_lda_z, pm_lda_s, pm_cat_n, pm_cat_i, pm_cat_r, pm_cat_l, pm_obj, pm_arr, pm_opt, List.getElem?_cons_zero, List.getElem?_cons_succ, List.set_cons_zero, List.set_cons_succ, List.length_cons, List.length_nil, List.length_set, true_and, and_true, Nat.add_zero, Nat.zero_add, Nat.le_refl, Nat.reduceAdd, Nat.reduceLT, Nat.reduceLeDiff, Nat.zero_le, not_false_eq_true, not_true_eq_false, false_implies, implies_true, true_implies, Nat.zero_lt_succ, Nat.lt_add_one, pm_tl_v, List.cons_append, List.nil_append, pm_k5_c, pm_tl_n, pm_tl_s, i1, i2, i3, i4, i5, hus2, m3', l3']
      refine PM_use (c_M_thrown m3 459) ?_
      rintro w9 h4 l4 ⟨rfl, rfl⟩
      show KL1 _ _ _ _ _ _ _ _ _
      simp only [g_323, g_325, g_328, g_330, g_332, g_335, g_336, g_337, g_338, g_340, g_341, g_342, g_345, g_347, g_1934, pm_1i_c, pm_2i_c, pm_1l_c, pm_2l_c, pm_1a_c, pm_ia_c, pm_iia_c, pm_va_c, pm_cp_c, pm_k0_c, pm_k1_c, pm_k2_c, pm_k3_c, pm_s1_c, pm_s2_c, pm_s3_c, pm_s4_c, pm_ri_c, pm_ra_c, pm_rn_c, pm_rk_i, pm_rk_z, pm_rk_a, pm_vk_i, pm_vk_z, pm_vk_a, pm_cti, pm_ctr, pm_ldi_z, pm_ldi_s, pm_lda_z, pm_lda_s, pm_cat_n, pm_cat_i, pm_cat_r, pm_cat_l, pm_obj, pm_arr, pm_opt, List.getElem?_cons_zero, List.getElem?_cons_succ, List.set_cons_zero, List.set_cons_succ, List.length_cons, List.length_nil, List.length_set, true_and, and_true, Nat.add_zero, Nat.zero_add, Nat.le_refl, Nat.reduceAdd, Nat.reduceLT, Nat.reduceLeDiff, Nat.zero_le, not_false_eq_true, not_true_eq_false, false_implies, implies_true, true_implies, Nat.zero_lt_succ, Nat.lt_add_one, pm_tl_v, List.cons_append, List.nil_append, pm_k5_c, pm_tl_n, pm_tl_s, i1, i2, i3, i4, i5, hus2, t3, f3, pm_arl, px_z0, px_in01, vp_updL_0, lg_cmp_s, eq_self]
      exact hT _ _ _ ⟨_, R3⟩ l3' ⟨_, f3⟩
    · cases hy
  · rcases hQ _ _ hq with ⟨e1, ⟨fs, hm⟩, ⟨y', hy, -⟩ | ⟨e', hy, hE, P⟩⟩
    · cases hy
    · cases hy
      have r1 := lw_ird l1 L xs
      have hk : ¬ (1 : Int32) = 0 := by decide
      refine law_run X (by omega) lk_1 ?_
      show KL1 _ _ _ _ _ _ _ _ _
      simp only [g_311, g_313, g_314, pm_1i_c, pm_2i_c, pm_1l_c, pm_2l_c, pm_1a_c, pm_ia_c, pm_iia_c, pm_va_c, pm_cp_c, pm_k0_c, pm_k1_c, pm_k2_c, pm_k3_c, pm_s1_c, pm_s2_c, pm_s3_c, pm_s4_c, pm_ri_c, pm_ra_c, pm_rn_c, pm_rk_i, pm_rk_z, pm_rk_a, pm_vk_i, pm_vk_z, pm_vk_a, pm_cti, pm_ctr, pm_ldi_z, pm_ldi_s, pm_lda_z, pm_lda_s, pm_cat_n, pm_cat_i, pm_cat_r, pm_cat_l, pm_obj, pm_arr, pm_opt, List.getElem?_cons_zero, List.getElem?_cons_succ, List.set_cons_zero, List.set_cons_succ, List.length_cons, List.length_nil, List.length_set, true_and, and_true, Nat.add_zero, Nat.zero_add, Nat.le_refl, Nat.reduceAdd, Nat.reduceLT, Nat.reduceLeDiff, Nat.zero_le, not_false_eq_true, not_true_eq_false, false_implies, implies_true, true_implies, Nat.zero_lt_succ, Nat.lt_add_one, pm_tl_v, List.cons_append, List.nil_append, pm_k5_c, pm_tl_n, pm_tl_s, i1, i2, i3, i4, i5, hus2, hm, r1, l1]
      refine PM_use P ?_
      rintro w h3 l3 ⟨⟨zz, rfl⟩, R3, e3⟩
      have l3' : h3.length = 125 := by omega
      obtain ⟨o3, m3, t3⟩ := R3.len
      have m3' := m3
      unfold mO at m3'
      have f3 := (e3.trans e1).trans hf
      show KL1 _ _ _ _ _ _ _ _ _
      simp only [g_317, g_319, g_320, pm_1i_c, pm_2i_c, pm_1l_c, pm_2l_c, pm_1a_c, pm_ia_c, pm_iia_c, pm_va_c, pm_cp_c, pm_k0_c, pm_k1_c, pm_k2_c, pm_k3_c, pm_s1_c, pm_s2_c, pm_s3_c, pm_s4_c, pm_ri_c, pm_ra_c, pm_rn_c, pm_rk_i, pm_rk_z, pm_rk_a, pm_vk_i, pm_vk_z, pm_vk_a, pm_cti, pm_ctr, pm_ldi_z, pm_ldi_s, pm_lda_z, pm_lda_s, pm_cat_n, pm_cat_i, pm_cat_r, pm_cat_l, pm_obj, pm_arr, pm_opt, List.getElem?_cons_zero, List.getElem?_cons_succ, List.set_cons_zero, List.set_cons_succ, List.length_cons, List.length_nil, List.length_set, true_and, and_true, Nat.add_zero, Nat.zero_add, Nat.le_refl, Nat.reduceAdd, Nat.reduceLT, Nat.reduceLeDiff, Nat.zero_le, not_false_eq_true, not_true_eq_false, false_implies, implies_true, true_implies, Nat.zero_lt_succ, Nat.lt_add_one, pm_tl_v, List.cons_append, List.nil_append, pm_k5_c, pm_tl_n, pm_tl_s, i1, i2, i3, i4, i5, hus2, m3', l3']
      refine PM_use (c_M_thrown m3 459) ?_
      rintro w9 h4 l4 ⟨rfl, rfl⟩
      show KL1 _ _ _ _ _ _ _ _ _
      simp only [g_323, g_325, g_328, g_330, g_332, g_335, g_336, g_337, g_338, g_340, g_341, g_342, g_345, g_347, g_1934, pm_1i_c, pm_2i_c, pm_1l_c, pm_2l_c, pm_1a_c, pm_ia_c, pm_iia_c, pm_va_c, pm_cp_c, pm_k0_c, pm_k1_c, pm_k2_c, pm_k3_c, pm_s1_c, pm_s2_c, pm_s3_c, pm_s4_c, pm_ri_c, pm_ra_c, pm_rn_c, pm_rk_i, pm_rk_z, pm_rk_a, pm_vk_i, pm_vk_z, pm_vk_a, pm_cti, pm_ctr, pm_ldi_z, pm_ldi_s, pm_lda_z, pm_lda_s, pm_cat_n, pm_cat_i, pm_cat_r, pm_cat_l, pm_obj, pm_arr, pm_opt, List.getElem?_cons_zero, List.getElem?_cons_succ, List.set_cons_zero, List.set_cons_succ, List.length_cons, List.length_nil, List.length_set, true_and, and_true, Nat.add_zero, Nat.zero_add, Nat.le_refl, Nat.reduceAdd, Nat.reduceLT, Nat.reduceLeDiff, Nat.zero_le, not_false_eq_true, not_true_eq_false, false_implies, implies_true, true_implies, Nat.zero_lt_succ, Nat.lt_add_one, pm_tl_v, List.cons_append, List.nil_append, pm_k5_c, pm_tl_n, pm_tl_s, i1, i2, i3, i4, i5, hus2, t3, hk]
      exact hT _ _ _ ⟨_, R3⟩ l3' ⟨_, f3⟩
theorem cs_free (X : CX p l s m b0 meth c D ct b g adV L xs) (hxo : xo ≤ 900) {us : Nat} (hus : us + 6 ≤ 7293033) {th i : Int32} {u5 u6 : Option Value} {h : pmH} (R : RZ th h) (hl : h.length = 125) (hf : LG h) (i1 : vp_in (i + 1) L) (i2 : vp_in (i + 2) L) (i3 : vp_in (i + 3) L) (i4 : vp_in (i + 4) L) (i5 : vp_in (i + 5) L)  (hT : ∀ (u5 u6 : Option Value) (h2 : pmH), (∃ th, RZ th h2) → h2.length = 125 → LG h2 → SE p l e s m b0 below meth c Qf D ct b g xo 1934 [some (.ref 1000001), some (.ref 0), some (.ref 113), some (.ref 124), some (.int i), u5, u6] [] h2 us) : SE p l e s m b0 below meth c Qf D ct b g xo 350 [some (.ref 1000001), some (.ref 0), some (.ref 113), some (.ref 124), some (.int i), u5, u6] [] h us := by
  obtain ⟨bs, ws, A, K, o, S, -⟩ := R
  have c0 := S.C.o
  have r0 := lw_ird hl L xs
  have hus2 : us ≤ 7293033 := by omega
  refine law_run X (by omega) lk_1 ?_
  show KL1 _ _ _ _ _ _ _ _ _
  simp only [g_350, g_351, pm_1i_c, pm_2i_c, pm_1l_c, pm_2l_c, pm_1a_c, pm_ia_c, pm_iia_c, pm_va_c, pm_cp_c, pm_k0_c, pm_k1_c, pm_k2_c, pm_k3_c, pm_s1_c, pm_s2_c, pm_s3_c, pm_s4_c, pm_ri_c, pm_ra_c, pm_rn_c, pm_rk_i, pm_rk_z, pm_rk_a, pm_vk_i, pm_vk_z, pm_vk_a, pm_cti, pm_ctr, pm_ldi_z, pm_ldi_s, pm_lda_z, pm_lda_s, pm_cat_n, pm_cat_i, pm_cat_r, pm_cat_l, pm_obj, pm_arr, pm_opt, List.getElem?_cons_zero, List.getElem?_cons_succ, List.set_cons_zero, List.set_cons_succ, List.length_cons, List.length_nil, List.length_set, true_and, and_true, Nat.add_zero, Nat.zero_add, Nat.le_refl, Nat.reduceAdd, Nat.reduceLT, Nat.reduceLeDiff, Nat.zero_le, not_false_eq_true, not_true_eq_false, false_implies, implies_true, true_implies, Nat.zero_lt_succ, Nat.lt_add_one, pm_tl_v, List.cons_append, List.nil_append, pm_k5_c, pm_tl_n, pm_tl_s, i1, i2, i3, i4, i5, hus2, c0, r0, hl]
  refine PM_use (pr_free S hl) ?_
  rintro v h1 l1 ⟨y, rfl, e1, ⟨fs, hm⟩, P⟩
  have l1' : h1.length = 125 := by omega
  have r1 := lw_ird l1' L xs
  show KL1 _ _ _ _ _ _ _ _ _
  simp only [g_354, g_355, pm_1i_c, pm_2i_c, pm_1l_c, pm_2l_c, pm_1a_c, pm_ia_c, pm_iia_c, pm_va_c, pm_cp_c, pm_k0_c, pm_k1_c, pm_k2_c, pm_k3_c, pm_s1_c, pm_s2_c, pm_s3_c, pm_s4_c, pm_ri_c, pm_ra_c, pm_rn_c, pm_rk_i, pm_rk_z, pm_rk_a, pm_vk_i, pm_vk_z, pm_vk_a, pm_cti, pm_ctr, pm_ldi_z, pm_ldi_s, pm_lda_z, pm_lda_s, pm_cat_n, pm_cat_i, pm_cat_r, pm_cat_l, pm_obj, pm_arr, pm_opt, List.getElem?_cons_zero, List.getElem?_cons_succ, List.set_cons_zero, List.set_cons_succ, List.length_cons, List.length_nil, List.length_set, true_and, and_true, Nat.add_zero, Nat.zero_add, Nat.le_refl, Nat.reduceAdd, Nat.reduceLT, Nat.reduceLeDiff, Nat.zero_le, not_false_eq_true, not_true_eq_false, false_implies, implies_true, true_implies, Nat.zero_lt_succ, Nat.lt_add_one, pm_tl_v, List.cons_append, List.nil_append, pm_k5_c, pm_tl_n, pm_tl_s, i1, i2, i3, i4, i5, hus2, hm, r1, l1']
  refine PM_use P ?_
  rintro w h2 l2 ⟨rfl, R2, e2⟩
  show KL1 _ _ _ _ _ _ _ _ _
  simp only [g_358, g_361, g_1934, pm_1i_c, pm_2i_c, pm_1l_c, pm_2l_c, pm_1a_c, pm_ia_c, pm_iia_c, pm_va_c, pm_cp_c, pm_k0_c, pm_k1_c, pm_k2_c, pm_k3_c, pm_s1_c, pm_s2_c, pm_s3_c, pm_s4_c, pm_ri_c, pm_ra_c, pm_rn_c, pm_rk_i, pm_rk_z, pm_rk_a, pm_vk_i, pm_vk_z, pm_vk_a, pm_cti, pm_ctr, pm_ldi_z, pm_ldi_s, pm_lda_z, pm_lda_s, pm_cat_n, pm_cat_i, pm_cat_r, pm_cat_l, pm_obj, pm_arr, pm_opt, List.getElem?_cons_zero, List.getElem?_cons_succ, List.set_cons_zero, List.set_cons_succ, List.length_cons, List.length_nil, List.length_set, true_and, and_true, Nat.add_zero, Nat.zero_add, Nat.le_refl, Nat.reduceAdd, Nat.reduceLT, Nat.reduceLeDiff, Nat.zero_le, not_false_eq_true, not_true_eq_false, false_implies, implies_true, true_implies, Nat.zero_lt_succ, Nat.lt_add_one, pm_tl_v, List.cons_append, List.nil_append, pm_k5_c, pm_tl_n, pm_tl_s, i1, i2, i3, i4, i5, hus2]
  exact hT _ _ h2 ⟨_, R2⟩ (by omega) (by obtain ⟨f, hf⟩ := hf; exact ⟨f, (e2.trans e1).trans hf⟩)
theorem ct_trace (X : CX p l s m b0 meth c D ct b g adV L xs) (hxo : xo ≤ 900) {us : Nat} (hus : us + 6 ≤ 7293033) {th i : Int32} {u5 u6 : Option Value} {h : pmH} (R : RZ th h) (hl : h.length = 125) (hf : LG h) (i1 : vp_in (i + 1) L) (i2 : vp_in (i + 2) L) (i3 : vp_in (i + 3) L) (i4 : vp_in (i + 4) L) (i5 : vp_in (i + 5) L)  (hT : ∀ (u5 u6 : Option Value) (h2 : pmH), (∃ th, RZ th h2) → h2.length = 125 → LG h2 → SE p l e s m b0 below meth c Qf D ct b g (xo + 1) 1934 [some (.ref 1000001), some (.ref 0), some (.ref 113), some (.ref 124), some (.int i), u5, u6] [] h2 (us + 6)) : SE p l e s m b0 below meth c Qf D ct b g xo 363 [some (.ref 1000001), some (.ref 0), some (.ref 113), some (.ref 124), some (.int i), u5, u6] [] h us := by
  obtain ⟨bs, ws, A, K, o, S, -⟩ := R
  have c0 := S.C.o
  have r0 := lw_ird hl L xs
  obtain ⟨f, hf⟩ := hf
  have hus2 : us ≤ 7293033 := by omega
  obtain ⟨Q, hW, hQ⟩ := tr_trace S hl 
  refine law_run X (by omega) lk_1 ?_
  show KL1 _ _ _ _ _ _ _ _ _
  simp only [g_363, g_364, g_365, pm_1i_c, pm_2i_c, pm_1l_c, pm_2l_c, pm_1a_c, pm_ia_c, pm_iia_c, pm_va_c, pm_cp_c, pm_k0_c, pm_k1_c, pm_k2_c, pm_k3_c, pm_s1_c, pm_s2_c, pm_s3_c, pm_s4_c, pm_ri_c, pm_ra_c, pm_rn_c, pm_rk_i, pm_rk_z, pm_rk_a, pm_vk_i, pm_vk_z, pm_vk_a, pm_cti, pm_ctr, pm_ldi_z, pm_ldi_s, pm_lda_z, pm_lda_s, pm_cat_n, pm_cat_i, pm_cat_r, pm_cat_l, pm_obj, pm_arr, pm_opt, List.getElem?_cons_zero, List.getElem?_cons_succ, List.set_cons_zero, List.set_cons_succ, List.length_cons, List.length_nil, List.length_set, true_and, and_true, Nat.add_zero, Nat.zero_add, Nat.le_refl, Nat.reduceAdd, Nat.reduceLT, Nat.reduceLeDiff, Nat.zero_le, not_false_eq_true, not_true_eq_false, false_implies, implies_true, true_implies, Nat.zero_lt_succ, Nat.lt_add_one, pm_tl_v, List.cons_append, List.nil_append, pm_k5_c, pm_tl_n, pm_tl_s, i1, i2, i3, i4, i5, hus2, c0, r0, hl]
  refine law_call X (idx := 113) (n := 2) (y := yL_trace) (cc := cL_trace) (maxL := 3) (hh := [(0, 8, 11, 13)]) (as := [.ref 0, .ref 124]) (by omega) hus hl (hp_trace (d := 458) (f := f) X.2.2.2.2.2.2.2.2.1 X.2.2.2.2.2.2.1 c0 (fun v h1 z => (hQ v h1 z).1.trans hf) (fun v h1 z => by
    rcases (hQ v h1 z).2.2 with ⟨y, hy, -⟩ | ⟨e, he, -⟩
    · exact Or.inl ⟨y, hy⟩
    · exact Or.inr ⟨e, he⟩) (fun e h1 z => by
    rcases (hQ _ h1 z).2.2 with ⟨y, hy, -⟩ | ⟨e9, he, hE, -⟩
    · cases hy
    · cases he
      exact hE) hW) (pm_w_in (j := 4220) (by decide +kernel)) (pm_w_in (j := 4218) (by decide +kernel)) (pm_w_in (j := 4219) (by decide +kernel)) (pm_w_in (j := 1000) (by decide +kernel)) (by decide +kernel) (by decide) rfl (by decide +kernel) ?_
  have hus2 : us + 6 ≤ 7293033 := hus
  intro v h1 l1 hp
  rcases hp with ⟨y, h9, hq, rfl, rfl⟩ | ⟨ev, he, hq, rfl⟩
  · rcases hQ _ _ hq with ⟨e1, ⟨fs, hm⟩, ⟨y', hy, P⟩ | ⟨e', hy, -⟩⟩
    · cases hy
      have l9 : h9.length = 125 := by rw [List.length_set] at l1; exact l1
      suffices key : ∀ h1 : pmH, h1 = h9.set 124 (.inl (3, 1, .inr (.inl (vp_updL f 0 y.toInt64)))) → SE p l e s m b0 below meth c Qf D ct b g (xo + 1) 368 [some (.ref 1000001), some (.ref 0), some (.ref 113), some (.ref 124), some (.int i), u5, u6] [.int 0] h1 (us + 6) from key _ rfl
      clear l1
      intro h1 hh1
      have f1 : ∀ i, i ≠ 124 → h1[i]? = h9[i]? := fun i hi => by rw [hh1]; exact List.getElem?_set_ne (fun z => hi z.symm)
      have f2 : h1[124]? = some (.inl (3, 1, .inr (.inl (vp_updL f 0 y.toInt64)))) := by rw [hh1]; exact List.getElem?_set_self (by omega)
      have l1 : h1.length = 125 := by rw [hh1, List.length_set]; exact l9
      clear hh1
      have r1 := lw_ird l1 L xs
      have hm1 := (f1 113 (by omega)).trans hm
      refine law_run X (by omega) lk_1 ?_
      show KL1 _ _ _ _ _ _ _ _ _
      simp only [g_368, g_370, g_371, pm_1i_c, pm_2i_c, pm_1l_c, pm_2l_c, pm_1a_c, pm_ia_c, pm_iia_c, pm_va_c, pm_cp_c, pm_k0_c, pm_k1_c, pm_k2_c, pm_k3_c, pm_s1_c, pm_s2_c, pm_s3_c, pm_s4_c, pm_ri_c, pm_ra_c, pm_rn_c, pm_rk_i, pm_rk_z, pm_rk_a, pm_vk_i, pm_vk_z, pm_vk_a, pm_cti, pm_ctr, pm_ldi_z, pm_ldi_s, pm_lda_z, pm_lda_s, pm_cat_n, pm_cat_i, pm_cat_r, pm_cat_l, pm_obj, pm_arr, pm_opt, List.getElem?_cons_zero, List.getElem?_cons_succ, List.set_cons_zero, List.set_cons_succ, List.length_cons, List.length_nil, List.length_set, true_and, and_true, Nat.add_zero, Nat.zero_add, Nat.le_refl, Nat.reduceAdd, Nat.reduceLT, Nat.reduceLeDiff, Nat.zero_le, not_false_eq_true, not_true_eq_false, false_implies, implies_true, true_implies, Nat.zero_lt_succ, Nat.lt_add_one, pm_tl_v, List.cons_append, List.nil_append, pm_k5_c, pm_tl_n, pm_tl_s, i1, i2, i3, i4, i5, hus2, hm1, r1, l1]
      refine PM_use (P h1 f1) ?_
      rintro w h3 l3 ⟨rfl, R3, e3⟩
      have l3' : h3.length = 125 := by omega
      obtain ⟨o3, m3, t3⟩ := R3.len
      have m3' := m3
      unfold mO at m3'
      have f3 := e3.trans f2
      show KL1 _ _ _ _ _ _ _ _ _
      simp only [g_374, g_376, g_377, pm_1i_c, pm_2i_c, pm_1l_c, pm_2l_c, pm_1a_c, pm_ia_c, pm_iia_c, pm_va_c, pm_cp_c, pm_k0_c, pm_k1_c, pm_k2_c, pm_k3_c, pm_s1_c, pm_s2_c, pm_s3_c, pm_s4_c, pm_ri_c, pm_ra_c, pm_rn_c, pm_rk_i, pm_rk_z, pm_rk_a, pm_vk_i, pm_vk_z, pm_vk_a, pm_cti, pm_ctr, pm_ldi_z, pm_ldi_s, pm_lda_z, pm_lda_s, pm_cat_n, pm_cat_i, pm_cat_r, pm_cat_l, pm_obj, pm_arr, pm_opt, List.getElem?_cons_zero, List.getElem?_cons_succ, List.set_cons_zero, List.set_cons_succ, List.length_cons, List.length_nil, List.length_set, true_and, and_true, Nat.add_zero, Nat.zero_add, Nat.le_refl, Nat.reduceAdd, Nat.reduceLT, Nat.reduceLeDiff, Nat.zero_le, not_false_eq_true, not_true_eq_false, false_implies, implies_true, true_implies, Nat.zero_lt_succ, Nat.lt_add_one, pm_tl_v, List.cons_append, List.nil_append, pm_k5_c, pm_tl_n, pm_tl_s, i1, i2, i3, i4, i5, hus2, m3', l3']
      refine PM_use (c_M_thrown m3 459) ?_
      rintro w9 h4 l4 ⟨rfl, rfl⟩
      show KL1 _ _ _ _ _ _ _ _ _
      simp only [g_380, g_382, g_385, g_387, g_389, g_392, g_393, g_394, g_395, g_397, g_398, g_399, g_402, g_404, g_1934, pm_1i_c, pm_2i_c, pm_1l_c, pm_2l_c, pm_1a_c, pm_ia_c, pm_iia_c, pm_va_c, pm_cp_c, pm_k0_c, pm_k1_c, pm_k2_c, pm_k3_c, pm_s1_c, pm_s2_c, pm_s3_c, pm_s4_c, pm_ri_c, pm_ra_c, pm_rn_c, pm_rk_i, pm_rk_z, pm_rk_a, pm_vk_i, pm_vk_z, pm_vk_a, pm_cti, pm_ctr, pm_ldi_z, pm_ldi_s, pm_lda_z, pm_lda_s, pm_cat_n, pm_cat_i, pm_cat_r, pm_cat_l, pm_obj, pm_arr, pm_opt, List.getElem?_cons_zero, List.getElem?_cons_succ, List.set_cons_zero, List.set_cons_succ, List.length_cons, List.length_nil, List.length_set, true_and, and_true, Nat.add_zero, Nat.zero_add, Nat.le_refl, Nat.reduceAdd, Nat.reduceLT, Nat.reduceLeDiff, Nat.zero_le, not_false_eq_true, not_true_eq_false, false_implies, implies_true, true_implies, Nat.zero_lt_succ, Nat.lt_add_one, pm_tl_v, List.cons_append, List.nil_append, pm_k5_c, pm_tl_n, pm_tl_s, i1, i2, i3, i4, i5, hus2, t3, f3, pm_arl, px_z0, px_in01, vp_updL_0, lg_cmp_s, eq_self]
      exact hT _ _ _ ⟨_, R3⟩ l3' ⟨_, f3⟩
    · cases hy
  · rcases hQ _ _ hq with ⟨e1, ⟨fs, hm⟩, ⟨y', hy, -⟩ | ⟨e', hy, hE, P⟩⟩
    · cases hy
    · cases hy
      have r1 := lw_ird l1 L xs
      have hk : ¬ (1 : Int32) = 0 := by decide
      refine law_run X (by omega) lk_1 ?_
      show KL1 _ _ _ _ _ _ _ _ _
      simp only [g_368, g_370, g_371, pm_1i_c, pm_2i_c, pm_1l_c, pm_2l_c, pm_1a_c, pm_ia_c, pm_iia_c, pm_va_c, pm_cp_c, pm_k0_c, pm_k1_c, pm_k2_c, pm_k3_c, pm_s1_c, pm_s2_c, pm_s3_c, pm_s4_c, pm_ri_c, pm_ra_c, pm_rn_c, pm_rk_i, pm_rk_z, pm_rk_a, pm_vk_i, pm_vk_z, pm_vk_a, pm_cti, pm_ctr, pm_ldi_z, pm_ldi_s, pm_lda_z, pm_lda_s, pm_cat_n, pm_cat_i, pm_cat_r, pm_cat_l, pm_obj, pm_arr, pm_opt, List.getElem?_cons_zero, List.getElem?_cons_succ, List.set_cons_zero, List.set_cons_succ, List.length_cons, List.length_nil, List.length_set, true_and, and_true, Nat.add_zero, Nat.zero_add, Nat.le_refl, Nat.reduceAdd, Nat.reduceLT, Nat.reduceLeDiff, Nat.zero_le, not_false_eq_true, not_true_eq_false, false_implies, implies_true, true_implies, Nat.zero_lt_succ, Nat.lt_add_one, pm_tl_v, List.cons_append, List.nil_append, pm_k5_c, pm_tl_n, pm_tl_s, i1, i2, i3, i4, i5, hus2, hm, r1, l1]
      refine PM_use P ?_
      rintro w h3 l3 ⟨⟨zz, rfl⟩, R3, e3⟩
      have l3' : h3.length = 125 := by omega
      obtain ⟨o3, m3, t3⟩ := R3.len
      have m3' := m3
      unfold mO at m3'
      have f3 := (e3.trans e1).trans hf
      show KL1 _ _ _ _ _ _ _ _ _
      simp only [g_374, g_376, g_377, pm_1i_c, pm_2i_c, pm_1l_c, pm_2l_c, pm_1a_c, pm_ia_c, pm_iia_c, pm_va_c, pm_cp_c, pm_k0_c, pm_k1_c, pm_k2_c, pm_k3_c, pm_s1_c, pm_s2_c, pm_s3_c, pm_s4_c, pm_ri_c, pm_ra_c, pm_rn_c, pm_rk_i, pm_rk_z, pm_rk_a, pm_vk_i, pm_vk_z, pm_vk_a, pm_cti, pm_ctr, pm_ldi_z, pm_ldi_s, pm_lda_z, pm_lda_s, pm_cat_n, pm_cat_i, pm_cat_r, pm_cat_l, pm_obj, pm_arr, pm_opt, List.getElem?_cons_zero, List.getElem?_cons_succ, List.set_cons_zero, List.set_cons_succ, List.length_cons, List.length_nil, List.length_set, true_and, and_true, Nat.add_zero, Nat.zero_add, Nat.le_refl, Nat.reduceAdd, Nat.reduceLT, Nat.reduceLeDiff, Nat.zero_le, not_false_eq_true, not_true_eq_false, false_implies, implies_true, true_implies, Nat.zero_lt_succ, Nat.lt_add_one, pm_tl_v, List.cons_append, List.nil_append, pm_k5_c, pm_tl_n, pm_tl_s, i1, i2, i3, i4, i5, hus2, m3', l3']
      refine PM_use (c_M_thrown m3 459) ?_
      rintro w9 h4 l4 ⟨rfl, rfl⟩
      show KL1 _ _ _ _ _ _ _ _ _
      simp only [g_380, g_382, g_385, g_387, g_389, g_392, g_393, g_394, g_395, g_397, g_398, g_399, g_402, g_404, g_1934, pm_1i_c, pm_2i_c, pm_1l_c, pm_2l_c, pm_1a_c, pm_ia_c, pm_iia_c, pm_va_c, pm_cp_c, pm_k0_c, pm_k1_c, pm_k2_c, pm_k3_c, pm_s1_c, pm_s2_c, pm_s3_c, pm_s4_c, pm_ri_c, pm_ra_c, pm_rn_c, pm_rk_i, pm_rk_z, pm_rk_a, pm_vk_i, pm_vk_z, pm_vk_a, pm_cti, pm_ctr, pm_ldi_z, pm_ldi_s, pm_lda_z, pm_lda_s, pm_cat_n, pm_cat_i, pm_cat_r, pm_cat_l, pm_obj, pm_arr, pm_opt, List.getElem?_cons_zero, List.getElem?_cons_succ, List.set_cons_zero, List.set_cons_succ, List.length_cons, List.length_nil, List.length_set, true_and, and_true, Nat.add_zero, Nat.zero_add, Nat.le_refl, Nat.reduceAdd, Nat.reduceLT, Nat.reduceLeDiff, Nat.zero_le, not_false_eq_true, not_true_eq_false, false_implies, implies_true, true_implies, Nat.zero_lt_succ, Nat.lt_add_one, pm_tl_v, List.cons_append, List.nil_append, pm_k5_c, pm_tl_n, pm_tl_s, i1, i2, i3, i4, i5, hus2, t3, hk]
      exact hT _ _ _ ⟨_, R3⟩ l3' ⟨_, f3⟩
theorem cs_fault (X : CX p l s m b0 meth c D ct b g adV L xs) (hxo : xo ≤ 900) {us : Nat} (hus : us + 6 ≤ 7293033) {th i : Int32} {u5 u6 : Option Value} {h : pmH} (R : RZ th h) (hl : h.length = 125) (hf : LG h) (i1 : vp_in (i + 1) L) (i2 : vp_in (i + 2) L) (i3 : vp_in (i + 3) L) (i4 : vp_in (i + 4) L) (i5 : vp_in (i + 5) L)  (hT : ∀ (u5 u6 : Option Value) (h2 : pmH), (∃ th, RZ th h2) → h2.length = 125 → LG h2 → SE p l e s m b0 below meth c Qf D ct b g xo 1934 [some (.ref 1000001), some (.ref 0), some (.ref 113), some (.ref 124), some (.int i), u5, u6] [] h2 us) : SE p l e s m b0 below meth c Qf D ct b g xo 407 [some (.ref 1000001), some (.ref 0), some (.ref 113), some (.ref 124), some (.int i), u5, u6] [] h us := by
  obtain ⟨bs, ws, A, K, o, S, -⟩ := R
  have c0 := S.C.o
  have r0 := lw_ird hl L xs
  have hus2 : us ≤ 7293033 := by omega
  refine law_run X (by omega) lk_1 ?_
  show KL1 _ _ _ _ _ _ _ _ _
  simp only [g_407, g_408, pm_1i_c, pm_2i_c, pm_1l_c, pm_2l_c, pm_1a_c, pm_ia_c, pm_iia_c, pm_va_c, pm_cp_c, pm_k0_c, pm_k1_c, pm_k2_c, pm_k3_c, pm_s1_c, pm_s2_c, pm_s3_c, pm_s4_c, pm_ri_c, pm_ra_c, pm_rn_c, pm_rk_i, pm_rk_z, pm_rk_a, pm_vk_i, pm_vk_z, pm_vk_a, pm_cti, pm_ctr, pm_ldi_z, pm_ldi_s, pm_lda_z, pm_lda_s, pm_cat_n, pm_cat_i, pm_cat_r, pm_cat_l, pm_obj, pm_arr, pm_opt, List.getElem?_cons_zero, List.getElem?_cons_succ, List.set_cons_zero, List.set_cons_succ, List.length_cons, List.length_nil, List.length_set, true_and, and_true, Nat.add_zero, Nat.zero_add, Nat.le_refl, Nat.reduceAdd, Nat.reduceLT, Nat.reduceLeDiff, Nat.zero_le, not_false_eq_true, not_true_eq_false, false_implies, implies_true, true_implies, Nat.zero_lt_succ, Nat.lt_add_one, pm_tl_v, List.cons_append, List.nil_append, pm_k5_c, pm_tl_n, pm_tl_s, i1, i2, i3, i4, i5, hus2, c0, r0, hl]
  refine PM_use (pr_fault S hl) ?_
  rintro v h1 l1 ⟨y, rfl, e1, ⟨fs, hm⟩, P⟩
  have l1' : h1.length = 125 := by omega
  have r1 := lw_ird l1' L xs
  show KL1 _ _ _ _ _ _ _ _ _
  simp only [g_411, g_412, pm_1i_c, pm_2i_c, pm_1l_c, pm_2l_c, pm_1a_c, pm_ia_c, pm_iia_c, pm_va_c, pm_cp_c, pm_k0_c, pm_k1_c, pm_k2_c, pm_k3_c, pm_s1_c, pm_s2_c, pm_s3_c, pm_s4_c, pm_ri_c, pm_ra_c, pm_rn_c, pm_rk_i, pm_rk_z, pm_rk_a, pm_vk_i, pm_vk_z, pm_vk_a, pm_cti, pm_ctr, pm_ldi_z, pm_ldi_s, pm_lda_z, pm_lda_s, pm_cat_n, pm_cat_i, pm_cat_r, pm_cat_l, pm_obj, pm_arr, pm_opt, List.getElem?_cons_zero, List.getElem?_cons_succ, List.set_cons_zero, List.set_cons_succ, List.length_cons, List.length_nil, List.length_set, true_and, and_true, Nat.add_zero, Nat.zero_add, Nat.le_refl, Nat.reduceAdd, Nat.reduceLT, Nat.reduceLeDiff, Nat.zero_le, not_false_eq_true, not_true_eq_false, false_implies, implies_true, true_implies, Nat.zero_lt_succ, Nat.lt_add_one, pm_tl_v, List.cons_append, List.nil_append, pm_k5_c, pm_tl_n, pm_tl_s, i1, i2, i3, i4, i5, hus2, hm, r1, l1']
  refine PM_use P ?_
  rintro w h2 l2 ⟨rfl, R2, e2⟩
  show KL1 _ _ _ _ _ _ _ _ _
  simp only [g_415, g_418, g_1934, pm_1i_c, pm_2i_c, pm_1l_c, pm_2l_c, pm_1a_c, pm_ia_c, pm_iia_c, pm_va_c, pm_cp_c, pm_k0_c, pm_k1_c, pm_k2_c, pm_k3_c, pm_s1_c, pm_s2_c, pm_s3_c, pm_s4_c, pm_ri_c, pm_ra_c, pm_rn_c, pm_rk_i, pm_rk_z, pm_rk_a, pm_vk_i, pm_vk_z, pm_vk_a, pm_cti, pm_ctr, pm_ldi_z, pm_ldi_s, pm_lda_z, pm_lda_s, pm_cat_n, pm_cat_i, pm_cat_r, pm_cat_l, pm_obj, pm_arr, pm_opt, List.getElem?_cons_zero, List.getElem?_cons_succ, List.set_cons_zero, List.set_cons_succ, List.length_cons, List.length_nil, List.length_set, true_and, and_true, Nat.add_zero, Nat.zero_add, Nat.le_refl, Nat.reduceAdd, Nat.reduceLT, Nat.reduceLeDiff, Nat.zero_le, not_false_eq_true, not_true_eq_false, false_implies, implies_true, true_implies, Nat.zero_lt_succ, Nat.lt_add_one, pm_tl_v, List.cons_append, List.nil_append, pm_k5_c, pm_tl_n, pm_tl_s, i1, i2, i3, i4, i5, hus2]
  exact hT _ _ h2 ⟨_, R2⟩ (by omega) (by obtain ⟨f, hf⟩ := hf; exact ⟨f, (e2.trans e1).trans hf⟩)
theorem ct_ask (X : CX p l s m b0 meth c D ct b g adV L xs) (hxo : xo ≤ 900) {us : Nat} (hus : us + 6 ≤ 7293033) {th i : Int32} {u5 u6 : Option Value} {h : pmH} (R : RZ th h) (hl : h.length = 125) (hf : LG h) (i1 : vp_in (i + 1) L) (i2 : vp_in (i + 2) L) (i3 : vp_in (i + 3) L) (i4 : vp_in (i + 4) L) (i5 : vp_in (i + 5) L)  (hT : ∀ (u5 u6 : Option Value) (h2 : pmH), (∃ th, RZ th h2) → h2.length = 125 → LG h2 → SE p l e s m b0 below meth c Qf D ct b g (xo + 1) 1934 [some (.ref 1000001), some (.ref 0), some (.ref 113), some (.ref 124), some (.int i), u5, u6] [] h2 (us + 6)) : SE p l e s m b0 below meth c Qf D ct b g xo 420 [some (.ref 1000001), some (.ref 0), some (.ref 113), some (.ref 124), some (.int i), u5, u6] [] h us := by
  obtain ⟨bs, ws, A, K, o, S, -⟩ := R
  have c0 := S.C.o
  have r0 := lw_ird hl L xs
  obtain ⟨f, hf⟩ := hf
  have hus2 : us ≤ 7293033 := by omega
  obtain ⟨Q, hW, hQ⟩ := tr_ask S hl (xs ((i + 1).toNatClampNeg))
  refine law_run X (by omega) lk_1 ?_
  show KL1 _ _ _ _ _ _ _ _ _
  simp only [g_420, g_421, g_422, g_424, g_425, g_426, g_427, g_428, pm_1i_c, pm_2i_c, pm_1l_c, pm_2l_c, pm_1a_c, pm_ia_c, pm_iia_c, pm_va_c, pm_cp_c, pm_k0_c, pm_k1_c, pm_k2_c, pm_k3_c, pm_s1_c, pm_s2_c, pm_s3_c, pm_s4_c, pm_ri_c, pm_ra_c, pm_rn_c, pm_rk_i, pm_rk_z, pm_rk_a, pm_vk_i, pm_vk_z, pm_vk_a, pm_cti, pm_ctr, pm_ldi_z, pm_ldi_s, pm_lda_z, pm_lda_s, pm_cat_n, pm_cat_i, pm_cat_r, pm_cat_l, pm_obj, pm_arr, pm_opt, List.getElem?_cons_zero, List.getElem?_cons_succ, List.set_cons_zero, List.set_cons_succ, List.length_cons, List.length_nil, List.length_set, true_and, and_true, Nat.add_zero, Nat.zero_add, Nat.le_refl, Nat.reduceAdd, Nat.reduceLT, Nat.reduceLeDiff, Nat.zero_le, not_false_eq_true, not_true_eq_false, false_implies, implies_true, true_implies, Nat.zero_lt_succ, Nat.lt_add_one, pm_tl_v, List.cons_append, List.nil_append, pm_k5_c, pm_tl_n, pm_tl_s, i1, i2, i3, i4, i5, hus2, c0, r0, hl]
  refine law_call X (idx := 120) (n := 3) (y := yL_ask) (cc := cL_ask) (maxL := 4) (hh := [(0, 9, 12, 13)]) (as := [.ref 0, .int (xs ((i + 1).toNatClampNeg)), .ref 124]) (by omega) hus hl (hp_ask (d := 458) (f := f) X.2.2.2.2.2.2.2.2.1 X.2.2.2.2.2.2.1 c0 (fun v h1 z => (hQ v h1 z).1.trans hf) (fun v h1 z => by
    rcases (hQ v h1 z).2.2 with ⟨y, hy, -⟩ | ⟨e, he, -⟩
    · exact Or.inl ⟨y, hy⟩
    · exact Or.inr ⟨e, he⟩) (fun e h1 z => by
    rcases (hQ _ h1 z).2.2 with ⟨y, hy, -⟩ | ⟨e9, he, hE, -⟩
    · cases hy
    · cases he
      exact hE) hW) (pm_w_in (j := 5032) (by decide +kernel)) (pm_w_in (j := 5030) (by decide +kernel)) (pm_w_in (j := 5031) (by decide +kernel)) (pm_w_in (j := 1000) (by decide +kernel)) (by decide +kernel) (by decide) rfl (by decide +kernel) ?_
  have hus2 : us + 6 ≤ 7293033 := hus
  intro v h1 l1 hp
  rcases hp with ⟨y, h9, hq, rfl, rfl⟩ | ⟨ev, he, hq, rfl⟩
  · rcases hQ _ _ hq with ⟨e1, ⟨fs, hm⟩, ⟨y', hy, P⟩ | ⟨e', hy, -⟩⟩
    · cases hy
      have l9 : h9.length = 125 := by rw [List.length_set] at l1; exact l1
      suffices key : ∀ h1 : pmH, h1 = h9.set 124 (.inl (3, 1, .inr (.inl (vp_updL f 0 y.toInt64)))) → SE p l e s m b0 below meth c Qf D ct b g (xo + 1) 431 [some (.ref 1000001), some (.ref 0), some (.ref 113), some (.ref 124), some (.int i), u5, u6] [.int 0] h1 (us + 6) from key _ rfl
      clear l1
      intro h1 hh1
      have f1 : ∀ i, i ≠ 124 → h1[i]? = h9[i]? := fun i hi => by rw [hh1]; exact List.getElem?_set_ne (fun z => hi z.symm)
      have f2 : h1[124]? = some (.inl (3, 1, .inr (.inl (vp_updL f 0 y.toInt64)))) := by rw [hh1]; exact List.getElem?_set_self (by omega)
      have l1 : h1.length = 125 := by rw [hh1, List.length_set]; exact l9
      clear hh1
      have r1 := lw_ird l1 L xs
      have hm1 := (f1 113 (by omega)).trans hm
      refine law_run X (by omega) lk_1 ?_
      show KL1 _ _ _ _ _ _ _ _ _
      simp only [g_431, g_433, g_434, g_435, g_437, g_438, g_439, g_440, pm_1i_c, pm_2i_c, pm_1l_c, pm_2l_c, pm_1a_c, pm_ia_c, pm_iia_c, pm_va_c, pm_cp_c, pm_k0_c, pm_k1_c, pm_k2_c, pm_k3_c, pm_s1_c, pm_s2_c, pm_s3_c, pm_s4_c, pm_ri_c, pm_ra_c, pm_rn_c, pm_rk_i, pm_rk_z, pm_rk_a, pm_vk_i, pm_vk_z, pm_vk_a, pm_cti, pm_ctr, pm_ldi_z, pm_ldi_s, pm_lda_z, pm_lda_s, pm_cat_n, pm_cat_i, pm_cat_r, pm_cat_l, pm_obj, pm_arr, pm_opt, List.getElem?_cons_zero, List.getElem?_cons_succ, List.set_cons_zero, List.set_cons_succ, List.length_cons, List.length_nil, List.length_set, true_and, and_true, Nat.add_zero, Nat.zero_add, Nat.le_refl, Nat.reduceAdd, Nat.reduceLT, Nat.reduceLeDiff, Nat.zero_le, not_false_eq_true, not_true_eq_false, false_implies, implies_true, true_implies, Nat.zero_lt_succ, Nat.lt_add_one, pm_tl_v, List.cons_append, List.nil_append, pm_k5_c, pm_tl_n, pm_tl_s, i1, i2, i3, i4, i5, hus2, hm1, r1, l1]
      refine PM_use (P h1 f1) ?_
      rintro w h3 l3 ⟨rfl, R3, e3⟩
      have l3' : h3.length = 125 := by omega
      obtain ⟨o3, m3, t3⟩ := R3.len
      have m3' := m3
      unfold mO at m3'
      have f3 := e3.trans f2
      show KL1 _ _ _ _ _ _ _ _ _
      simp only [g_443, g_445, g_446, pm_1i_c, pm_2i_c, pm_1l_c, pm_2l_c, pm_1a_c, pm_ia_c, pm_iia_c, pm_va_c, pm_cp_c, pm_k0_c, pm_k1_c, pm_k2_c, pm_k3_c, pm_s1_c, pm_s2_c, pm_s3_c, pm_s4_c, pm_ri_c, pm_ra_c, pm_rn_c, pm_rk_i, pm_rk_z, pm_rk_a, pm_vk_i, pm_vk_z, pm_vk_a, pm_cti, pm_ctr, pm_ldi_z, pm_ldi_s, pm_lda_z, pm_lda_s, pm_cat_n, pm_cat_i, pm_cat_r, pm_cat_l, pm_obj, pm_arr, pm_opt, List.getElem?_cons_zero, List.getElem?_cons_succ, List.set_cons_zero, List.set_cons_succ, List.length_cons, List.length_nil, List.length_set, true_and, and_true, Nat.add_zero, Nat.zero_add, Nat.le_refl, Nat.reduceAdd, Nat.reduceLT, Nat.reduceLeDiff, Nat.zero_le, not_false_eq_true, not_true_eq_false, false_implies, implies_true, true_implies, Nat.zero_lt_succ, Nat.lt_add_one, pm_tl_v, List.cons_append, List.nil_append, pm_k5_c, pm_tl_n, pm_tl_s, i1, i2, i3, i4, i5, hus2, m3', l3']
      refine PM_use (c_M_thrown m3 459) ?_
      rintro w9 h4 l4 ⟨rfl, rfl⟩
      show KL1 _ _ _ _ _ _ _ _ _
      simp only [g_449, g_451, g_454, g_456, g_458, g_461, g_462, g_463, g_464, g_466, g_467, g_468, g_471, g_473, g_1934, pm_1i_c, pm_2i_c, pm_1l_c, pm_2l_c, pm_1a_c, pm_ia_c, pm_iia_c, pm_va_c, pm_cp_c, pm_k0_c, pm_k1_c, pm_k2_c, pm_k3_c, pm_s1_c, pm_s2_c, pm_s3_c, pm_s4_c, pm_ri_c, pm_ra_c, pm_rn_c, pm_rk_i, pm_rk_z, pm_rk_a, pm_vk_i, pm_vk_z, pm_vk_a, pm_cti, pm_ctr, pm_ldi_z, pm_ldi_s, pm_lda_z, pm_lda_s, pm_cat_n, pm_cat_i, pm_cat_r, pm_cat_l, pm_obj, pm_arr, pm_opt, List.getElem?_cons_zero, List.getElem?_cons_succ, List.set_cons_zero, List.set_cons_succ, List.length_cons, List.length_nil, List.length_set, true_and, and_true, Nat.add_zero, Nat.zero_add, Nat.le_refl, Nat.reduceAdd, Nat.reduceLT, Nat.reduceLeDiff, Nat.zero_le, not_false_eq_true, not_true_eq_false, false_implies, implies_true, true_implies, Nat.zero_lt_succ, Nat.lt_add_one, pm_tl_v, List.cons_append, List.nil_append, pm_k5_c, pm_tl_n, pm_tl_s, i1, i2, i3, i4, i5, hus2, t3, f3, pm_arl, px_z0, px_in01, vp_updL_0, lg_cmp_s, eq_self]
      exact hT _ _ _ ⟨_, R3⟩ l3' ⟨_, f3⟩
    · cases hy
  · rcases hQ _ _ hq with ⟨e1, ⟨fs, hm⟩, ⟨y', hy, -⟩ | ⟨e', hy, hE, P⟩⟩
    · cases hy
    · cases hy
      have r1 := lw_ird l1 L xs
      have hk : ¬ (1 : Int32) = 0 := by decide
      refine law_run X (by omega) lk_1 ?_
      show KL1 _ _ _ _ _ _ _ _ _
      simp only [g_431, g_433, g_434, g_435, g_437, g_438, g_439, g_440, pm_1i_c, pm_2i_c, pm_1l_c, pm_2l_c, pm_1a_c, pm_ia_c, pm_iia_c, pm_va_c, pm_cp_c, pm_k0_c, pm_k1_c, pm_k2_c, pm_k3_c, pm_s1_c, pm_s2_c, pm_s3_c, pm_s4_c, pm_ri_c, pm_ra_c, pm_rn_c, pm_rk_i, pm_rk_z, pm_rk_a, pm_vk_i, pm_vk_z, pm_vk_a, pm_cti, pm_ctr, pm_ldi_z, pm_ldi_s, pm_lda_z, pm_lda_s, pm_cat_n, pm_cat_i, pm_cat_r, pm_cat_l, pm_obj, pm_arr, pm_opt, List.getElem?_cons_zero, List.getElem?_cons_succ, List.set_cons_zero, List.set_cons_succ, List.length_cons, List.length_nil, List.length_set, true_and, and_true, Nat.add_zero, Nat.zero_add, Nat.le_refl, Nat.reduceAdd, Nat.reduceLT, Nat.reduceLeDiff, Nat.zero_le, not_false_eq_true, not_true_eq_false, false_implies, implies_true, true_implies, Nat.zero_lt_succ, Nat.lt_add_one, pm_tl_v, List.cons_append, List.nil_append, pm_k5_c, pm_tl_n, pm_tl_s, i1, i2, i3, i4, i5, hus2, hm, r1, l1]
      refine PM_use P ?_
      rintro w h3 l3 ⟨⟨zz, rfl⟩, R3, e3⟩
      have l3' : h3.length = 125 := by omega
      obtain ⟨o3, m3, t3⟩ := R3.len
      have m3' := m3
      unfold mO at m3'
      have f3 := (e3.trans e1).trans hf
      show KL1 _ _ _ _ _ _ _ _ _
      simp only [g_443, g_445, g_446, pm_1i_c, pm_2i_c, pm_1l_c, pm_2l_c, pm_1a_c, pm_ia_c, pm_iia_c, pm_va_c, pm_cp_c, pm_k0_c, pm_k1_c, pm_k2_c, pm_k3_c, pm_s1_c, pm_s2_c, pm_s3_c, pm_s4_c, pm_ri_c, pm_ra_c, pm_rn_c, pm_rk_i, pm_rk_z, pm_rk_a, pm_vk_i, pm_vk_z, pm_vk_a, pm_cti, pm_ctr, pm_ldi_z, pm_ldi_s, pm_lda_z, pm_lda_s, pm_cat_n, pm_cat_i, pm_cat_r, pm_cat_l, pm_obj, pm_arr, pm_opt, List.getElem?_cons_zero, List.getElem?_cons_succ, List.set_cons_zero, List.set_cons_succ, List.length_cons, List.length_nil, List.length_set, true_and, and_true, Nat.add_zero, Nat.zero_add, Nat.le_refl, Nat.reduceAdd, Nat.reduceLT, Nat.reduceLeDiff, Nat.zero_le, not_false_eq_true, not_true_eq_false, false_implies, implies_true, true_implies, Nat.zero_lt_succ, Nat.lt_add_one, pm_tl_v, List.cons_append, List.nil_append, pm_k5_c, pm_tl_n, pm_tl_s, i1, i2, i3, i4, i5, hus2, m3', l3']
      refine PM_use (c_M_thrown m3 459) ?_
      rintro w9 h4 l4 ⟨rfl, rfl⟩
      show KL1 _ _ _ _ _ _ _ _ _
      simp only [g_449, g_451, g_454, g_456, g_458, g_461, g_462, g_463, g_464, g_466, g_467, g_468, g_471, g_473, g_1934, pm_1i_c, pm_2i_c, pm_1l_c, pm_2l_c, pm_1a_c, pm_ia_c, pm_iia_c, pm_va_c, pm_cp_c, pm_k0_c, pm_k1_c, pm_k2_c, pm_k3_c, pm_s1_c, pm_s2_c, pm_s3_c, pm_s4_c, pm_ri_c, pm_ra_c, pm_rn_c, pm_rk_i, pm_rk_z, pm_rk_a, pm_vk_i, pm_vk_z, pm_vk_a, pm_cti, pm_ctr, pm_ldi_z, pm_ldi_s, pm_lda_z, pm_lda_s, pm_cat_n, pm_cat_i, pm_cat_r, pm_cat_l, pm_obj, pm_arr, pm_opt, List.getElem?_cons_zero, List.getElem?_cons_succ, List.set_cons_zero, List.set_cons_succ, List.length_cons, List.length_nil, List.length_set, true_and, and_true, Nat.add_zero, Nat.zero_add, Nat.le_refl, Nat.reduceAdd, Nat.reduceLT, Nat.reduceLeDiff, Nat.zero_le, not_false_eq_true, not_true_eq_false, false_implies, implies_true, true_implies, Nat.zero_lt_succ, Nat.lt_add_one, pm_tl_v, List.cons_append, List.nil_append, pm_k5_c, pm_tl_n, pm_tl_s, i1, i2, i3, i4, i5, hus2, t3, hk]
      exact hT _ _ _ ⟨_, R3⟩ l3' ⟨_, f3⟩
theorem ct_where (X : CX p l s m b0 meth c D ct b g adV L xs) (hxo : xo ≤ 900) {us : Nat} (hus : us + 6 ≤ 7293033) {th i : Int32} {u5 u6 : Option Value} {h : pmH} (R : RZ th h) (hl : h.length = 125) (hf : LG h) (i1 : vp_in (i + 1) L) (i2 : vp_in (i + 2) L) (i3 : vp_in (i + 3) L) (i4 : vp_in (i + 4) L) (i5 : vp_in (i + 5) L)  (hT : ∀ (u5 u6 : Option Value) (h2 : pmH), (∃ th, RZ th h2) → h2.length = 125 → LG h2 → SE p l e s m b0 below meth c Qf D ct b g (xo + 1) 1934 [some (.ref 1000001), some (.ref 0), some (.ref 113), some (.ref 124), some (.int i), u5, u6] [] h2 (us + 6)) : SE p l e s m b0 below meth c Qf D ct b g xo 476 [some (.ref 1000001), some (.ref 0), some (.ref 113), some (.ref 124), some (.int i), u5, u6] [] h us := by
  obtain ⟨bs, ws, A, K, o, S, -⟩ := R
  have c0 := S.C.o
  have r0 := lw_ird hl L xs
  obtain ⟨f, hf⟩ := hf
  have hus2 : us ≤ 7293033 := by omega
  obtain ⟨Q, hW, hQ⟩ := tr_where S hl (xs ((i + 1).toNatClampNeg))
  refine law_run X (by omega) lk_1 ?_
  show KL1 _ _ _ _ _ _ _ _ _
  simp only [g_476, g_477, g_478, g_480, g_481, g_482, g_483, g_484, pm_1i_c, pm_2i_c, pm_1l_c, pm_2l_c, pm_1a_c, pm_ia_c, pm_iia_c, pm_va_c, pm_cp_c, pm_k0_c, pm_k1_c, pm_k2_c, pm_k3_c, pm_s1_c, pm_s2_c, pm_s3_c, pm_s4_c, pm_ri_c, pm_ra_c, pm_rn_c, pm_rk_i, pm_rk_z, pm_rk_a, pm_vk_i, pm_vk_z, pm_vk_a, pm_cti, pm_ctr, pm_ldi_z, pm_ldi_s, pm_lda_z, pm_lda_s, pm_cat_n, pm_cat_i, pm_cat_r, pm_cat_l, pm_obj, pm_arr, pm_opt, List.getElem?_cons_zero, List.getElem?_cons_succ, List.set_cons_zero, List.set_cons_succ, List.length_cons, List.length_nil, List.length_set, true_and, and_true, Nat.add_zero, Nat.zero_add, Nat.le_refl, Nat.reduceAdd, Nat.reduceLT, Nat.reduceLeDiff, Nat.zero_le, not_false_eq_true, not_true_eq_false, false_implies, implies_true, true_implies, Nat.zero_lt_succ, Nat.lt_add_one, pm_tl_v, List.cons_append, List.nil_append, pm_k5_c, pm_tl_n, pm_tl_s, i1, i2, i3, i4, i5, hus2, c0, r0, hl]
  refine law_call X (idx := 124) (n := 3) (y := yL_where) (cc := cL_where) (maxL := 4) (hh := [(0, 9, 12, 13)]) (as := [.ref 0, .int (xs ((i + 1).toNatClampNeg)), .ref 124]) (by omega) hus hl (hp_where (d := 458) (f := f) X.2.2.2.2.2.2.2.2.1 X.2.2.2.2.2.2.1 c0 (fun v h1 z => (hQ v h1 z).1.trans hf) (fun v h1 z => by
    rcases (hQ v h1 z).2.2 with ⟨y, hy, -⟩ | ⟨e, he, -⟩
    · exact Or.inl ⟨y, hy⟩
    · exact Or.inr ⟨e, he⟩) (fun e h1 z => by
    rcases (hQ _ h1 z).2.2 with ⟨y, hy, -⟩ | ⟨e9, he, hE, -⟩
    · cases hy
    · cases he
      exact hE) hW) (pm_w_in (j := 5044) (by decide +kernel)) (pm_w_in (j := 5042) (by decide +kernel)) (pm_w_in (j := 5043) (by decide +kernel)) (pm_w_in (j := 1000) (by decide +kernel)) (by decide +kernel) (by decide) rfl (by decide +kernel) ?_
  have hus2 : us + 6 ≤ 7293033 := hus
  intro v h1 l1 hp
  rcases hp with ⟨y, h9, hq, rfl, rfl⟩ | ⟨ev, he, hq, rfl⟩
  · rcases hQ _ _ hq with ⟨e1, ⟨fs, hm⟩, ⟨y', hy, P⟩ | ⟨e', hy, -⟩⟩
    · cases hy
      have l9 : h9.length = 125 := by rw [List.length_set] at l1; exact l1
      suffices key : ∀ h1 : pmH, h1 = h9.set 124 (.inl (3, 1, .inr (.inl (vp_updL f 0 y.toInt64)))) → SE p l e s m b0 below meth c Qf D ct b g (xo + 1) 487 [some (.ref 1000001), some (.ref 0), some (.ref 113), some (.ref 124), some (.int i), u5, u6] [.int 0] h1 (us + 6) from key _ rfl
      clear l1
      intro h1 hh1
      have f1 : ∀ i, i ≠ 124 → h1[i]? = h9[i]? := fun i hi => by rw [hh1]; exact List.getElem?_set_ne (fun z => hi z.symm)
      have f2 : h1[124]? = some (.inl (3, 1, .inr (.inl (vp_updL f 0 y.toInt64)))) := by rw [hh1]; exact List.getElem?_set_self (by omega)
      have l1 : h1.length = 125 := by rw [hh1, List.length_set]; exact l9
      clear hh1
      have r1 := lw_ird l1 L xs
      have hm1 := (f1 113 (by omega)).trans hm
      refine law_run X (by omega) lk_1 ?_
      show KL1 _ _ _ _ _ _ _ _ _
      simp only [g_487, g_489, g_490, g_491, g_493, g_494, g_495, g_496, pm_1i_c, pm_2i_c, pm_1l_c, pm_2l_c, pm_1a_c, pm_ia_c, pm_iia_c, pm_va_c, pm_cp_c, pm_k0_c, pm_k1_c, pm_k2_c, pm_k3_c, pm_s1_c, pm_s2_c, pm_s3_c, pm_s4_c, pm_ri_c, pm_ra_c, pm_rn_c, pm_rk_i, pm_rk_z, pm_rk_a, pm_vk_i, pm_vk_z, pm_vk_a, pm_cti, pm_ctr, pm_ldi_z, pm_ldi_s, pm_lda_z, pm_lda_s, pm_cat_n, pm_cat_i, pm_cat_r, pm_cat_l, pm_obj, pm_arr, pm_opt, List.getElem?_cons_zero, List.getElem?_cons_succ, List.set_cons_zero, List.set_cons_succ, List.length_cons, List.length_nil, List.length_set, true_and, and_true, Nat.add_zero, Nat.zero_add, Nat.le_refl, Nat.reduceAdd, Nat.reduceLT, Nat.reduceLeDiff, Nat.zero_le, not_false_eq_true, not_true_eq_false, false_implies, implies_true, true_implies, Nat.zero_lt_succ, Nat.lt_add_one, pm_tl_v, List.cons_append, List.nil_append, pm_k5_c, pm_tl_n, pm_tl_s, i1, i2, i3, i4, i5, hus2, hm1, r1, l1]
      refine PM_use (P h1 f1) ?_
      rintro w h3 l3 ⟨rfl, R3, e3⟩
      have l3' : h3.length = 125 := by omega
      obtain ⟨o3, m3, t3⟩ := R3.len
      have m3' := m3
      unfold mO at m3'
      have f3 := e3.trans f2
      show KL1 _ _ _ _ _ _ _ _ _
      simp only [g_499, g_501, g_502, pm_1i_c, pm_2i_c, pm_1l_c, pm_2l_c, pm_1a_c, pm_ia_c, pm_iia_c, pm_va_c, pm_cp_c, pm_k0_c, pm_k1_c, pm_k2_c, pm_k3_c, pm_s1_c, pm_s2_c, pm_s3_c, pm_s4_c, pm_ri_c, pm_ra_c, pm_rn_c, pm_rk_i, pm_rk_z, pm_rk_a, pm_vk_i, pm_vk_z, pm_vk_a, pm_cti, pm_ctr, pm_ldi_z, pm_ldi_s, pm_lda_z, pm_lda_s, pm_cat_n, pm_cat_i, pm_cat_r, pm_cat_l, pm_obj, pm_arr, pm_opt, List.getElem?_cons_zero, List.getElem?_cons_succ, List.set_cons_zero, List.set_cons_succ, List.length_cons, List.length_nil, List.length_set, true_and, and_true, Nat.add_zero, Nat.zero_add, Nat.le_refl, Nat.reduceAdd, Nat.reduceLT, Nat.reduceLeDiff, Nat.zero_le, not_false_eq_true, not_true_eq_false, false_implies, implies_true, true_implies, Nat.zero_lt_succ, Nat.lt_add_one, pm_tl_v, List.cons_append, List.nil_append, pm_k5_c, pm_tl_n, pm_tl_s, i1, i2, i3, i4, i5, hus2, m3', l3']
      refine PM_use (c_M_thrown m3 459) ?_
      rintro w9 h4 l4 ⟨rfl, rfl⟩
      show KL1 _ _ _ _ _ _ _ _ _
      simp only [g_505, g_507, g_510, g_512, g_514, g_517, g_518, g_519, g_520, g_522, g_523, g_524, g_527, g_529, g_1934, pm_1i_c, pm_2i_c, pm_1l_c, pm_2l_c, pm_1a_c, pm_ia_c, pm_iia_c, pm_va_c, pm_cp_c, pm_k0_c, pm_k1_c, pm_k2_c, pm_k3_c, pm_s1_c, pm_s2_c, pm_s3_c, pm_s4_c, pm_ri_c, pm_ra_c, pm_rn_c, pm_rk_i, pm_rk_z, pm_rk_a, pm_vk_i, pm_vk_z, pm_vk_a, pm_cti, pm_ctr, pm_ldi_z, pm_ldi_s, pm_lda_z, pm_lda_s, pm_cat_n, pm_cat_i, pm_cat_r, pm_cat_l, pm_obj, pm_arr, pm_opt, List.getElem?_cons_zero, List.getElem?_cons_succ, List.set_cons_zero, List.set_cons_succ, List.length_cons, List.length_nil, List.length_set, true_and, and_true, Nat.add_zero, Nat.zero_add, Nat.le_refl, Nat.reduceAdd, Nat.reduceLT, Nat.reduceLeDiff, Nat.zero_le, not_false_eq_true, not_true_eq_false, false_implies, implies_true, true_implies, Nat.zero_lt_succ, Nat.lt_add_one, pm_tl_v, List.cons_append, List.nil_append, pm_k5_c, pm_tl_n, pm_tl_s, i1, i2, i3, i4, i5, hus2, t3, f3, pm_arl, px_z0, px_in01, vp_updL_0, lg_cmp_s, eq_self]
      exact hT _ _ _ ⟨_, R3⟩ l3' ⟨_, f3⟩
    · cases hy
  · rcases hQ _ _ hq with ⟨e1, ⟨fs, hm⟩, ⟨y', hy, -⟩ | ⟨e', hy, hE, P⟩⟩
    · cases hy
    · cases hy
      have r1 := lw_ird l1 L xs
      have hk : ¬ (1 : Int32) = 0 := by decide
      refine law_run X (by omega) lk_1 ?_
      show KL1 _ _ _ _ _ _ _ _ _
      simp only [g_487, g_489, g_490, g_491, g_493, g_494, g_495, g_496, pm_1i_c, pm_2i_c, pm_1l_c, pm_2l_c, pm_1a_c, pm_ia_c, pm_iia_c, pm_va_c, pm_cp_c, pm_k0_c, pm_k1_c, pm_k2_c, pm_k3_c, pm_s1_c, pm_s2_c, pm_s3_c, pm_s4_c, pm_ri_c, pm_ra_c, pm_rn_c, pm_rk_i, pm_rk_z, pm_rk_a, pm_vk_i, pm_vk_z, pm_vk_a, pm_cti, pm_ctr, pm_ldi_z, pm_ldi_s, pm_lda_z, pm_lda_s, pm_cat_n, pm_cat_i, pm_cat_r, pm_cat_l, pm_obj, pm_arr, pm_opt, List.getElem?_cons_zero, List.getElem?_cons_succ, List.set_cons_zero, List.set_cons_succ, List.length_cons, List.length_nil, List.length_set, true_and, and_true, Nat.add_zero, Nat.zero_add, Nat.le_refl, Nat.reduceAdd, Nat.reduceLT, Nat.reduceLeDiff, Nat.zero_le, not_false_eq_true, not_true_eq_false, false_implies, implies_true, true_implies, Nat.zero_lt_succ, Nat.lt_add_one, pm_tl_v, List.cons_append, List.nil_append, pm_k5_c, pm_tl_n, pm_tl_s, i1, i2, i3, i4, i5, hus2, hm, r1, l1]
      refine PM_use P ?_
      rintro w h3 l3 ⟨⟨zz, rfl⟩, R3, e3⟩
      have l3' : h3.length = 125 := by omega
      obtain ⟨o3, m3, t3⟩ := R3.len
      have m3' := m3
      unfold mO at m3'
      have f3 := (e3.trans e1).trans hf
      show KL1 _ _ _ _ _ _ _ _ _
      simp only [g_499, g_501, g_502, pm_1i_c, pm_2i_c, pm_1l_c, pm_2l_c, pm_1a_c, pm_ia_c, pm_iia_c, pm_va_c, pm_cp_c, pm_k0_c, pm_k1_c, pm_k2_c, pm_k3_c, pm_s1_c, pm_s2_c, pm_s3_c, pm_s4_c, pm_ri_c, pm_ra_c, pm_rn_c, pm_rk_i, pm_rk_z, pm_rk_a, pm_vk_i, pm_vk_z, pm_vk_a, pm_cti, pm_ctr, pm_ldi_z, pm_ldi_s, pm_lda_z, pm_lda_s, pm_cat_n, pm_cat_i, pm_cat_r, pm_cat_l, pm_obj, pm_arr, pm_opt, List.getElem?_cons_zero, List.getElem?_cons_succ, List.set_cons_zero, List.set_cons_succ, List.length_cons, List.length_nil, List.length_set, true_and, and_true, Nat.add_zero, Nat.zero_add, Nat.le_refl, Nat.reduceAdd, Nat.reduceLT, Nat.reduceLeDiff, Nat.zero_le, not_false_eq_true, not_true_eq_false, false_implies, implies_true, true_implies, Nat.zero_lt_succ, Nat.lt_add_one, pm_tl_v, List.cons_append, List.nil_append, pm_k5_c, pm_tl_n, pm_tl_s, i1, i2, i3, i4, i5, hus2, m3', l3']
      refine PM_use (c_M_thrown m3 459) ?_
      rintro w9 h4 l4 ⟨rfl, rfl⟩
      show KL1 _ _ _ _ _ _ _ _ _
      simp only [g_505, g_507, g_510, g_512, g_514, g_517, g_518, g_519, g_520, g_522, g_523, g_524, g_527, g_529, g_1934, pm_1i_c, pm_2i_c, pm_1l_c, pm_2l_c, pm_1a_c, pm_ia_c, pm_iia_c, pm_va_c, pm_cp_c, pm_k0_c, pm_k1_c, pm_k2_c, pm_k3_c, pm_s1_c, pm_s2_c, pm_s3_c, pm_s4_c, pm_ri_c, pm_ra_c, pm_rn_c, pm_rk_i, pm_rk_z, pm_rk_a, pm_vk_i, pm_vk_z, pm_vk_a, pm_cti, pm_ctr, pm_ldi_z, pm_ldi_s, pm_lda_z, pm_lda_s, pm_cat_n, pm_cat_i, pm_cat_r, pm_cat_l, pm_obj, pm_arr, pm_opt, List.getElem?_cons_zero, List.getElem?_cons_succ, List.set_cons_zero, List.set_cons_succ, List.length_cons, List.length_nil, List.length_set, true_and, and_true, Nat.add_zero, Nat.zero_add, Nat.le_refl, Nat.reduceAdd, Nat.reduceLT, Nat.reduceLeDiff, Nat.zero_le, not_false_eq_true, not_true_eq_false, false_implies, implies_true, true_implies, Nat.zero_lt_succ, Nat.lt_add_one, pm_tl_v, List.cons_append, List.nil_append, pm_k5_c, pm_tl_n, pm_tl_s, i1, i2, i3, i4, i5, hus2, t3, hk]
      exact hT _ _ _ ⟨_, R3⟩ l3' ⟨_, f3⟩
theorem ct_part (X : CX p l s m b0 meth c D ct b g adV L xs) (hxo : xo ≤ 900) {us : Nat} (hus : us + 6 ≤ 7293033) {th i : Int32} {u5 u6 : Option Value} {h : pmH} (R : RZ th h) (hl : h.length = 125) (hf : LG h) (i1 : vp_in (i + 1) L) (i2 : vp_in (i + 2) L) (i3 : vp_in (i + 3) L) (i4 : vp_in (i + 4) L) (i5 : vp_in (i + 5) L)  (hT : ∀ (u5 u6 : Option Value) (h2 : pmH), (∃ th, RZ th h2) → h2.length = 125 → LG h2 → SE p l e s m b0 below meth c Qf D ct b g (xo + 1) 1934 [some (.ref 1000001), some (.ref 0), some (.ref 113), some (.ref 124), some (.int i), u5, u6] [] h2 (us + 6)) : SE p l e s m b0 below meth c Qf D ct b g xo 532 [some (.ref 1000001), some (.ref 0), some (.ref 113), some (.ref 124), some (.int i), u5, u6] [] h us := by
  obtain ⟨bs, ws, A, K, o, S, -⟩ := R
  have c0 := S.C.o
  have r0 := lw_ird hl L xs
  obtain ⟨f, hf⟩ := hf
  have hus2 : us ≤ 7293033 := by omega
  obtain ⟨Q, hW, hQ⟩ := tr_part S hl (xs ((i + 1).toNatClampNeg)) (xs ((i + 2).toNatClampNeg))
  refine law_run X (by omega) lk_1 ?_
  show KL1 _ _ _ _ _ _ _ _ _
  simp only [g_532, g_533, g_534, g_536, g_537, g_538, g_539, g_540, g_542, g_543, g_544, g_545, g_546, pm_1i_c, pm_2i_c, pm_1l_c, pm_2l_c, pm_1a_c, pm_ia_c, pm_iia_c, pm_va_c, pm_cp_c, pm_k0_c, pm_k1_c, pm_k2_c, pm_k3_c, pm_s1_c, pm_s2_c, pm_s3_c, pm_s4_c, pm_ri_c, pm_ra_c, pm_rn_c, pm_rk_i, pm_rk_z, pm_rk_a, pm_vk_i, pm_vk_z, pm_vk_a, pm_cti, pm_ctr, pm_ldi_z, pm_ldi_s, pm_lda_z, pm_lda_s, pm_cat_n, pm_cat_i, pm_cat_r, pm_cat_l, pm_obj, pm_arr, pm_opt, List.getElem?_cons_zero, List.getElem?_cons_succ, List.set_cons_zero, List.set_cons_succ, List.length_cons, List.length_nil, List.length_set, true_and, and_true, Nat.add_zero, Nat.zero_add, Nat.le_refl, Nat.reduceAdd, Nat.reduceLT, Nat.reduceLeDiff, Nat.zero_le, not_false_eq_true, not_true_eq_false, false_implies, implies_true, true_implies, Nat.zero_lt_succ, Nat.lt_add_one, pm_tl_v, List.cons_append, List.nil_append, pm_k5_c, pm_tl_n, pm_tl_s, i1, i2, i3, i4, i5, hus2, c0, r0, hl]
  refine law_call X (idx := 127) (n := 4) (y := yL_part) (cc := cL_part) (maxL := 5) (hh := [(0, 10, 13, 29)]) (as := [.ref 0, .int (xs ((i + 1).toNatClampNeg)), .int (xs ((i + 2).toNatClampNeg)), .ref 124]) (by omega) hus hl (hp_part (d := 458) (f := f) X.2.2.2.2.2.2.2.2.1 X.2.2.2.2.2.2.1 c0 (fun v h1 z => (hQ v h1 z).1.trans hf) (fun v h1 z => by
    rcases (hQ v h1 z).2.2 with ⟨y, hy, -⟩ | ⟨e, he, -⟩
    · exact Or.inl ⟨y, hy⟩
    · exact Or.inr ⟨e, he⟩) (fun e h1 z => by
    rcases (hQ _ h1 z).2.2 with ⟨y, hy, -⟩ | ⟨e9, he, hE, -⟩
    · cases hy
    · cases he
      exact hE) hW) (pm_w_in (j := 5052) (by decide +kernel)) (pm_w_in (j := 5050) (by decide +kernel)) (pm_w_in (j := 5051) (by decide +kernel)) (pm_w_in (j := 1000) (by decide +kernel)) (by decide +kernel) (by decide) rfl (by decide +kernel) ?_
  have hus2 : us + 6 ≤ 7293033 := hus
  intro v h1 l1 hp
  rcases hp with ⟨y, h9, hq, rfl, rfl⟩ | ⟨ev, he, hq, rfl⟩
  · rcases hQ _ _ hq with ⟨e1, ⟨fs, hm⟩, ⟨y', hy, P⟩ | ⟨e', hy, -⟩⟩
    · cases hy
      have l9 : h9.length = 125 := by rw [List.length_set] at l1; exact l1
      suffices key : ∀ h1 : pmH, h1 = h9.set 124 (.inl (3, 1, .inr (.inl (vp_updL f 0 y.toInt64)))) → SE p l e s m b0 below meth c Qf D ct b g (xo + 1) 549 [some (.ref 1000001), some (.ref 0), some (.ref 113), some (.ref 124), some (.int i), u5, u6] [.int 0] h1 (us + 6) from key _ rfl
      clear l1
      intro h1 hh1
      have f1 : ∀ i, i ≠ 124 → h1[i]? = h9[i]? := fun i hi => by rw [hh1]; exact List.getElem?_set_ne (fun z => hi z.symm)
      have f2 : h1[124]? = some (.inl (3, 1, .inr (.inl (vp_updL f 0 y.toInt64)))) := by rw [hh1]; exact List.getElem?_set_self (by omega)
      have l1 : h1.length = 125 := by rw [hh1, List.length_set]; exact l9
      clear hh1
      have r1 := lw_ird l1 L xs
      have hm1 := (f1 113 (by omega)).trans hm
      refine law_run X (by omega) lk_1 ?_
      show KL1 _ _ _ _ _ _ _ _ _
      simp only [g_549, g_551, g_552, g_553, g_555, g_556, g_557, g_558, g_559, g_561, g_562, g_563, g_564, pm_1i_c, pm_2i_c, pm_1l_c, pm_2l_c, pm_1a_c, pm_ia_c, pm_iia_c, pm_va_c, pm_cp_c, pm_k0_c, pm_k1_c, pm_k2_c, pm_k3_c, pm_s1_c, pm_s2_c, pm_s3_c, pm_s4_c, pm_ri_c, pm_ra_c, pm_rn_c, pm_rk_i, pm_rk_z, pm_rk_a, pm_vk_i, pm_vk_z, pm_vk_a, pm_cti, pm_ctr, pm_ldi_z, pm_ldi_s, pm_lda_z, pm_lda_s, pm_cat_n, pm_cat_i, pm_cat_r, pm_cat_l, pm_obj, pm_arr, pm_opt, List.getElem?_cons_zero, List.getElem?_cons_succ, List.set_cons_zero, List.set_cons_succ, List.length_cons, List.length_nil, List.length_set, true_and, and_true, Nat.add_zero, Nat.zero_add, Nat.le_refl, Nat.reduceAdd, Nat.reduceLT, Nat.reduceLeDiff, Nat.zero_le, not_false_eq_true, not_true_eq_false, false_implies, implies_true, true_implies, Nat.zero_lt_succ, Nat.lt_add_one, pm_tl_v, List.cons_append, List.nil_append, pm_k5_c, pm_tl_n, pm_tl_s, i1, i2, i3, i4, i5, hus2, hm1, r1, l1]
      refine PM_use (P h1 f1) ?_
      rintro w h3 l3 ⟨rfl, R3, e3⟩
      have l3' : h3.length = 125 := by omega
      obtain ⟨o3, m3, t3⟩ := R3.len
      have m3' := m3
      unfold mO at m3'
      have f3 := e3.trans f2
      show KL1 _ _ _ _ _ _ _ _ _
      simp only [g_567, g_569, g_570, pm_1i_c, pm_2i_c, pm_1l_c, pm_2l_c, pm_1a_c, pm_ia_c, pm_iia_c, pm_va_c, pm_cp_c, pm_k0_c, pm_k1_c, pm_k2_c, pm_k3_c, pm_s1_c, pm_s2_c, pm_s3_c, pm_s4_c, pm_ri_c, pm_ra_c, pm_rn_c, pm_rk_i, pm_rk_z, pm_rk_a, pm_vk_i, pm_vk_z, pm_vk_a, pm_cti, pm_ctr, pm_ldi_z, pm_ldi_s, pm_lda_z, pm_lda_s, pm_cat_n, pm_cat_i, pm_cat_r, pm_cat_l, pm_obj, pm_arr, pm_opt, List.getElem?_cons_zero, List.getElem?_cons_succ, List.set_cons_zero, List.set_cons_succ, List.length_cons, List.length_nil, List.length_set, true_and, and_true, Nat.add_zero, Nat.zero_add, Nat.le_refl, Nat.reduceAdd, Nat.reduceLT, Nat.reduceLeDiff, Nat.zero_le, not_false_eq_true, not_true_eq_false, false_implies, implies_true, true_implies, Nat.zero_lt_succ, Nat.lt_add_one, pm_tl_v, List.cons_append, List.nil_append, pm_k5_c, pm_tl_n, pm_tl_s, i1, i2, i3, i4, i5, hus2, m3', l3']
      refine PM_use (c_M_thrown m3 459) ?_
      rintro w9 h4 l4 ⟨rfl, rfl⟩
      show KL1 _ _ _ _ _ _ _ _ _
      simp only [g_573, g_575, g_578, g_580, g_582, g_585, g_586, g_587, g_588, g_590, g_591, g_592, g_595, g_597, g_1934, pm_1i_c, pm_2i_c, pm_1l_c, pm_2l_c, pm_1a_c, pm_ia_c, pm_iia_c, pm_va_c, pm_cp_c, pm_k0_c, pm_k1_c, pm_k2_c, pm_k3_c, pm_s1_c, pm_s2_c, pm_s3_c, pm_s4_c, pm_ri_c, pm_ra_c, pm_rn_c, pm_rk_i, pm_rk_z, pm_rk_a, pm_vk_i, pm_vk_z, pm_vk_a, pm_cti, pm_ctr, pm_ldi_z, pm_ldi_s, pm_lda_z, pm_lda_s, pm_cat_n, pm_cat_i, pm_cat_r, pm_cat_l, pm_obj, pm_arr, pm_opt, List.getElem?_cons_zero, List.getElem?_cons_succ, List.set_cons_zero, List.set_cons_succ, List.length_cons, List.length_nil, List.length_set, true_and, and_true, Nat.add_zero, Nat.zero_add, Nat.le_refl, Nat.reduceAdd, Nat.reduceLT, Nat.reduceLeDiff, Nat.zero_le, not_false_eq_true, not_true_eq_false, false_implies, implies_true, true_implies, Nat.zero_lt_succ, Nat.lt_add_one, pm_tl_v, List.cons_append, List.nil_append, pm_k5_c, pm_tl_n, pm_tl_s, i1, i2, i3, i4, i5, hus2, t3, f3, pm_arl, px_z0, px_in01, vp_updL_0, lg_cmp_s, eq_self]
      exact hT _ _ _ ⟨_, R3⟩ l3' ⟨_, f3⟩
    · cases hy
  · rcases hQ _ _ hq with ⟨e1, ⟨fs, hm⟩, ⟨y', hy, -⟩ | ⟨e', hy, hE, P⟩⟩
    · cases hy
    · cases hy
      have r1 := lw_ird l1 L xs
      have hk : ¬ (1 : Int32) = 0 := by decide
      refine law_run X (by omega) lk_1 ?_
      show KL1 _ _ _ _ _ _ _ _ _
      simp only [g_549, g_551, g_552, g_553, g_555, g_556, g_557, g_558, g_559, g_561, g_562, g_563, g_564, pm_1i_c, pm_2i_c, pm_1l_c, pm_2l_c, pm_1a_c, pm_ia_c, pm_iia_c, pm_va_c, pm_cp_c, pm_k0_c, pm_k1_c, pm_k2_c, pm_k3_c, pm_s1_c, pm_s2_c, pm_s3_c, pm_s4_c, pm_ri_c, pm_ra_c, pm_rn_c, pm_rk_i, pm_rk_z, pm_rk_a, pm_vk_i, pm_vk_z, pm_vk_a, pm_cti, pm_ctr, pm_ldi_z, pm_ldi_s, pm_lda_z, pm_lda_s, pm_cat_n, pm_cat_i, pm_cat_r, pm_cat_l, pm_obj, pm_arr, pm_opt, List.getElem?_cons_zero, List.getElem?_cons_succ, List.set_cons_zero, List.set_cons_succ, List.length_cons, List.length_nil, List.length_set, true_and, and_true, Nat.add_zero, Nat.zero_add, Nat.le_refl, Nat.reduceAdd, Nat.reduceLT, Nat.reduceLeDiff, Nat.zero_le, not_false_eq_true, not_true_eq_false, false_implies, implies_true, true_implies, Nat.zero_lt_succ, Nat.lt_add_one, pm_tl_v, List.cons_append, List.nil_append, pm_k5_c, pm_tl_n, pm_tl_s, i1, i2, i3, i4, i5, hus2, hm, r1, l1]
      refine PM_use P ?_
      rintro w h3 l3 ⟨⟨zz, rfl⟩, R3, e3⟩
      have l3' : h3.length = 125 := by omega
      obtain ⟨o3, m3, t3⟩ := R3.len
      have m3' := m3
      unfold mO at m3'
      have f3 := (e3.trans e1).trans hf
      show KL1 _ _ _ _ _ _ _ _ _
      simp only [g_567, g_569, g_570, pm_1i_c, pm_2i_c, pm_1l_c, pm_2l_c, pm_1a_c, pm_ia_c, pm_iia_c, pm_va_c, pm_cp_c, pm_k0_c, pm_k1_c, pm_k2_c, pm_k3_c, pm_s1_c, pm_s2_c, pm_s3_c, pm_s4_c, pm_ri_c, pm_ra_c, pm_rn_c, pm_rk_i, pm_rk_z, pm_rk_a, pm_vk_i, pm_vk_z, pm_vk_a, pm_cti, pm_ctr, pm_ldi_z, pm_ldi_s, pm_lda_z, pm_lda_s, pm_cat_n, pm_cat_i, pm_cat_r, pm_cat_l, pm_obj, pm_arr, pm_opt, List.getElem?_cons_zero, List.getElem?_cons_succ, List.set_cons_zero, List.set_cons_succ, List.length_cons, List.length_nil, List.length_set, true_and, and_true, Nat.add_zero, Nat.zero_add, Nat.le_refl, Nat.reduceAdd, Nat.reduceLT, Nat.reduceLeDiff, Nat.zero_le, not_false_eq_true, not_true_eq_false, false_implies, implies_true, true_implies, Nat.zero_lt_succ, Nat.lt_add_one, pm_tl_v, List.cons_append, List.nil_append, pm_k5_c, pm_tl_n, pm_tl_s, i1, i2, i3, i4, i5, hus2, m3', l3']
      refine PM_use (c_M_thrown m3 459) ?_
      rintro w9 h4 l4 ⟨rfl, rfl⟩
      show KL1 _ _ _ _ _ _ _ _ _
      simp only [g_573, g_575, g_578, g_580, g_582, g_585, g_586, g_587, g_588, g_590, g_591, g_592, g_595, g_597, g_1934, pm_1i_c, pm_2i_c, pm_1l_c, pm_2l_c, pm_1a_c, pm_ia_c, pm_iia_c, pm_va_c, pm_cp_c, pm_k0_c, pm_k1_c, pm_k2_c, pm_k3_c, pm_s1_c, pm_s2_c, pm_s3_c, pm_s4_c, pm_ri_c, pm_ra_c, pm_rn_c, pm_rk_i, pm_rk_z, pm_rk_a, pm_vk_i, pm_vk_z, pm_vk_a, pm_cti, pm_ctr, pm_ldi_z, pm_ldi_s, pm_lda_z, pm_lda_s, pm_cat_n, pm_cat_i, pm_cat_r, pm_cat_l, pm_obj, pm_arr, pm_opt, List.getElem?_cons_zero, List.getElem?_cons_succ, List.set_cons_zero, List.set_cons_succ, List.length_cons, List.length_nil, List.length_set, true_and, and_true, Nat.add_zero, Nat.zero_add, Nat.le_refl, Nat.reduceAdd, Nat.reduceLT, Nat.reduceLeDiff, Nat.zero_le, not_false_eq_true, not_true_eq_false, false_implies, implies_true, true_implies, Nat.zero_lt_succ, Nat.lt_add_one, pm_tl_v, List.cons_append, List.nil_append, pm_k5_c, pm_tl_n, pm_tl_s, i1, i2, i3, i4, i5, hus2, t3, hk]
      exact hT _ _ _ ⟨_, R3⟩ l3' ⟨_, f3⟩
theorem ct_at (X : CX p l s m b0 meth c D ct b g adV L xs) (hxo : xo ≤ 900) {us : Nat} (hus : us + 6 ≤ 7293033) {th i : Int32} {u5 u6 : Option Value} {h : pmH} (R : RZ th h) (hl : h.length = 125) (hf : LG h) (i1 : vp_in (i + 1) L) (i2 : vp_in (i + 2) L) (i3 : vp_in (i + 3) L) (i4 : vp_in (i + 4) L) (i5 : vp_in (i + 5) L)  (hT : ∀ (u5 u6 : Option Value) (h2 : pmH), (∃ th, RZ th h2) → h2.length = 125 → LG h2 → SE p l e s m b0 below meth c Qf D ct b g (xo + 1) 1934 [some (.ref 1000001), some (.ref 0), some (.ref 113), some (.ref 124), some (.int i), u5, u6] [] h2 (us + 6)) : SE p l e s m b0 below meth c Qf D ct b g xo 600 [some (.ref 1000001), some (.ref 0), some (.ref 113), some (.ref 124), some (.int i), u5, u6] [] h us := by
  obtain ⟨bs, ws, A, K, o, S, -⟩ := R
  have c0 := S.C.o
  have r0 := lw_ird hl L xs
  obtain ⟨f, hf⟩ := hf
  have hus2 : us ≤ 7293033 := by omega
  obtain ⟨Q, hW, hQ⟩ := tr_at S hl (xs ((i + 1).toNatClampNeg)) (xs ((i + 2).toNatClampNeg))
  refine law_run X (by omega) lk_1 ?_
  show KL1 _ _ _ _ _ _ _ _ _
  simp only [g_600, g_601, g_602, g_604, g_605, g_606, g_607, g_608, g_610, g_611, g_612, g_613, g_614, pm_1i_c, pm_2i_c, pm_1l_c, pm_2l_c, pm_1a_c, pm_ia_c, pm_iia_c, pm_va_c, pm_cp_c, pm_k0_c, pm_k1_c, pm_k2_c, pm_k3_c, pm_s1_c, pm_s2_c, pm_s3_c, pm_s4_c, pm_ri_c, pm_ra_c, pm_rn_c, pm_rk_i, pm_rk_z, pm_rk_a, pm_vk_i, pm_vk_z, pm_vk_a, pm_cti, pm_ctr, pm_ldi_z, pm_ldi_s, pm_lda_z, pm_lda_s, pm_cat_n, pm_cat_i, pm_cat_r, pm_cat_l, pm_obj, pm_arr, pm_opt, List.getElem?_cons_zero, List.getElem?_cons_succ, List.set_cons_zero, List.set_cons_succ, List.length_cons, List.length_nil, List.length_set, true_and, and_true, Nat.add_zero, Nat.zero_add, Nat.le_refl, Nat.reduceAdd, Nat.reduceLT, Nat.reduceLeDiff, Nat.zero_le, not_false_eq_true, not_true_eq_false, false_implies, implies_true, true_implies, Nat.zero_lt_succ, Nat.lt_add_one, pm_tl_v, List.cons_append, List.nil_append, pm_k5_c, pm_tl_n, pm_tl_s, i1, i2, i3, i4, i5, hus2, c0, r0, hl]
  refine law_call X (idx := 131) (n := 4) (y := yL_at) (cc := cL_at) (maxL := 5) (hh := [(0, 10, 13, 29)]) (as := [.ref 0, .int (xs ((i + 1).toNatClampNeg)), .int (xs ((i + 2).toNatClampNeg)), .ref 124]) (by omega) hus hl (hp_at (d := 458) (f := f) X.2.2.2.2.2.2.2.2.1 X.2.2.2.2.2.2.1 c0 (fun v h1 z => (hQ v h1 z).1.trans hf) (fun v h1 z => by
    rcases (hQ v h1 z).2.2 with ⟨y, hy, -⟩ | ⟨e, he, -⟩
    · exact Or.inl ⟨y, hy⟩
    · exact Or.inr ⟨e, he⟩) (fun e h1 z => by
    rcases (hQ _ h1 z).2.2 with ⟨y, hy, -⟩ | ⟨e9, he, hE, -⟩
    · cases hy
    · cases he
      exact hE) hW) (pm_w_in (j := 5086) (by decide +kernel)) (pm_w_in (j := 5084) (by decide +kernel)) (pm_w_in (j := 5085) (by decide +kernel)) (pm_w_in (j := 1000) (by decide +kernel)) (by decide +kernel) (by decide) rfl (by decide +kernel) ?_
  have hus2 : us + 6 ≤ 7293033 := hus
  intro v h1 l1 hp
  rcases hp with ⟨y, h9, hq, rfl, rfl⟩ | ⟨ev, he, hq, rfl⟩
  · rcases hQ _ _ hq with ⟨e1, ⟨fs, hm⟩, ⟨y', hy, P⟩ | ⟨e', hy, -⟩⟩
    · cases hy
      have l9 : h9.length = 125 := by rw [List.length_set] at l1; exact l1
      suffices key : ∀ h1 : pmH, h1 = h9.set 124 (.inl (3, 1, .inr (.inl (vp_updL f 0 y.toInt64)))) → SE p l e s m b0 below meth c Qf D ct b g (xo + 1) 617 [some (.ref 1000001), some (.ref 0), some (.ref 113), some (.ref 124), some (.int i), u5, u6] [.int 0] h1 (us + 6) from key _ rfl
      clear l1
      intro h1 hh1
      have f1 : ∀ i, i ≠ 124 → h1[i]? = h9[i]? := fun i hi => by rw [hh1]; exact List.getElem?_set_ne (fun z => hi z.symm)
      have f2 : h1[124]? = some (.inl (3, 1, .inr (.inl (vp_updL f 0 y.toInt64)))) := by rw [hh1]; exact List.getElem?_set_self (by omega)
      have l1 : h1.length = 125 := by rw [hh1, List.length_set]; exact l9
      clear hh1
      have r1 := lw_ird l1 L xs
      have hm1 := (f1 113 (by omega)).trans hm
      refine law_run X (by omega) lk_1 ?_
      show KL1 _ _ _ _ _ _ _ _ _
      simp only [g_617, g_619, g_620, g_621, g_623, g_624, g_625, g_626, g_627, g_629, g_630, g_631, g_632, pm_1i_c, pm_2i_c, pm_1l_c, pm_2l_c, pm_1a_c, pm_ia_c, pm_iia_c, pm_va_c, pm_cp_c, pm_k0_c, pm_k1_c, pm_k2_c, pm_k3_c, pm_s1_c, pm_s2_c, pm_s3_c, pm_s4_c, pm_ri_c, pm_ra_c, pm_rn_c, pm_rk_i, pm_rk_z, pm_rk_a, pm_vk_i, pm_vk_z, pm_vk_a, pm_cti, pm_ctr, pm_ldi_z, pm_ldi_s, pm_lda_z, pm_lda_s, pm_cat_n, pm_cat_i, pm_cat_r, pm_cat_l, pm_obj, pm_arr, pm_opt, List.getElem?_cons_zero, List.getElem?_cons_succ, List.set_cons_zero, List.set_cons_succ, List.length_cons, List.length_nil, List.length_set, true_and, and_true, Nat.add_zero, Nat.zero_add, Nat.le_refl, Nat.reduceAdd, Nat.reduceLT, Nat.reduceLeDiff, Nat.zero_le, not_false_eq_true, not_true_eq_false, false_implies, implies_true, true_implies, Nat.zero_lt_succ, Nat.lt_add_one, pm_tl_v, List.cons_append, List.nil_append, pm_k5_c, pm_tl_n, pm_tl_s, i1, i2, i3, i4, i5, hus2, hm1, r1, l1]
      refine PM_use (P h1 f1) ?_
      rintro w h3 l3 ⟨rfl, R3, e3⟩
      have l3' : h3.length = 125 := by omega
      obtain ⟨o3, m3, t3⟩ := R3.len
      have m3' := m3
      unfold mO at m3'
      have f3 := e3.trans f2
      show KL1 _ _ _ _ _ _ _ _ _
      simp only [g_635, g_637, g_638, pm_1i_c, pm_2i_c, pm_1l_c, pm_2l_c, pm_1a_c, pm_ia_c, pm_iia_c, pm_va_c, pm_cp_c, pm_k0_c, pm_k1_c, pm_k2_c, pm_k3_c, pm_s1_c, pm_s2_c, pm_s3_c, pm_s4_c, pm_ri_c, pm_ra_c, pm_rn_c, pm_rk_i, pm_rk_z, pm_rk_a, pm_vk_i, pm_vk_z, pm_vk_a, pm_cti, pm_ctr, pm_ldi_z, pm_ldi_s, pm_lda_z, pm_lda_s, pm_cat_n, pm_cat_i, pm_cat_r, pm_cat_l, pm_obj, pm_arr, pm_opt, List.getElem?_cons_zero, List.getElem?_cons_succ, List.set_cons_zero, List.set_cons_succ, List.length_cons, List.length_nil, List.length_set, true_and, and_true, Nat.add_zero, Nat.zero_add, Nat.le_refl, Nat.reduceAdd, Nat.reduceLT, Nat.reduceLeDiff, Nat.zero_le, not_false_eq_true, not_true_eq_false, false_implies, implies_true, true_implies, Nat.zero_lt_succ, Nat.lt_add_one, pm_tl_v, List.cons_append, List.nil_append, pm_k5_c, pm_tl_n, pm_tl_s, i1, i2, i3, i4, i5, hus2, m3', l3']
      refine PM_use (c_M_thrown m3 459) ?_
      rintro w9 h4 l4 ⟨rfl, rfl⟩
      show KL1 _ _ _ _ _ _ _ _ _
      simp only [g_641, g_643, g_646, g_648, g_650, g_653, g_654, g_655, g_656, g_658, g_659, g_660, g_663, g_665, g_1934, pm_1i_c, pm_2i_c, pm_1l_c, pm_2l_c, pm_1a_c, pm_ia_c, pm_iia_c, pm_va_c, pm_cp_c, pm_k0_c, pm_k1_c, pm_k2_c, pm_k3_c, pm_s1_c, pm_s2_c, pm_s3_c, pm_s4_c, pm_ri_c, pm_ra_c, pm_rn_c, pm_rk_i, pm_rk_z, pm_rk_a, pm_vk_i, pm_vk_z, pm_vk_a, pm_cti, pm_ctr, pm_ldi_z, pm_ldi_s, pm_lda_z, pm_lda_s, pm_cat_n, pm_cat_i, pm_cat_r, pm_cat_l, pm_obj, pm_arr, pm_opt, List.getElem?_cons_zero, List.getElem?_cons_succ, List.set_cons_zero, List.set_cons_succ, List.length_cons, List.length_nil, List.length_set, true_and, and_true, Nat.add_zero, Nat.zero_add, Nat.le_refl, Nat.reduceAdd, Nat.reduceLT, Nat.reduceLeDiff, Nat.zero_le, not_false_eq_true, not_true_eq_false, false_implies, implies_true, true_implies, Nat.zero_lt_succ, Nat.lt_add_one, pm_tl_v, List.cons_append, List.nil_append, pm_k5_c, pm_tl_n, pm_tl_s, i1, i2, i3, i4, i5, hus2, t3, f3, pm_arl, px_z0, px_in01, vp_updL_0, lg_cmp_s, eq_self]
      exact hT _ _ _ ⟨_, R3⟩ l3' ⟨_, f3⟩
    · cases hy
  · rcases hQ _ _ hq with ⟨e1, ⟨fs, hm⟩, ⟨y', hy, -⟩ | ⟨e', hy, hE, P⟩⟩
    · cases hy
    · cases hy
      have r1 := lw_ird l1 L xs
      have hk : ¬ (1 : Int32) = 0 := by decide
      refine law_run X (by omega) lk_1 ?_
      show KL1 _ _ _ _ _ _ _ _ _
      simp only [g_617, g_619, g_620, g_621, g_623, g_624, g_625, g_626, g_627, g_629, g_630, g_631, g_632, pm_1i_c, pm_2i_c, pm_1l_c, pm_2l_c, pm_1a_c, pm_ia_c, pm_iia_c, pm_va_c, pm_cp_c, pm_k0_c, pm_k1_c, pm_k2_c, pm_k3_c, pm_s1_c, pm_s2_c, pm_s3_c, pm_s4_c, pm_ri_c, pm_ra_c, pm_rn_c, pm_rk_i, pm_rk_z, pm_rk_a, pm_vk_i, pm_vk_z, pm_vk_a, pm_cti, pm_ctr, pm_ldi_z, pm_ldi_s, pm_lda_z, pm_lda_s, pm_cat_n, pm_cat_i, pm_cat_r, pm_cat_l, pm_obj, pm_arr, pm_opt, List.getElem?_cons_zero, List.getElem?_cons_succ, List.set_cons_zero, List.set_cons_succ, List.length_cons, List.length_nil, List.length_set, true_and, and_true, Nat.add_zero, Nat.zero_add, Nat.le_refl, Nat.reduceAdd, Nat.reduceLT, Nat.reduceLeDiff, Nat.zero_le, not_false_eq_true, not_true_eq_false, false_implies, implies_true, true_implies, Nat.zero_lt_succ, Nat.lt_add_one, pm_tl_v, List.cons_append, List.nil_append, pm_k5_c, pm_tl_n, pm_tl_s, i1, i2, i3, i4, i5, hus2, hm, r1, l1]
      refine PM_use P ?_
      rintro w h3 l3 ⟨⟨zz, rfl⟩, R3, e3⟩
      have l3' : h3.length = 125 := by omega
      obtain ⟨o3, m3, t3⟩ := R3.len
      have m3' := m3
      unfold mO at m3'
      have f3 := (e3.trans e1).trans hf
      show KL1 _ _ _ _ _ _ _ _ _
      simp only [g_635, g_637, g_638, pm_1i_c, pm_2i_c, pm_1l_c, pm_2l_c, pm_1a_c, pm_ia_c, pm_iia_c, pm_va_c, pm_cp_c, pm_k0_c, pm_k1_c, pm_k2_c, pm_k3_c, pm_s1_c, pm_s2_c, pm_s3_c, pm_s4_c, pm_ri_c, pm_ra_c, pm_rn_c, pm_rk_i, pm_rk_z, pm_rk_a, pm_vk_i, pm_vk_z, pm_vk_a, pm_cti, pm_ctr, pm_ldi_z, pm_ldi_s, pm_lda_z, pm_lda_s, pm_cat_n, pm_cat_i, pm_cat_r, pm_cat_l, pm_obj, pm_arr, pm_opt, List.getElem?_cons_zero, List.getElem?_cons_succ, List.set_cons_zero, List.set_cons_succ, List.length_cons, List.length_nil, List.length_set, true_and, and_true, Nat.add_zero, Nat.zero_add, Nat.le_refl, Nat.reduceAdd, Nat.reduceLT, Nat.reduceLeDiff, Nat.zero_le, not_false_eq_true, not_true_eq_false, false_implies, implies_true, true_implies, Nat.zero_lt_succ, Nat.lt_add_one, pm_tl_v, List.cons_append, List.nil_append, pm_k5_c, pm_tl_n, pm_tl_s, i1, i2, i3, i4, i5, hus2, m3', l3']
      refine PM_use (c_M_thrown m3 459) ?_
      rintro w9 h4 l4 ⟨rfl, rfl⟩
      show KL1 _ _ _ _ _ _ _ _ _
      simp only [g_641, g_643, g_646, g_648, g_650, g_653, g_654, g_655, g_656, g_658, g_659, g_660, g_663, g_665, g_1934, pm_1i_c, pm_2i_c, pm_1l_c, pm_2l_c, pm_1a_c, pm_ia_c, pm_iia_c, pm_va_c, pm_cp_c, pm_k0_c, pm_k1_c, pm_k2_c, pm_k3_c, pm_s1_c, pm_s2_c, pm_s3_c, pm_s4_c, pm_ri_c, pm_ra_c, pm_rn_c, pm_rk_i, pm_rk_z, pm_rk_a, pm_vk_i, pm_vk_z, pm_vk_a, pm_cti, pm_ctr, pm_ldi_z, pm_ldi_s, pm_lda_z, pm_lda_s, pm_cat_n, pm_cat_i, pm_cat_r, pm_cat_l, pm_obj, pm_arr, pm_opt, List.getElem?_cons_zero, List.getElem?_cons_succ, List.set_cons_zero, List.set_cons_succ, List.length_cons, List.length_nil, List.length_set, true_and, and_true, Nat.add_zero, Nat.zero_add, Nat.le_refl, Nat.reduceAdd, Nat.reduceLT, Nat.reduceLeDiff, Nat.zero_le, not_false_eq_true, not_true_eq_false, false_implies, implies_true, true_implies, Nat.zero_lt_succ, Nat.lt_add_one, pm_tl_v, List.cons_append, List.nil_append, pm_k5_c, pm_tl_n, pm_tl_s, i1, i2, i3, i4, i5, hus2, t3, hk]
      exact hT _ _ _ ⟨_, R3⟩ l3' ⟨_, f3⟩
theorem ct_latest (X : CX p l s m b0 meth c D ct b g adV L xs) (hxo : xo ≤ 900) {us : Nat} (hus : us + 6 ≤ 7293033) {th i : Int32} {u5 u6 : Option Value} {h : pmH} (R : RZ th h) (hl : h.length = 125) (hf : LG h) (i1 : vp_in (i + 1) L) (i2 : vp_in (i + 2) L) (i3 : vp_in (i + 3) L) (i4 : vp_in (i + 4) L) (i5 : vp_in (i + 5) L)  (hT : ∀ (u5 u6 : Option Value) (h2 : pmH), (∃ th, RZ th h2) → h2.length = 125 → LG h2 → SE p l e s m b0 below meth c Qf D ct b g (xo + 1) 1934 [some (.ref 1000001), some (.ref 0), some (.ref 113), some (.ref 124), some (.int i), u5, u6] [] h2 (us + 6)) : SE p l e s m b0 below meth c Qf D ct b g xo 668 [some (.ref 1000001), some (.ref 0), some (.ref 113), some (.ref 124), some (.int i), u5, u6] [] h us := by
  obtain ⟨bs, ws, A, K, o, S, -⟩ := R
  have c0 := S.C.o
  have r0 := lw_ird hl L xs
  obtain ⟨f, hf⟩ := hf
  have hus2 : us ≤ 7293033 := by omega
  obtain ⟨Q, hW, hQ⟩ := tr_latest S hl (xs ((i + 1).toNatClampNeg))
  refine law_run X (by omega) lk_1 ?_
  show KL1 _ _ _ _ _ _ _ _ _
  simp only [g_668, g_669, g_670, g_672, g_673, g_674, g_675, g_676, pm_1i_c, pm_2i_c, pm_1l_c, pm_2l_c, pm_1a_c, pm_ia_c, pm_iia_c, pm_va_c, pm_cp_c, pm_k0_c, pm_k1_c, pm_k2_c, pm_k3_c, pm_s1_c, pm_s2_c, pm_s3_c, pm_s4_c, pm_ri_c, pm_ra_c, pm_rn_c, pm_rk_i, pm_rk_z, pm_rk_a, pm_vk_i, pm_vk_z, pm_vk_a, pm_cti, pm_ctr, pm_ldi_z, pm_ldi_s, pm_lda_z, pm_lda_s, pm_cat_n, pm_cat_i, pm_cat_r, pm_cat_l, pm_obj, pm_arr, pm_opt, List.getElem?_cons_zero, List.getElem?_cons_succ, List.set_cons_zero, List.set_cons_succ, List.length_cons, List.length_nil, List.length_set, true_and, and_true, Nat.add_zero, Nat.zero_add, Nat.le_refl, Nat.reduceAdd, Nat.reduceLT, Nat.reduceLeDiff, Nat.zero_le, not_false_eq_true, not_true_eq_false, false_implies, implies_true, true_implies, Nat.zero_lt_succ, Nat.lt_add_one, pm_tl_v, List.cons_append, List.nil_append, pm_k5_c, pm_tl_n, pm_tl_s, i1, i2, i3, i4, i5, hus2, c0, r0, hl]
  refine law_call X (idx := 134) (n := 3) (y := yL_latest) (cc := cL_latest) (maxL := 4) (hh := [(0, 9, 12, 29)]) (as := [.ref 0, .int (xs ((i + 1).toNatClampNeg)), .ref 124]) (by omega) hus hl (hp_latest (d := 458) (f := f) X.2.2.2.2.2.2.2.2.1 X.2.2.2.2.2.2.1 c0 (fun v h1 z => (hQ v h1 z).1.trans hf) (fun v h1 z => by
    rcases (hQ v h1 z).2.2 with ⟨y, hy, -⟩ | ⟨e, he, -⟩
    · exact Or.inl ⟨y, hy⟩
    · exact Or.inr ⟨e, he⟩) (fun e h1 z => by
    rcases (hQ _ h1 z).2.2 with ⟨y, hy, -⟩ | ⟨e9, he, hE, -⟩
    · cases hy
    · cases he
      exact hE) hW) (pm_w_in (j := 5093) (by decide +kernel)) (pm_w_in (j := 5091) (by decide +kernel)) (pm_w_in (j := 5092) (by decide +kernel)) (pm_w_in (j := 1000) (by decide +kernel)) (by decide +kernel) (by decide) rfl (by decide +kernel) ?_
  have hus2 : us + 6 ≤ 7293033 := hus
  intro v h1 l1 hp
  rcases hp with ⟨y, h9, hq, rfl, rfl⟩ | ⟨ev, he, hq, rfl⟩
  · rcases hQ _ _ hq with ⟨e1, ⟨fs, hm⟩, ⟨y', hy, P⟩ | ⟨e', hy, -⟩⟩
    · cases hy
      have l9 : h9.length = 125 := by rw [List.length_set] at l1; exact l1
      suffices key : ∀ h1 : pmH, h1 = h9.set 124 (.inl (3, 1, .inr (.inl (vp_updL f 0 y.toInt64)))) → SE p l e s m b0 below meth c Qf D ct b g (xo + 1) 679 [some (.ref 1000001), some (.ref 0), some (.ref 113), some (.ref 124), some (.int i), u5, u6] [.int 0] h1 (us + 6) from key _ rfl
      clear l1
      intro h1 hh1
      have f1 : ∀ i, i ≠ 124 → h1[i]? = h9[i]? := fun i hi => by rw [hh1]; exact List.getElem?_set_ne (fun z => hi z.symm)
      have f2 : h1[124]? = some (.inl (3, 1, .inr (.inl (vp_updL f 0 y.toInt64)))) := by rw [hh1]; exact List.getElem?_set_self (by omega)
      have l1 : h1.length = 125 := by rw [hh1, List.length_set]; exact l9
      clear hh1
      have r1 := lw_ird l1 L xs
      have hm1 := (f1 113 (by omega)).trans hm
      refine law_run X (by omega) lk_1 ?_
      show KL1 _ _ _ _ _ _ _ _ _
      simp only [g_679, g_681, g_682, g_683, g_685, g_686, g_687, g_688, pm_1i_c, pm_2i_c, pm_1l_c, pm_2l_c, pm_1a_c, pm_ia_c, pm_iia_c, pm_va_c, pm_cp_c, pm_k0_c, pm_k1_c, pm_k2_c, pm_k3_c, pm_s1_c, pm_s2_c, pm_s3_c, pm_s4_c, pm_ri_c, pm_ra_c, pm_rn_c, pm_rk_i, pm_rk_z, pm_rk_a, pm_vk_i, pm_vk_z, pm_vk_a, pm_cti, pm_ctr, pm_ldi_z, pm_ldi_s, pm_lda_z, pm_lda_s, pm_cat_n, pm_cat_i, pm_cat_r, pm_cat_l, pm_obj, pm_arr, pm_opt, List.getElem?_cons_zero, List.getElem?_cons_succ, List.set_cons_zero, List.set_cons_succ, List.length_cons, List.length_nil, List.length_set, true_and, and_true, Nat.add_zero, Nat.zero_add, Nat.le_refl, Nat.reduceAdd, Nat.reduceLT, Nat.reduceLeDiff, Nat.zero_le, not_false_eq_true, not_true_eq_false, false_implies, implies_true, true_implies, Nat.zero_lt_succ, Nat.lt_add_one, pm_tl_v, List.cons_append, List.nil_append, pm_k5_c, pm_tl_n, pm_tl_s, i1, i2, i3, i4, i5, hus2, hm1, r1, l1]
      refine PM_use (P h1 f1) ?_
      rintro w h3 l3 ⟨rfl, R3, e3⟩
      have l3' : h3.length = 125 := by omega
      obtain ⟨o3, m3, t3⟩ := R3.len
      have m3' := m3
      unfold mO at m3'
      have f3 := e3.trans f2
      show KL1 _ _ _ _ _ _ _ _ _
      simp only [g_691, g_693, g_694, pm_1i_c, pm_2i_c, pm_1l_c, pm_2l_c, pm_1a_c, pm_ia_c, pm_iia_c, pm_va_c, pm_cp_c, pm_k0_c, pm_k1_c, pm_k2_c, pm_k3_c, pm_s1_c, pm_s2_c, pm_s3_c, pm_s4_c, pm_ri_c, pm_ra_c, pm_rn_c, pm_rk_i, pm_rk_z, pm_rk_a, pm_vk_i, pm_vk_z, pm_vk_a, pm_cti, pm_ctr, pm_ldi_z, pm_ldi_s, pm_lda_z, pm_lda_s, pm_cat_n, pm_cat_i, pm_cat_r, pm_cat_l, pm_obj, pm_arr, pm_opt, List.getElem?_cons_zero, List.getElem?_cons_succ, List.set_cons_zero, List.set_cons_succ, List.length_cons, List.length_nil, List.length_set, true_and, and_true, Nat.add_zero, Nat.zero_add, Nat.le_refl, Nat.reduceAdd, Nat.reduceLT, Nat.reduceLeDiff, Nat.zero_le, not_false_eq_true, not_true_eq_false, false_implies, implies_true, true_implies, Nat.zero_lt_succ, Nat.lt_add_one, pm_tl_v, List.cons_append, List.nil_append, pm_k5_c, pm_tl_n, pm_tl_s, i1, i2, i3, i4, i5, hus2, m3', l3']
      refine PM_use (c_M_thrown m3 459) ?_
      rintro w9 h4 l4 ⟨rfl, rfl⟩
      show KL1 _ _ _ _ _ _ _ _ _
      simp only [g_697, g_699, g_702, g_704, g_706, g_709, g_710, g_711, g_712, g_714, g_715, g_716, g_719, g_721, g_1934, pm_1i_c, pm_2i_c, pm_1l_c, pm_2l_c, pm_1a_c, pm_ia_c, pm_iia_c, pm_va_c, pm_cp_c, pm_k0_c, pm_k1_c, pm_k2_c, pm_k3_c, pm_s1_c, pm_s2_c, pm_s3_c, pm_s4_c, pm_ri_c, pm_ra_c, pm_rn_c, pm_rk_i, pm_rk_z, pm_rk_a, pm_vk_i, pm_vk_z, pm_vk_a, pm_cti, pm_ctr, pm_ldi_z, pm_ldi_s, pm_lda_z, pm_lda_s, pm_cat_n, pm_cat_i, pm_cat_r, pm_cat_l, pm_obj, pm_arr, pm_opt, List.getElem?_cons_zero, List.getElem?_cons_succ, List.set_cons_zero, List.set_cons_succ, List.length_cons, List.length_nil, List.length_set, true_and, and_true, Nat.add_zero, Nat.zero_add, Nat.le_refl, Nat.reduceAdd, Nat.reduceLT, Nat.reduceLeDiff, Nat.zero_le, not_false_eq_true, not_true_eq_false, false_implies, implies_true, true_implies, Nat.zero_lt_succ, Nat.lt_add_one, pm_tl_v, List.cons_append, List.nil_append, pm_k5_c, pm_tl_n, pm_tl_s, i1, i2, i3, i4, i5, hus2, t3, f3, pm_arl, px_z0, px_in01, vp_updL_0, lg_cmp_s, eq_self]
      exact hT _ _ _ ⟨_, R3⟩ l3' ⟨_, f3⟩
    · cases hy
  · rcases hQ _ _ hq with ⟨e1, ⟨fs, hm⟩, ⟨y', hy, -⟩ | ⟨e', hy, hE, P⟩⟩
    · cases hy
    · cases hy
      have r1 := lw_ird l1 L xs
      have hk : ¬ (1 : Int32) = 0 := by decide
      refine law_run X (by omega) lk_1 ?_
      show KL1 _ _ _ _ _ _ _ _ _
      simp only [g_679, g_681, g_682, g_683, g_685, g_686, g_687, g_688, pm_1i_c, pm_2i_c, pm_1l_c, pm_2l_c, pm_1a_c, pm_ia_c, pm_iia_c, pm_va_c, pm_cp_c, pm_k0_c, pm_k1_c, pm_k2_c, pm_k3_c, pm_s1_c, pm_s2_c, pm_s3_c, pm_s4_c, pm_ri_c, pm_ra_c, pm_rn_c, pm_rk_i, pm_rk_z, pm_rk_a, pm_vk_i, pm_vk_z, pm_vk_a, pm_cti, pm_ctr, pm_ldi_z, pm_ldi_s, pm_lda_z, pm_lda_s, pm_cat_n, pm_cat_i, pm_cat_r, pm_cat_l, pm_obj, pm_arr, pm_opt, List.getElem?_cons_zero, List.getElem?_cons_succ, List.set_cons_zero, List.set_cons_succ, List.length_cons, List.length_nil, List.length_set, true_and, and_true, Nat.add_zero, Nat.zero_add, Nat.le_refl, Nat.reduceAdd, Nat.reduceLT, Nat.reduceLeDiff, Nat.zero_le, not_false_eq_true, not_true_eq_false, false_implies, implies_true, true_implies, Nat.zero_lt_succ, Nat.lt_add_one, pm_tl_v, List.cons_append, List.nil_append, pm_k5_c, pm_tl_n, pm_tl_s, i1, i2, i3, i4, i5, hus2, hm, r1, l1]
      refine PM_use P ?_
      rintro w h3 l3 ⟨⟨zz, rfl⟩, R3, e3⟩
      have l3' : h3.length = 125 := by omega
      obtain ⟨o3, m3, t3⟩ := R3.len
      have m3' := m3
      unfold mO at m3'
      have f3 := (e3.trans e1).trans hf
      show KL1 _ _ _ _ _ _ _ _ _
      simp only [g_691, g_693, g_694, pm_1i_c, pm_2i_c, pm_1l_c, pm_2l_c, pm_1a_c, pm_ia_c, pm_iia_c, pm_va_c, pm_cp_c, pm_k0_c, pm_k1_c, pm_k2_c, pm_k3_c, pm_s1_c, pm_s2_c, pm_s3_c, pm_s4_c, pm_ri_c, pm_ra_c, pm_rn_c, pm_rk_i, pm_rk_z, pm_rk_a, pm_vk_i, pm_vk_z, pm_vk_a, pm_cti, pm_ctr, pm_ldi_z, pm_ldi_s, pm_lda_z, pm_lda_s, pm_cat_n, pm_cat_i, pm_cat_r, pm_cat_l, pm_obj, pm_arr, pm_opt, List.getElem?_cons_zero, List.getElem?_cons_succ, List.set_cons_zero, List.set_cons_succ, List.length_cons, List.length_nil, List.length_set, true_and, and_true, Nat.add_zero, Nat.zero_add, Nat.le_refl, Nat.reduceAdd, Nat.reduceLT, Nat.reduceLeDiff, Nat.zero_le, not_false_eq_true, not_true_eq_false, false_implies, implies_true, true_implies, Nat.zero_lt_succ, Nat.lt_add_one, pm_tl_v, List.cons_append, List.nil_append, pm_k5_c, pm_tl_n, pm_tl_s, i1, i2, i3, i4, i5, hus2, m3', l3']
      refine PM_use (c_M_thrown m3 459) ?_
      rintro w9 h4 l4 ⟨rfl, rfl⟩
      show KL1 _ _ _ _ _ _ _ _ _
      simp only [g_697, g_699, g_702, g_704, g_706, g_709, g_710, g_711, g_712, g_714, g_715, g_716, g_719, g_721, g_1934, pm_1i_c, pm_2i_c, pm_1l_c, pm_2l_c, pm_1a_c, pm_ia_c, pm_iia_c, pm_va_c, pm_cp_c, pm_k0_c, pm_k1_c, pm_k2_c, pm_k3_c, pm_s1_c, pm_s2_c, pm_s3_c, pm_s4_c, pm_ri_c, pm_ra_c, pm_rn_c, pm_rk_i, pm_rk_z, pm_rk_a, pm_vk_i, pm_vk_z, pm_vk_a, pm_cti, pm_ctr, pm_ldi_z, pm_ldi_s, pm_lda_z, pm_lda_s, pm_cat_n, pm_cat_i, pm_cat_r, pm_cat_l, pm_obj, pm_arr, pm_opt, List.getElem?_cons_zero, List.getElem?_cons_succ, List.set_cons_zero, List.set_cons_succ, List.length_cons, List.length_nil, List.length_set, true_and, and_true, Nat.add_zero, Nat.zero_add, Nat.le_refl, Nat.reduceAdd, Nat.reduceLT, Nat.reduceLeDiff, Nat.zero_le, not_false_eq_true, not_true_eq_false, false_implies, implies_true, true_implies, Nat.zero_lt_succ, Nat.lt_add_one, pm_tl_v, List.cons_append, List.nil_append, pm_k5_c, pm_tl_n, pm_tl_s, i1, i2, i3, i4, i5, hus2, t3, hk]
      exact hT _ _ _ ⟨_, R3⟩ l3' ⟨_, f3⟩
theorem cs_out (X : CX p l s m b0 meth c D ct b g adV L xs) (hxo : xo ≤ 900) {us : Nat} (hus : us + 6 ≤ 7293033) {th i : Int32} {u5 u6 : Option Value} {h : pmH} (R : RZ th h) (hl : h.length = 125) (hf : LG h) (i1 : vp_in (i + 1) L) (i2 : vp_in (i + 2) L) (i3 : vp_in (i + 3) L) (i4 : vp_in (i + 4) L) (i5 : vp_in (i + 5) L)  (hT : ∀ (u5 u6 : Option Value) (h2 : pmH), (∃ th, RZ th h2) → h2.length = 125 → LG h2 → SE p l e s m b0 below meth c Qf D ct b g xo 1934 [some (.ref 1000001), some (.ref 0), some (.ref 113), some (.ref 124), some (.int i), u5, u6] [] h2 us) : SE p l e s m b0 below meth c Qf D ct b g xo 724 [some (.ref 1000001), some (.ref 0), some (.ref 113), some (.ref 124), some (.int i), u5, u6] [] h us := by
  obtain ⟨bs, ws, A, K, o, S, -⟩ := R
  have c0 := S.C.o
  have r0 := lw_ird hl L xs
  have hus2 : us ≤ 7293033 := by omega
  refine law_run X (by omega) lk_1 ?_
  show KL1 _ _ _ _ _ _ _ _ _
  simp only [g_724, g_725, g_726, g_728, g_729, g_730, g_731, pm_1i_c, pm_2i_c, pm_1l_c, pm_2l_c, pm_1a_c, pm_ia_c, pm_iia_c, pm_va_c, pm_cp_c, pm_k0_c, pm_k1_c, pm_k2_c, pm_k3_c, pm_s1_c, pm_s2_c, pm_s3_c, pm_s4_c, pm_ri_c, pm_ra_c, pm_rn_c, pm_rk_i, pm_rk_z, pm_rk_a, pm_vk_i, pm_vk_z, pm_vk_a, pm_cti, pm_ctr, pm_ldi_z, pm_ldi_s, pm_lda_z, pm_lda_s, pm_cat_n, pm_cat_i, pm_cat_r, pm_cat_l, pm_obj, pm_arr, pm_opt, List.getElem?_cons_zero, List.getElem?_cons_succ, List.set_cons_zero, List.set_cons_succ, List.length_cons, List.length_nil, List.length_set, true_and, and_true, Nat.add_zero, Nat.zero_add, Nat.le_refl, Nat.reduceAdd, Nat.reduceLT, Nat.reduceLeDiff, Nat.zero_le, not_false_eq_true, not_true_eq_false, false_implies, implies_true, true_implies, Nat.zero_lt_succ, Nat.lt_add_one, pm_tl_v, List.cons_append, List.nil_append, pm_k5_c, pm_tl_n, pm_tl_s, i1, i2, i3, i4, i5, hus2, c0, r0, hl]
  refine PM_use (pr_out S hl (xs ((i + 1).toNatClampNeg))) ?_
  rintro v h1 l1 ⟨y, rfl, e1, ⟨fs, hm⟩, P⟩
  have l1' : h1.length = 125 := by omega
  have r1 := lw_ird l1' L xs
  show KL1 _ _ _ _ _ _ _ _ _
  simp only [g_734, g_735, g_736, g_738, g_739, g_740, g_741, pm_1i_c, pm_2i_c, pm_1l_c, pm_2l_c, pm_1a_c, pm_ia_c, pm_iia_c, pm_va_c, pm_cp_c, pm_k0_c, pm_k1_c, pm_k2_c, pm_k3_c, pm_s1_c, pm_s2_c, pm_s3_c, pm_s4_c, pm_ri_c, pm_ra_c, pm_rn_c, pm_rk_i, pm_rk_z, pm_rk_a, pm_vk_i, pm_vk_z, pm_vk_a, pm_cti, pm_ctr, pm_ldi_z, pm_ldi_s, pm_lda_z, pm_lda_s, pm_cat_n, pm_cat_i, pm_cat_r, pm_cat_l, pm_obj, pm_arr, pm_opt, List.getElem?_cons_zero, List.getElem?_cons_succ, List.set_cons_zero, List.set_cons_succ, List.length_cons, List.length_nil, List.length_set, true_and, and_true, Nat.add_zero, Nat.zero_add, Nat.le_refl, Nat.reduceAdd, Nat.reduceLT, Nat.reduceLeDiff, Nat.zero_le, not_false_eq_true, not_true_eq_false, false_implies, implies_true, true_implies, Nat.zero_lt_succ, Nat.lt_add_one, pm_tl_v, List.cons_append, List.nil_append, pm_k5_c, pm_tl_n, pm_tl_s, i1, i2, i3, i4, i5, hus2, hm, r1, l1']
  refine PM_use P ?_
  rintro w h2 l2 ⟨rfl, R2, e2⟩
  show KL1 _ _ _ _ _ _ _ _ _
  simp only [g_744, g_747, g_1934, pm_1i_c, pm_2i_c, pm_1l_c, pm_2l_c, pm_1a_c, pm_ia_c, pm_iia_c, pm_va_c, pm_cp_c, pm_k0_c, pm_k1_c, pm_k2_c, pm_k3_c, pm_s1_c, pm_s2_c, pm_s3_c, pm_s4_c, pm_ri_c, pm_ra_c, pm_rn_c, pm_rk_i, pm_rk_z, pm_rk_a, pm_vk_i, pm_vk_z, pm_vk_a, pm_cti, pm_ctr, pm_ldi_z, pm_ldi_s, pm_lda_z, pm_lda_s, pm_cat_n, pm_cat_i, pm_cat_r, pm_cat_l, pm_obj, pm_arr, pm_opt, List.getElem?_cons_zero, List.getElem?_cons_succ, List.set_cons_zero, List.set_cons_succ, List.length_cons, List.length_nil, List.length_set, true_and, and_true, Nat.add_zero, Nat.zero_add, Nat.le_refl, Nat.reduceAdd, Nat.reduceLT, Nat.reduceLeDiff, Nat.zero_le, not_false_eq_true, not_true_eq_false, false_implies, implies_true, true_implies, Nat.zero_lt_succ, Nat.lt_add_one, pm_tl_v, List.cons_append, List.nil_append, pm_k5_c, pm_tl_n, pm_tl_s, i1, i2, i3, i4, i5, hus2]
  exact hT _ _ h2 ⟨_, R2⟩ (by omega) (by obtain ⟨f, hf⟩ := hf; exact ⟨f, (e2.trans e1).trans hf⟩)
theorem ct_estimate (X : CX p l s m b0 meth c D ct b g adV L xs) (hxo : xo ≤ 900) {us : Nat} (hus : us + 6 ≤ 7293033) {th i : Int32} {u5 u6 : Option Value} {h : pmH} (R : RZ th h) (hl : h.length = 125) (hf : LG h) (i1 : vp_in (i + 1) L) (i2 : vp_in (i + 2) L) (i3 : vp_in (i + 3) L) (i4 : vp_in (i + 4) L) (i5 : vp_in (i + 5) L)  (hT : ∀ (u5 u6 : Option Value) (h2 : pmH), (∃ th, RZ th h2) → h2.length = 125 → LG h2 → SE p l e s m b0 below meth c Qf D ct b g (xo + 1) 1934 [some (.ref 1000001), some (.ref 0), some (.ref 113), some (.ref 124), some (.int i), u5, u6] [] h2 (us + 6)) : SE p l e s m b0 below meth c Qf D ct b g xo 749 [some (.ref 1000001), some (.ref 0), some (.ref 113), some (.ref 124), some (.int i), u5, u6] [] h us := by
  obtain ⟨bs, ws, A, K, o, S, -⟩ := R
  have c0 := S.C.o
  have r0 := lw_ird hl L xs
  obtain ⟨f, hf⟩ := hf
  have hus2 : us ≤ 7293033 := by omega
  obtain ⟨Q, hW, hQ⟩ := tr_estimate S hl (xs ((i + 1).toNatClampNeg))
  refine law_run X (by omega) lk_1 ?_
  show KL1 _ _ _ _ _ _ _ _ _
  simp only [g_749, g_750, g_751, g_753, g_754, g_755, g_756, g_757, pm_1i_c, pm_2i_c, pm_1l_c, pm_2l_c, pm_1a_c, pm_ia_c, pm_iia_c, pm_va_c, pm_cp_c, pm_k0_c, pm_k1_c, pm_k2_c, pm_k3_c, pm_s1_c, pm_s2_c, pm_s3_c, pm_s4_c, pm_ri_c, pm_ra_c, pm_rn_c, pm_rk_i, pm_rk_z, pm_rk_a, pm_vk_i, pm_vk_z, pm_vk_a, pm_cti, pm_ctr, pm_ldi_z, pm_ldi_s, pm_lda_z, pm_lda_s, pm_cat_n, pm_cat_i, pm_cat_r, pm_cat_l, pm_obj, pm_arr, pm_opt, List.getElem?_cons_zero, List.getElem?_cons_succ, List.set_cons_zero, List.set_cons_succ, List.length_cons, List.length_nil, List.length_set, true_and, and_true, Nat.add_zero, Nat.zero_add, Nat.le_refl, Nat.reduceAdd, Nat.reduceLT, Nat.reduceLeDiff, Nat.zero_le, not_false_eq_true, not_true_eq_false, false_implies, implies_true, true_implies, Nat.zero_lt_succ, Nat.lt_add_one, pm_tl_v, List.cons_append, List.nil_append, pm_k5_c, pm_tl_n, pm_tl_s, i1, i2, i3, i4, i5, hus2, c0, r0, hl]
  refine law_call X (idx := 141) (n := 3) (y := yL_estimate) (cc := cL_estimate) (maxL := 4) (hh := [(0, 9, 12, 13)]) (as := [.ref 0, .int (xs ((i + 1).toNatClampNeg)), .ref 124]) (by omega) hus hl (hp_estimate (d := 458) (f := f) X.2.2.2.2.2.2.2.2.1 X.2.2.2.2.2.2.1 c0 (fun v h1 z => (hQ v h1 z).1.trans hf) (fun v h1 z => by
    rcases (hQ v h1 z).2.2 with ⟨y, hy, -⟩ | ⟨e, he, -⟩
    · exact Or.inl ⟨y, hy⟩
    · exact Or.inr ⟨e, he⟩) (fun e h1 z => by
    rcases (hQ _ h1 z).2.2 with ⟨y, hy, -⟩ | ⟨e9, he, hE, -⟩
    · cases hy
    · cases he
      exact hE) hW) (pm_w_in (j := 5100) (by decide +kernel)) (pm_w_in (j := 5098) (by decide +kernel)) (pm_w_in (j := 5099) (by decide +kernel)) (pm_w_in (j := 1000) (by decide +kernel)) (by decide +kernel) (by decide) rfl (by decide +kernel) ?_
  have hus2 : us + 6 ≤ 7293033 := hus
  intro v h1 l1 hp
  rcases hp with ⟨y, h9, hq, rfl, rfl⟩ | ⟨ev, he, hq, rfl⟩
  · rcases hQ _ _ hq with ⟨e1, ⟨fs, hm⟩, ⟨y', hy, P⟩ | ⟨e', hy, -⟩⟩
    · cases hy
      have l9 : h9.length = 125 := by rw [List.length_set] at l1; exact l1
      suffices key : ∀ h1 : pmH, h1 = h9.set 124 (.inl (3, 1, .inr (.inl (vp_updL f 0 y.toInt64)))) → SE p l e s m b0 below meth c Qf D ct b g (xo + 1) 760 [some (.ref 1000001), some (.ref 0), some (.ref 113), some (.ref 124), some (.int i), u5, u6] [.int 0] h1 (us + 6) from key _ rfl
      clear l1
      intro h1 hh1
      have f1 : ∀ i, i ≠ 124 → h1[i]? = h9[i]? := fun i hi => by rw [hh1]; exact List.getElem?_set_ne (fun z => hi z.symm)
      have f2 : h1[124]? = some (.inl (3, 1, .inr (.inl (vp_updL f 0 y.toInt64)))) := by rw [hh1]; exact List.getElem?_set_self (by omega)
      have l1 : h1.length = 125 := by rw [hh1, List.length_set]; exact l9
      clear hh1
      have r1 := lw_ird l1 L xs
      have hm1 := (f1 113 (by omega)).trans hm
      refine law_run X (by omega) lk_1 ?_
      show KL1 _ _ _ _ _ _ _ _ _
      simp only [g_760, g_762, g_763, g_764, g_766, g_767, g_768, g_769, pm_1i_c, pm_2i_c, pm_1l_c, pm_2l_c, pm_1a_c, pm_ia_c, pm_iia_c, pm_va_c, pm_cp_c, pm_k0_c, pm_k1_c, pm_k2_c, pm_k3_c, pm_s1_c, pm_s2_c, pm_s3_c, pm_s4_c, pm_ri_c, pm_ra_c, pm_rn_c, pm_rk_i, pm_rk_z, pm_rk_a, pm_vk_i, pm_vk_z, pm_vk_a, pm_cti, pm_ctr, pm_ldi_z, pm_ldi_s, pm_lda_z, pm_lda_s, pm_cat_n, pm_cat_i, pm_cat_r, pm_cat_l, pm_obj, pm_arr, pm_opt, List.getElem?_cons_zero, List.getElem?_cons_succ, List.set_cons_zero, List.set_cons_succ, List.length_cons, List.length_nil, List.length_set, true_and, and_true, Nat.add_zero, Nat.zero_add, Nat.le_refl, Nat.reduceAdd, Nat.reduceLT, Nat.reduceLeDiff, Nat.zero_le, not_false_eq_true, not_true_eq_false, false_implies, implies_true, true_implies, Nat.zero_lt_succ, Nat.lt_add_one, pm_tl_v, List.cons_append, List.nil_append, pm_k5_c, pm_tl_n, pm_tl_s, i1, i2, i3, i4, i5, hus2, hm1, r1, l1]
      refine PM_use (P h1 f1) ?_
      rintro w h3 l3 ⟨rfl, R3, e3⟩
      have l3' : h3.length = 125 := by omega
      obtain ⟨o3, m3, t3⟩ := R3.len
      have m3' := m3
      unfold mO at m3'
      have f3 := e3.trans f2
      show KL1 _ _ _ _ _ _ _ _ _
      simp only [g_772, g_774, g_775, pm_1i_c, pm_2i_c, pm_1l_c, pm_2l_c, pm_1a_c, pm_ia_c, pm_iia_c, pm_va_c, pm_cp_c, pm_k0_c, pm_k1_c, pm_k2_c, pm_k3_c, pm_s1_c, pm_s2_c, pm_s3_c, pm_s4_c, pm_ri_c, pm_ra_c, pm_rn_c, pm_rk_i, pm_rk_z, pm_rk_a, pm_vk_i, pm_vk_z, pm_vk_a, pm_cti, pm_ctr, pm_ldi_z, pm_ldi_s, pm_lda_z, pm_lda_s, pm_cat_n, pm_cat_i, pm_cat_r, pm_cat_l, pm_obj, pm_arr, pm_opt, List.getElem?_cons_zero, List.getElem?_cons_succ, List.set_cons_zero, List.set_cons_succ, List.length_cons, List.length_nil, List.length_set, true_and, and_true, Nat.add_zero, Nat.zero_add, Nat.le_refl, Nat.reduceAdd, Nat.reduceLT, Nat.reduceLeDiff, Nat.zero_le, not_false_eq_true, not_true_eq_false, false_implies, implies_true, true_implies, Nat.zero_lt_succ, Nat.lt_add_one, pm_tl_v, List.cons_append, List.nil_append, pm_k5_c, pm_tl_n, pm_tl_s, i1, i2, i3, i4, i5, hus2, m3', l3']
      refine PM_use (c_M_thrown m3 459) ?_
      rintro w9 h4 l4 ⟨rfl, rfl⟩
      show KL1 _ _ _ _ _ _ _ _ _
      simp only [g_778, g_780, g_783, g_785, g_787, g_790, g_791, g_792, g_793, g_795, g_796, g_797, g_800, g_802, g_1934, pm_1i_c, pm_2i_c, pm_1l_c, pm_2l_c, pm_1a_c, pm_ia_c, pm_iia_c, pm_va_c, pm_cp_c, pm_k0_c, pm_k1_c, pm_k2_c, pm_k3_c, pm_s1_c, pm_s2_c, pm_s3_c, pm_s4_c, pm_ri_c, pm_ra_c, pm_rn_c, pm_rk_i, pm_rk_z, pm_rk_a, pm_vk_i, pm_vk_z, pm_vk_a, pm_cti, pm_ctr, pm_ldi_z, pm_ldi_s, pm_lda_z, pm_lda_s, pm_cat_n, pm_cat_i, pm_cat_r, pm_cat_l, pm_obj, pm_arr, pm_opt, List.getElem?_cons_zero, List.getElem?_cons_succ, List.set_cons_zero, List.set_cons_succ, List.length_cons, List.length_nil, List.length_set, true_and, and_true, Nat.add_zero, Nat.zero_add, Nat.le_refl, Nat.reduceAdd, Nat.reduceLT, Nat.reduceLeDiff, Nat.zero_le, not_false_eq_true, not_true_eq_false, false_implies, implies_true, true_implies, Nat.zero_lt_succ, Nat.lt_add_one, pm_tl_v, List.cons_append, List.nil_append, pm_k5_c, pm_tl_n, pm_tl_s, i1, i2, i3, i4, i5, hus2, t3, f3, pm_arl, px_z0, px_in01, vp_updL_0, lg_cmp_s, eq_self]
      exact hT _ _ _ ⟨_, R3⟩ l3' ⟨_, f3⟩
    · cases hy
  · rcases hQ _ _ hq with ⟨e1, ⟨fs, hm⟩, ⟨y', hy, -⟩ | ⟨e', hy, hE, P⟩⟩
    · cases hy
    · cases hy
      have r1 := lw_ird l1 L xs
      have hk : ¬ (1 : Int32) = 0 := by decide
      refine law_run X (by omega) lk_1 ?_
      show KL1 _ _ _ _ _ _ _ _ _
      simp only [g_760, g_762, g_763, g_764, g_766, g_767, g_768, g_769, pm_1i_c, pm_2i_c, pm_1l_c, pm_2l_c, pm_1a_c, pm_ia_c, pm_iia_c, pm_va_c, pm_cp_c, pm_k0_c, pm_k1_c, pm_k2_c, pm_k3_c, pm_s1_c, pm_s2_c, pm_s3_c, pm_s4_c, pm_ri_c, pm_ra_c, pm_rn_c, pm_rk_i, pm_rk_z, pm_rk_a, pm_vk_i, pm_vk_z, pm_vk_a, pm_cti, pm_ctr, pm_ldi_z, pm_ldi_s, pm_lda_z, pm_lda_s, pm_cat_n, pm_cat_i, pm_cat_r, pm_cat_l, pm_obj, pm_arr, pm_opt, List.getElem?_cons_zero, List.getElem?_cons_succ, List.set_cons_zero, List.set_cons_succ, List.length_cons, List.length_nil, List.length_set, true_and, and_true, Nat.add_zero, Nat.zero_add, Nat.le_refl, Nat.reduceAdd, Nat.reduceLT, Nat.reduceLeDiff, Nat.zero_le, not_false_eq_true, not_true_eq_false, false_implies, implies_true, true_implies, Nat.zero_lt_succ, Nat.lt_add_one, pm_tl_v, List.cons_append, List.nil_append, pm_k5_c, pm_tl_n, pm_tl_s, i1, i2, i3, i4, i5, hus2, hm, r1, l1]
      refine PM_use P ?_
      rintro w h3 l3 ⟨⟨zz, rfl⟩, R3, e3⟩
      have l3' : h3.length = 125 := by omega
      obtain ⟨o3, m3, t3⟩ := R3.len
      have m3' := m3
      unfold mO at m3'
      have f3 := (e3.trans e1).trans hf
      show KL1 _ _ _ _ _ _ _ _ _
      simp only [g_772, g_774, g_775, pm_1i_c, pm_2i_c, pm_1l_c, pm_2l_c, pm_1a_c, pm_ia_c, pm_iia_c, pm_va_c, pm_cp_c, pm_k0_c, pm_k1_c, pm_k2_c, pm_k3_c, pm_s1_c, pm_s2_c, pm_s3_c, pm_s4_c, pm_ri_c, pm_ra_c, pm_rn_c, pm_rk_i, pm_rk_z, pm_rk_a, pm_vk_i, pm_vk_z, pm_vk_a, pm_cti, pm_ctr, pm_ldi_z, pm_ldi_s, pm_lda_z, pm_lda_s, pm_cat_n, pm_cat_i, pm_cat_r, pm_cat_l, pm_obj, pm_arr, pm_opt, List.getElem?_cons_zero, List.getElem?_cons_succ, List.set_cons_zero, List.set_cons_succ, List.length_cons, List.length_nil, List.length_set, true_and, and_true, Nat.add_zero, Nat.zero_add, Nat.le_refl, Nat.reduceAdd, Nat.reduceLT, Nat.reduceLeDiff, Nat.zero_le, not_false_eq_true, not_true_eq_false, false_implies, implies_true, true_implies, Nat.zero_lt_succ, Nat.lt_add_one, pm_tl_v, List.cons_append, List.nil_append, pm_k5_c, pm_tl_n, pm_tl_s, i1, i2, i3, i4, i5, hus2, m3', l3']
      refine PM_use (c_M_thrown m3 459) ?_
      rintro w9 h4 l4 ⟨rfl, rfl⟩
      show KL1 _ _ _ _ _ _ _ _ _
      simp only [g_778, g_780, g_783, g_785, g_787, g_790, g_791, g_792, g_793, g_795, g_796, g_797, g_800, g_802, g_1934, pm_1i_c, pm_2i_c, pm_1l_c, pm_2l_c, pm_1a_c, pm_ia_c, pm_iia_c, pm_va_c, pm_cp_c, pm_k0_c, pm_k1_c, pm_k2_c, pm_k3_c, pm_s1_c, pm_s2_c, pm_s3_c, pm_s4_c, pm_ri_c, pm_ra_c, pm_rn_c, pm_rk_i, pm_rk_z, pm_rk_a, pm_vk_i, pm_vk_z, pm_vk_a, pm_cti, pm_ctr, pm_ldi_z, pm_ldi_s, pm_lda_z, pm_lda_s, pm_cat_n, pm_cat_i, pm_cat_r, pm_cat_l, pm_obj, pm_arr, pm_opt, List.getElem?_cons_zero, List.getElem?_cons_succ, List.set_cons_zero, List.set_cons_succ, List.length_cons, List.length_nil, List.length_set, true_and, and_true, Nat.add_zero, Nat.zero_add, Nat.le_refl, Nat.reduceAdd, Nat.reduceLT, Nat.reduceLeDiff, Nat.zero_le, not_false_eq_true, not_true_eq_false, false_implies, implies_true, true_implies, Nat.zero_lt_succ, Nat.lt_add_one, pm_tl_v, List.cons_append, List.nil_append, pm_k5_c, pm_tl_n, pm_tl_s, i1, i2, i3, i4, i5, hus2, t3, hk]
      exact hT _ _ _ ⟨_, R3⟩ l3' ⟨_, f3⟩
theorem ct_place (X : CX p l s m b0 meth c D ct b g adV L xs) (hxo : xo ≤ 900) {us : Nat} (hus : us + 6 ≤ 7293033) {th i : Int32} {u5 u6 : Option Value} {h : pmH} (R : RZ th h) (hl : h.length = 125) (hf : LG h) (i1 : vp_in (i + 1) L) (i2 : vp_in (i + 2) L) (i3 : vp_in (i + 3) L) (i4 : vp_in (i + 4) L) (i5 : vp_in (i + 5) L)  (hT : ∀ (u5 u6 : Option Value) (h2 : pmH), (∃ th, RZ th h2) → h2.length = 125 → LG h2 → SE p l e s m b0 below meth c Qf D ct b g (xo + 1) 1934 [some (.ref 1000001), some (.ref 0), some (.ref 113), some (.ref 124), some (.int i), u5, u6] [] h2 (us + 6)) : SE p l e s m b0 below meth c Qf D ct b g xo 805 [some (.ref 1000001), some (.ref 0), some (.ref 113), some (.ref 124), some (.int i), u5, u6] [] h us := by
  obtain ⟨bs, ws, A, K, o, S, -⟩ := R
  have c0 := S.C.o
  have r0 := lw_ird hl L xs
  obtain ⟨f, hf⟩ := hf
  have hus2 : us ≤ 7293033 := by omega
  obtain ⟨Q, hW, hQ⟩ := tr_place S hl (xs ((i + 1).toNatClampNeg)) (xs ((i + 2).toNatClampNeg))
  refine law_run X (by omega) lk_1 ?_
  show KL1 _ _ _ _ _ _ _ _ _
  simp only [g_805, g_806, g_807, g_809, g_810, g_811, g_812, g_813, g_815, g_816, g_817, g_818, g_819, pm_1i_c, pm_2i_c, pm_1l_c, pm_2l_c, pm_1a_c, pm_ia_c, pm_iia_c, pm_va_c, pm_cp_c, pm_k0_c, pm_k1_c, pm_k2_c, pm_k3_c, pm_s1_c, pm_s2_c, pm_s3_c, pm_s4_c, pm_ri_c, pm_ra_c, pm_rn_c, pm_rk_i, pm_rk_z, pm_rk_a, pm_vk_i, pm_vk_z, pm_vk_a, pm_cti, pm_ctr, pm_ldi_z, pm_ldi_s, pm_lda_z, pm_lda_s, pm_cat_n, pm_cat_i, pm_cat_r, pm_cat_l, pm_obj, pm_arr, pm_opt, List.getElem?_cons_zero, List.getElem?_cons_succ, List.set_cons_zero, List.set_cons_succ, List.length_cons, List.length_nil, List.length_set, true_and, and_true, Nat.add_zero, Nat.zero_add, Nat.le_refl, Nat.reduceAdd, Nat.reduceLT, Nat.reduceLeDiff, Nat.zero_le, not_false_eq_true, not_true_eq_false, false_implies, implies_true, true_implies, Nat.zero_lt_succ, Nat.lt_add_one, pm_tl_v, List.cons_append, List.nil_append, pm_k5_c, pm_tl_n, pm_tl_s, i1, i2, i3, i4, i5, hus2, c0, r0, hl]
  refine law_call X (idx := 144) (n := 4) (y := yL_place) (cc := cL_place) (maxL := 5) (hh := [(0, 10, 13, 13)]) (as := [.ref 0, .int (xs ((i + 1).toNatClampNeg)), .int (xs ((i + 2).toNatClampNeg)), .ref 124]) (by omega) hus hl (hp_place (d := 458) (f := f) X.2.2.2.2.2.2.2.2.1 X.2.2.2.2.2.2.1 c0 (fun v h1 z => (hQ v h1 z).1.trans hf) (fun v h1 z => by
    rcases (hQ v h1 z).2.2 with ⟨y, hy, -⟩ | ⟨e, he, -⟩
    · exact Or.inl ⟨y, hy⟩
    · exact Or.inr ⟨e, he⟩) (fun e h1 z => by
    rcases (hQ _ h1 z).2.2 with ⟨y, hy, -⟩ | ⟨e9, he, hE, -⟩
    · cases hy
    · cases he
      exact hE) hW) (pm_w_in (j := 5108) (by decide +kernel)) (pm_w_in (j := 5106) (by decide +kernel)) (pm_w_in (j := 5107) (by decide +kernel)) (pm_w_in (j := 1000) (by decide +kernel)) (by decide +kernel) (by decide) rfl (by decide +kernel) ?_
  have hus2 : us + 6 ≤ 7293033 := hus
  intro v h1 l1 hp
  rcases hp with ⟨y, h9, hq, rfl, rfl⟩ | ⟨ev, he, hq, rfl⟩
  · rcases hQ _ _ hq with ⟨e1, ⟨fs, hm⟩, ⟨y', hy, P⟩ | ⟨e', hy, -⟩⟩
    · cases hy
      have l9 : h9.length = 125 := by rw [List.length_set] at l1; exact l1
      suffices key : ∀ h1 : pmH, h1 = h9.set 124 (.inl (3, 1, .inr (.inl (vp_updL f 0 y.toInt64)))) → SE p l e s m b0 below meth c Qf D ct b g (xo + 1) 822 [some (.ref 1000001), some (.ref 0), some (.ref 113), some (.ref 124), some (.int i), u5, u6] [.int 0] h1 (us + 6) from key _ rfl
      clear l1
      intro h1 hh1
      have f1 : ∀ i, i ≠ 124 → h1[i]? = h9[i]? := fun i hi => by rw [hh1]; exact List.getElem?_set_ne (fun z => hi z.symm)
      have f2 : h1[124]? = some (.inl (3, 1, .inr (.inl (vp_updL f 0 y.toInt64)))) := by rw [hh1]; exact List.getElem?_set_self (by omega)
      have l1 : h1.length = 125 := by rw [hh1, List.length_set]; exact l9
      clear hh1
      have r1 := lw_ird l1 L xs
      have hm1 := (f1 113 (by omega)).trans hm
      refine law_run X (by omega) lk_1 ?_
      show KL1 _ _ _ _ _ _ _ _ _
      simp only [g_822, g_824, g_825, g_826, g_828, g_829, g_830, g_831, g_832, g_834, g_835, g_836, g_837, pm_1i_c, pm_2i_c, pm_1l_c, pm_2l_c, pm_1a_c, pm_ia_c, pm_iia_c, pm_va_c, pm_cp_c, pm_k0_c, pm_k1_c, pm_k2_c, pm_k3_c, pm_s1_c, pm_s2_c, pm_s3_c, pm_s4_c, pm_ri_c, pm_ra_c, pm_rn_c, pm_rk_i, pm_rk_z, pm_rk_a, pm_vk_i, pm_vk_z, pm_vk_a, pm_cti, pm_ctr, pm_ldi_z, pm_ldi_s, pm_lda_z, pm_lda_s, pm_cat_n, pm_cat_i, pm_cat_r, pm_cat_l, pm_obj, pm_arr, pm_opt, List.getElem?_cons_zero, List.getElem?_cons_succ, List.set_cons_zero, List.set_cons_succ, List.length_cons, List.length_nil, List.length_set, true_and, and_true, Nat.add_zero, Nat.zero_add, Nat.le_refl, Nat.reduceAdd, Nat.reduceLT, Nat.reduceLeDiff, Nat.zero_le, not_false_eq_true, not_true_eq_false, false_implies, implies_true, true_implies, Nat.zero_lt_succ, Nat.lt_add_one, pm_tl_v, List.cons_append, List.nil_append, pm_k5_c, pm_tl_n, pm_tl_s, i1, i2, i3, i4, i5, hus2, hm1, r1, l1]
      refine PM_use (P h1 f1) ?_
      rintro w h3 l3 ⟨rfl, R3, e3⟩
      have l3' : h3.length = 125 := by omega
      obtain ⟨o3, m3, t3⟩ := R3.len
      have m3' := m3
      unfold mO at m3'
      have f3 := e3.trans f2
      show KL1 _ _ _ _ _ _ _ _ _
      simp only [g_840, g_842, g_843, pm_1i_c, pm_2i_c, pm_1l_c, pm_2l_c, pm_1a_c, pm_ia_c, pm_iia_c, pm_va_c, pm_cp_c, pm_k0_c, pm_k1_c, pm_k2_c, pm_k3_c, pm_s1_c, pm_s2_c, pm_s3_c, pm_s4_c, pm_ri_c, pm_ra_c, pm_rn_c, pm_rk_i, pm_rk_z, pm_rk_a, pm_vk_i, pm_vk_z, pm_vk_a, pm_cti, pm_ctr, pm_ldi_z, pm_ldi_s, pm_lda_z, pm_lda_s, pm_cat_n, pm_cat_i, pm_cat_r, pm_cat_l, pm_obj, pm_arr, pm_opt, List.getElem?_cons_zero, List.getElem?_cons_succ, List.set_cons_zero, List.set_cons_succ, List.length_cons, List.length_nil, List.length_set, true_and, and_true, Nat.add_zero, Nat.zero_add, Nat.le_refl, Nat.reduceAdd, Nat.reduceLT, Nat.reduceLeDiff, Nat.zero_le, not_false_eq_true, not_true_eq_false, false_implies, implies_true, true_implies, Nat.zero_lt_succ, Nat.lt_add_one, pm_tl_v, List.cons_append, List.nil_append, pm_k5_c, pm_tl_n, pm_tl_s, i1, i2, i3, i4, i5, hus2, m3', l3']
      refine PM_use (c_M_thrown m3 459) ?_
      rintro w9 h4 l4 ⟨rfl, rfl⟩
      show KL1 _ _ _ _ _ _ _ _ _
      simp only [g_846, g_848, g_851, g_853, g_855, g_858, g_859, g_860, g_861, g_863, g_864, g_865, g_868, g_870, g_1934, pm_1i_c, pm_2i_c, pm_1l_c, pm_2l_c, pm_1a_c, pm_ia_c, pm_iia_c, pm_va_c, pm_cp_c, pm_k0_c, pm_k1_c, pm_k2_c, pm_k3_c, pm_s1_c, pm_s2_c, pm_s3_c, pm_s4_c, pm_ri_c, pm_ra_c, pm_rn_c, pm_rk_i, pm_rk_z, pm_rk_a, pm_vk_i, pm_vk_z, pm_vk_a, pm_cti, pm_ctr, pm_ldi_z, pm_ldi_s, pm_lda_z, pm_lda_s, pm_cat_n, pm_cat_i, pm_cat_r, pm_cat_l, pm_obj, pm_arr, pm_opt, List.getElem?_cons_zero, List.getElem?_cons_succ, List.set_cons_zero, List.set_cons_succ, List.length_cons, List.length_nil, List.length_set, true_and, and_true, Nat.add_zero, Nat.zero_add, Nat.le_refl, Nat.reduceAdd, Nat.reduceLT, Nat.reduceLeDiff, Nat.zero_le, not_false_eq_true, not_true_eq_false, false_implies, implies_true, true_implies, Nat.zero_lt_succ, Nat.lt_add_one, pm_tl_v, List.cons_append, List.nil_append, pm_k5_c, pm_tl_n, pm_tl_s, i1, i2, i3, i4, i5, hus2, t3, f3, pm_arl, px_z0, px_in01, vp_updL_0, lg_cmp_s, eq_self]
      exact hT _ _ _ ⟨_, R3⟩ l3' ⟨_, f3⟩
    · cases hy
  · rcases hQ _ _ hq with ⟨e1, ⟨fs, hm⟩, ⟨y', hy, -⟩ | ⟨e', hy, hE, P⟩⟩
    · cases hy
    · cases hy
      have r1 := lw_ird l1 L xs
      have hk : ¬ (1 : Int32) = 0 := by decide
      refine law_run X (by omega) lk_1 ?_
      show KL1 _ _ _ _ _ _ _ _ _
      simp only [g_822, g_824, g_825, g_826, g_828, g_829, g_830, g_831, g_832, g_834, g_835, g_836, g_837, pm_1i_c, pm_2i_c, pm_1l_c, pm_2l_c, pm_1a_c, pm_ia_c, pm_iia_c, pm_va_c, pm_cp_c, pm_k0_c, pm_k1_c, pm_k2_c, pm_k3_c, pm_s1_c, pm_s2_c, pm_s3_c, pm_s4_c, pm_ri_c, pm_ra_c, pm_rn_c, pm_rk_i, pm_rk_z, pm_rk_a, pm_vk_i, pm_vk_z, pm_vk_a, pm_cti, pm_ctr, pm_ldi_z, pm_ldi_s, pm_lda_z, pm_lda_s, pm_cat_n, pm_cat_i, pm_cat_r, pm_cat_l, pm_obj, pm_arr, pm_opt, List.getElem?_cons_zero, List.getElem?_cons_succ, List.set_cons_zero, List.set_cons_succ, List.length_cons, List.length_nil, List.length_set, true_and, and_true, Nat.add_zero, Nat.zero_add, Nat.le_refl, Nat.reduceAdd, Nat.reduceLT, Nat.reduceLeDiff, Nat.zero_le, not_false_eq_true, not_true_eq_false, false_implies, implies_true, true_implies, Nat.zero_lt_succ, Nat.lt_add_one, pm_tl_v, List.cons_append, List.nil_append, pm_k5_c, pm_tl_n, pm_tl_s, i1, i2, i3, i4, i5, hus2, hm, r1, l1]
      refine PM_use P ?_
      rintro w h3 l3 ⟨⟨zz, rfl⟩, R3, e3⟩
      have l3' : h3.length = 125 := by omega
      obtain ⟨o3, m3, t3⟩ := R3.len
      have m3' := m3
      unfold mO at m3'
      have f3 := (e3.trans e1).trans hf
      show KL1 _ _ _ _ _ _ _ _ _
      simp only [g_840, g_842, g_843, pm_1i_c, pm_2i_c, pm_1l_c, pm_2l_c, pm_1a_c, pm_ia_c, pm_iia_c, pm_va_c, pm_cp_c, pm_k0_c, pm_k1_c, pm_k2_c, pm_k3_c, pm_s1_c, pm_s2_c, pm_s3_c, pm_s4_c, pm_ri_c, pm_ra_c, pm_rn_c, pm_rk_i, pm_rk_z, pm_rk_a, pm_vk_i, pm_vk_z, pm_vk_a, pm_cti, pm_ctr, pm_ldi_z, pm_ldi_s, pm_lda_z, pm_lda_s, pm_cat_n, pm_cat_i, pm_cat_r, pm_cat_l, pm_obj, pm_arr, pm_opt, List.getElem?_cons_zero, List.getElem?_cons_succ, List.set_cons_zero, List.set_cons_succ, List.length_cons, List.length_nil, List.length_set, true_and, and_true, Nat.add_zero, Nat.zero_add, Nat.le_refl, Nat.reduceAdd, Nat.reduceLT, Nat.reduceLeDiff, Nat.zero_le, not_false_eq_true, not_true_eq_false, false_implies, implies_true, true_implies, Nat.zero_lt_succ, Nat.lt_add_one, pm_tl_v, List.cons_append, List.nil_append, pm_k5_c, pm_tl_n, pm_tl_s, i1, i2, i3, i4, i5, hus2, m3', l3']
      refine PM_use (c_M_thrown m3 459) ?_
      rintro w9 h4 l4 ⟨rfl, rfl⟩
      show KL1 _ _ _ _ _ _ _ _ _
      simp only [g_846, g_848, g_851, g_853, g_855, g_858, g_859, g_860, g_861, g_863, g_864, g_865, g_868, g_870, g_1934, pm_1i_c, pm_2i_c, pm_1l_c, pm_2l_c, pm_1a_c, pm_ia_c, pm_iia_c, pm_va_c, pm_cp_c, pm_k0_c, pm_k1_c, pm_k2_c, pm_k3_c, pm_s1_c, pm_s2_c, pm_s3_c, pm_s4_c, pm_ri_c, pm_ra_c, pm_rn_c, pm_rk_i, pm_rk_z, pm_rk_a, pm_vk_i, pm_vk_z, pm_vk_a, pm_cti, pm_ctr, pm_ldi_z, pm_ldi_s, pm_lda_z, pm_lda_s, pm_cat_n, pm_cat_i, pm_cat_r, pm_cat_l, pm_obj, pm_arr, pm_opt, List.getElem?_cons_zero, List.getElem?_cons_succ, List.set_cons_zero, List.set_cons_succ, List.length_cons, List.length_nil, List.length_set, true_and, and_true, Nat.add_zero, Nat.zero_add, Nat.le_refl, Nat.reduceAdd, Nat.reduceLT, Nat.reduceLeDiff, Nat.zero_le, not_false_eq_true, not_true_eq_false, false_implies, implies_true, true_implies, Nat.zero_lt_succ, Nat.lt_add_one, pm_tl_v, List.cons_append, List.nil_append, pm_k5_c, pm_tl_n, pm_tl_s, i1, i2, i3, i4, i5, hus2, t3, hk]
      exact hT _ _ _ ⟨_, R3⟩ l3' ⟨_, f3⟩
theorem ct_counter (X : CX p l s m b0 meth c D ct b g adV L xs) (hxo : xo ≤ 900) {us : Nat} (hus : us + 6 ≤ 7293033) {th i : Int32} {u5 u6 : Option Value} {h : pmH} (R : RZ th h) (hl : h.length = 125) (hf : LG h) (i1 : vp_in (i + 1) L) (i2 : vp_in (i + 2) L) (i3 : vp_in (i + 3) L) (i4 : vp_in (i + 4) L) (i5 : vp_in (i + 5) L)  (hT : ∀ (u5 u6 : Option Value) (h2 : pmH), (∃ th, RZ th h2) → h2.length = 125 → LG h2 → SE p l e s m b0 below meth c Qf D ct b g (xo + 1) 1934 [some (.ref 1000001), some (.ref 0), some (.ref 113), some (.ref 124), some (.int i), u5, u6] [] h2 (us + 6)) : SE p l e s m b0 below meth c Qf D ct b g xo 873 [some (.ref 1000001), some (.ref 0), some (.ref 113), some (.ref 124), some (.int i), u5, u6] [] h us := by
  obtain ⟨bs, ws, A, K, o, S, -⟩ := R
  have c0 := S.C.o
  have r0 := lw_ird hl L xs
  obtain ⟨f, hf⟩ := hf
  have hus2 : us ≤ 7293033 := by omega
  obtain ⟨Q, hW, hQ⟩ := tr_counter S hl (xs ((i + 1).toNatClampNeg)) (xs ((i + 2).toNatClampNeg))
  refine law_run X (by omega) lk_1 ?_
  show KL1 _ _ _ _ _ _ _ _ _
  simp only [g_873, g_874, g_875, g_877, g_878, g_879, g_880, g_881, g_883, g_884, g_885, g_886, g_887, pm_1i_c, pm_2i_c, pm_1l_c, pm_2l_c, pm_1a_c, pm_ia_c, pm_iia_c, pm_va_c, pm_cp_c, pm_k0_c, pm_k1_c, pm_k2_c, pm_k3_c, pm_s1_c, pm_s2_c, pm_s3_c, pm_s4_c, pm_ri_c, pm_ra_c, pm_rn_c, pm_rk_i, pm_rk_z, pm_rk_a, pm_vk_i, pm_vk_z, pm_vk_a, pm_cti, pm_ctr, pm_ldi_z, pm_ldi_s, pm_lda_z, pm_lda_s, pm_cat_n, pm_cat_i, pm_cat_r, pm_cat_l, pm_obj, pm_arr, pm_opt, List.getElem?_cons_zero, List.getElem?_cons_succ, List.set_cons_zero, List.set_cons_succ, List.length_cons, List.length_nil, List.length_set, true_and, and_true, Nat.add_zero, Nat.zero_add, Nat.le_refl, Nat.reduceAdd, Nat.reduceLT, Nat.reduceLeDiff, Nat.zero_le, not_false_eq_true, not_true_eq_false, false_implies, implies_true, true_implies, Nat.zero_lt_succ, Nat.lt_add_one, pm_tl_v, List.cons_append, List.nil_append, pm_k5_c, pm_tl_n, pm_tl_s, i1, i2, i3, i4, i5, hus2, c0, r0, hl]
  refine law_call X (idx := 147) (n := 4) (y := yL_counter) (cc := cL_counter) (maxL := 5) (hh := [(0, 10, 13, 13)]) (as := [.ref 0, .int (xs ((i + 1).toNatClampNeg)), .int (xs ((i + 2).toNatClampNeg)), .ref 124]) (by omega) hus hl (hp_counter (d := 458) (f := f) X.2.2.2.2.2.2.2.2.1 X.2.2.2.2.2.2.1 c0 (fun v h1 z => (hQ v h1 z).1.trans hf) (fun v h1 z => by
    rcases (hQ v h1 z).2.2 with ⟨y, hy, -⟩ | ⟨e, he, -⟩
    · exact Or.inl ⟨y, hy⟩
    · exact Or.inr ⟨e, he⟩) (fun e h1 z => by
    rcases (hQ _ h1 z).2.2 with ⟨y, hy, -⟩ | ⟨e9, he, hE, -⟩
    · cases hy
    · cases he
      exact hE) hW) (pm_w_in (j := 5120) (by decide +kernel)) (pm_w_in (j := 5118) (by decide +kernel)) (pm_w_in (j := 5119) (by decide +kernel)) (pm_w_in (j := 1000) (by decide +kernel)) (by decide +kernel) (by decide) rfl (by decide +kernel) ?_
  have hus2 : us + 6 ≤ 7293033 := hus
  intro v h1 l1 hp
  rcases hp with ⟨y, h9, hq, rfl, rfl⟩ | ⟨ev, he, hq, rfl⟩
  · rcases hQ _ _ hq with ⟨e1, ⟨fs, hm⟩, ⟨y', hy, P⟩ | ⟨e', hy, -⟩⟩
    · cases hy
      have l9 : h9.length = 125 := by rw [List.length_set] at l1; exact l1
      suffices key : ∀ h1 : pmH, h1 = h9.set 124 (.inl (3, 1, .inr (.inl (vp_updL f 0 y.toInt64)))) → SE p l e s m b0 below meth c Qf D ct b g (xo + 1) 890 [some (.ref 1000001), some (.ref 0), some (.ref 113), some (.ref 124), some (.int i), u5, u6] [.int 0] h1 (us + 6) from key _ rfl
      clear l1
      intro h1 hh1
      have f1 : ∀ i, i ≠ 124 → h1[i]? = h9[i]? := fun i hi => by rw [hh1]; exact List.getElem?_set_ne (fun z => hi z.symm)
      have f2 : h1[124]? = some (.inl (3, 1, .inr (.inl (vp_updL f 0 y.toInt64)))) := by rw [hh1]; exact List.getElem?_set_self (by omega)
      have l1 : h1.length = 125 := by rw [hh1, List.length_set]; exact l9
      clear hh1
      have r1 := lw_ird l1 L xs
      have hm1 := (f1 113 (by omega)).trans hm
      refine law_run X (by omega) lk_1 ?_
      show KL1 _ _ _ _ _ _ _ _ _
      simp only [g_890, g_892, g_893, g_894, g_896, g_897, g_898, g_899, g_900, g_902, g_903, g_904, g_905, pm_1i_c, pm_2i_c, pm_1l_c, pm_2l_c, pm_1a_c, pm_ia_c, pm_iia_c, pm_va_c, pm_cp_c, pm_k0_c, pm_k1_c, pm_k2_c, pm_k3_c, pm_s1_c, pm_s2_c, pm_s3_c, pm_s4_c, pm_ri_c, pm_ra_c, pm_rn_c, pm_rk_i, pm_rk_z, pm_rk_a, pm_vk_i, pm_vk_z, pm_vk_a, pm_cti, pm_ctr, pm_ldi_z, pm_ldi_s, pm_lda_z, pm_lda_s, pm_cat_n, pm_cat_i, pm_cat_r, pm_cat_l, pm_obj, pm_arr, pm_opt, List.getElem?_cons_zero, List.getElem?_cons_succ, List.set_cons_zero, List.set_cons_succ, List.length_cons, List.length_nil, List.length_set, true_and, and_true, Nat.add_zero, Nat.zero_add, Nat.le_refl, Nat.reduceAdd, Nat.reduceLT, Nat.reduceLeDiff, Nat.zero_le, not_false_eq_true, not_true_eq_false, false_implies, implies_true, true_implies, Nat.zero_lt_succ, Nat.lt_add_one, pm_tl_v, List.cons_append, List.nil_append, pm_k5_c, pm_tl_n, pm_tl_s, i1, i2, i3, i4, i5, hus2, hm1, r1, l1]
      refine PM_use (P h1 f1) ?_
      rintro w h3 l3 ⟨rfl, R3, e3⟩
      have l3' : h3.length = 125 := by omega
      obtain ⟨o3, m3, t3⟩ := R3.len
      have m3' := m3
      unfold mO at m3'
      have f3 := e3.trans f2
      show KL1 _ _ _ _ _ _ _ _ _
      simp only [g_908, g_910, g_911, pm_1i_c, pm_2i_c, pm_1l_c, pm_2l_c, pm_1a_c, pm_ia_c, pm_iia_c, pm_va_c, pm_cp_c, pm_k0_c, pm_k1_c, pm_k2_c, pm_k3_c, pm_s1_c, pm_s2_c, pm_s3_c, pm_s4_c, pm_ri_c, pm_ra_c, pm_rn_c, pm_rk_i, pm_rk_z, pm_rk_a, pm_vk_i, pm_vk_z, pm_vk_a, pm_cti, pm_ctr, pm_ldi_z, pm_ldi_s, pm_lda_z, pm_lda_s, pm_cat_n, pm_cat_i, pm_cat_r, pm_cat_l, pm_obj, pm_arr, pm_opt, List.getElem?_cons_zero, List.getElem?_cons_succ, List.set_cons_zero, List.set_cons_succ, List.length_cons, List.length_nil, List.length_set, true_and, and_true, Nat.add_zero, Nat.zero_add, Nat.le_refl, Nat.reduceAdd, Nat.reduceLT, Nat.reduceLeDiff, Nat.zero_le, not_false_eq_true, not_true_eq_false, false_implies, implies_true, true_implies, Nat.zero_lt_succ, Nat.lt_add_one, pm_tl_v, List.cons_append, List.nil_append, pm_k5_c, pm_tl_n, pm_tl_s, i1, i2, i3, i4, i5, hus2, m3', l3']
      refine PM_use (c_M_thrown m3 459) ?_
      rintro w9 h4 l4 ⟨rfl, rfl⟩
      show KL1 _ _ _ _ _ _ _ _ _
      simp only [g_914, g_916, g_919, g_921, g_923, g_926, g_927, g_928, g_929, g_931, g_932, g_933, g_936, g_938, g_1934, pm_1i_c, pm_2i_c, pm_1l_c, pm_2l_c, pm_1a_c, pm_ia_c, pm_iia_c, pm_va_c, pm_cp_c, pm_k0_c, pm_k1_c, pm_k2_c, pm_k3_c, pm_s1_c, pm_s2_c, pm_s3_c, pm_s4_c, pm_ri_c, pm_ra_c, pm_rn_c, pm_rk_i, pm_rk_z, pm_rk_a, pm_vk_i, pm_vk_z, pm_vk_a, pm_cti, pm_ctr, pm_ldi_z, pm_ldi_s, pm_lda_z, pm_lda_s, pm_cat_n, pm_cat_i, pm_cat_r, pm_cat_l, pm_obj, pm_arr, pm_opt, List.getElem?_cons_zero, List.getElem?_cons_succ, List.set_cons_zero, List.set_cons_succ, List.length_cons, List.length_nil, List.length_set, true_and, and_true, Nat.add_zero, Nat.zero_add, Nat.le_refl, Nat.reduceAdd, Nat.reduceLT, Nat.reduceLeDiff, Nat.zero_le, not_false_eq_true, not_true_eq_false, false_implies, implies_true, true_implies, Nat.zero_lt_succ, Nat.lt_add_one, pm_tl_v, List.cons_append, List.nil_append, pm_k5_c, pm_tl_n, pm_tl_s, i1, i2, i3, i4, i5, hus2, t3, f3, pm_arl, px_z0, px_in01, vp_updL_0, lg_cmp_s, eq_self]
      exact hT _ _ _ ⟨_, R3⟩ l3' ⟨_, f3⟩
    · cases hy
  · rcases hQ _ _ hq with ⟨e1, ⟨fs, hm⟩, ⟨y', hy, -⟩ | ⟨e', hy, hE, P⟩⟩
    · cases hy
    · cases hy
      have r1 := lw_ird l1 L xs
      have hk : ¬ (1 : Int32) = 0 := by decide
      refine law_run X (by omega) lk_1 ?_
      show KL1 _ _ _ _ _ _ _ _ _
      simp only [g_890, g_892, g_893, g_894, g_896, g_897, g_898, g_899, g_900, g_902, g_903, g_904, g_905, pm_1i_c, pm_2i_c, pm_1l_c, pm_2l_c, pm_1a_c, pm_ia_c, pm_iia_c, pm_va_c, pm_cp_c, pm_k0_c, pm_k1_c, pm_k2_c, pm_k3_c, pm_s1_c, pm_s2_c, pm_s3_c, pm_s4_c, pm_ri_c, pm_ra_c, pm_rn_c, pm_rk_i, pm_rk_z, pm_rk_a, pm_vk_i, pm_vk_z, pm_vk_a, pm_cti, pm_ctr, pm_ldi_z, pm_ldi_s, pm_lda_z, pm_lda_s, pm_cat_n, pm_cat_i, pm_cat_r, pm_cat_l, pm_obj, pm_arr, pm_opt, List.getElem?_cons_zero, List.getElem?_cons_succ, List.set_cons_zero, List.set_cons_succ, List.length_cons, List.length_nil, List.length_set, true_and, and_true, Nat.add_zero, Nat.zero_add, Nat.le_refl, Nat.reduceAdd, Nat.reduceLT, Nat.reduceLeDiff, Nat.zero_le, not_false_eq_true, not_true_eq_false, false_implies, implies_true, true_implies, Nat.zero_lt_succ, Nat.lt_add_one, pm_tl_v, List.cons_append, List.nil_append, pm_k5_c, pm_tl_n, pm_tl_s, i1, i2, i3, i4, i5, hus2, hm, r1, l1]
      refine PM_use P ?_
      rintro w h3 l3 ⟨⟨zz, rfl⟩, R3, e3⟩
      have l3' : h3.length = 125 := by omega
      obtain ⟨o3, m3, t3⟩ := R3.len
      have m3' := m3
      unfold mO at m3'
      have f3 := (e3.trans e1).trans hf
      show KL1 _ _ _ _ _ _ _ _ _
      simp only [g_908, g_910, g_911, pm_1i_c, pm_2i_c, pm_1l_c, pm_2l_c, pm_1a_c, pm_ia_c, pm_iia_c, pm_va_c, pm_cp_c, pm_k0_c, pm_k1_c, pm_k2_c, pm_k3_c, pm_s1_c, pm_s2_c, pm_s3_c, pm_s4_c, pm_ri_c, pm_ra_c, pm_rn_c, pm_rk_i, pm_rk_z, pm_rk_a, pm_vk_i, pm_vk_z, pm_vk_a, pm_cti, pm_ctr, pm_ldi_z, pm_ldi_s, pm_lda_z, pm_lda_s, pm_cat_n, pm_cat_i, pm_cat_r, pm_cat_l, pm_obj, pm_arr, pm_opt, List.getElem?_cons_zero, List.getElem?_cons_succ, List.set_cons_zero, List.set_cons_succ, List.length_cons, List.length_nil, List.length_set, true_and, and_true, Nat.add_zero, Nat.zero_add, Nat.le_refl, Nat.reduceAdd, Nat.reduceLT, Nat.reduceLeDiff, Nat.zero_le, not_false_eq_true, not_true_eq_false, false_implies, implies_true, true_implies, Nat.zero_lt_succ, Nat.lt_add_one, pm_tl_v, List.cons_append, List.nil_append, pm_k5_c, pm_tl_n, pm_tl_s, i1, i2, i3, i4, i5, hus2, m3', l3']
      refine PM_use (c_M_thrown m3 459) ?_
      rintro w9 h4 l4 ⟨rfl, rfl⟩
      show KL1 _ _ _ _ _ _ _ _ _
      simp only [g_914, g_916, g_919, g_921, g_923, g_926, g_927, g_928, g_929, g_931, g_932, g_933, g_936, g_938, g_1934, pm_1i_c, pm_2i_c, pm_1l_c, pm_2l_c, pm_1a_c, pm_ia_c, pm_iia_c, pm_va_c, pm_cp_c, pm_k0_c, pm_k1_c, pm_k2_c, pm_k3_c, pm_s1_c, pm_s2_c, pm_s3_c, pm_s4_c, pm_ri_c, pm_ra_c, pm_rn_c, pm_rk_i, pm_rk_z, pm_rk_a, pm_vk_i, pm_vk_z, pm_vk_a, pm_cti, pm_ctr, pm_ldi_z, pm_ldi_s, pm_lda_z, pm_lda_s, pm_cat_n, pm_cat_i, pm_cat_r, pm_cat_l, pm_obj, pm_arr, pm_opt, List.getElem?_cons_zero, List.getElem?_cons_succ, List.set_cons_zero, List.set_cons_succ, List.length_cons, List.length_nil, List.length_set, true_and, and_true, Nat.add_zero, Nat.zero_add, Nat.le_refl, Nat.reduceAdd, Nat.reduceLT, Nat.reduceLeDiff, Nat.zero_le, not_false_eq_true, not_true_eq_false, false_implies, implies_true, true_implies, Nat.zero_lt_succ, Nat.lt_add_one, pm_tl_v, List.cons_append, List.nil_append, pm_k5_c, pm_tl_n, pm_tl_s, i1, i2, i3, i4, i5, hus2, t3, hk]
      exact hT _ _ _ ⟨_, R3⟩ l3' ⟨_, f3⟩
theorem ct_meets (X : CX p l s m b0 meth c D ct b g adV L xs) (hxo : xo ≤ 900) {us : Nat} (hus : us + 6 ≤ 7293033) {th i : Int32} {u5 u6 : Option Value} {h : pmH} (R : RZ th h) (hl : h.length = 125) (hf : LG h) (i1 : vp_in (i + 1) L) (i2 : vp_in (i + 2) L) (i3 : vp_in (i + 3) L) (i4 : vp_in (i + 4) L) (i5 : vp_in (i + 5) L)  (hT : ∀ (u5 u6 : Option Value) (h2 : pmH), (∃ th, RZ th h2) → h2.length = 125 → LG h2 → SE p l e s m b0 below meth c Qf D ct b g (xo + 1) 1934 [some (.ref 1000001), some (.ref 0), some (.ref 113), some (.ref 124), some (.int i), u5, u6] [] h2 (us + 6)) : SE p l e s m b0 below meth c Qf D ct b g xo 941 [some (.ref 1000001), some (.ref 0), some (.ref 113), some (.ref 124), some (.int i), u5, u6] [] h us := by
  obtain ⟨bs, ws, A, K, o, S, -⟩ := R
  have c0 := S.C.o
  have r0 := lw_ird hl L xs
  obtain ⟨f, hf⟩ := hf
  have hus2 : us ≤ 7293033 := by omega
  obtain ⟨Q, hW, hQ⟩ := tr_meets S hl (xs ((i + 1).toNatClampNeg)) (xs ((i + 2).toNatClampNeg))
  refine law_run X (by omega) lk_1 ?_
  show KL1 _ _ _ _ _ _ _ _ _
  simp only [g_941, g_942, g_943, g_945, g_946, g_947, g_948, g_949, g_951, g_952, g_953, g_954, g_955, pm_1i_c, pm_2i_c, pm_1l_c, pm_2l_c, pm_1a_c, pm_ia_c, pm_iia_c, pm_va_c, pm_cp_c, pm_k0_c, pm_k1_c, pm_k2_c, pm_k3_c, pm_s1_c, pm_s2_c, pm_s3_c, pm_s4_c, pm_ri_c, pm_ra_c, pm_rn_c, pm_rk_i, pm_rk_z, pm_rk_a, pm_vk_i, pm_vk_z, pm_vk_a, pm_cti, pm_ctr, pm_ldi_z, pm_ldi_s, pm_lda_z, pm_lda_s, pm_cat_n, pm_cat_i, pm_cat_r, pm_cat_l, pm_obj, pm_arr, pm_opt, List.getElem?_cons_zero, List.getElem?_cons_succ, List.set_cons_zero, List.set_cons_succ, List.length_cons, List.length_nil, List.length_set, true_and, and_true, Nat.add_zero, Nat.zero_add, Nat.le_refl, Nat.reduceAdd, Nat.reduceLT, Nat.reduceLeDiff, Nat.zero_le, not_false_eq_true, not_true_eq_false, false_implies, implies_true, true_implies, Nat.zero_lt_succ, Nat.lt_add_one, pm_tl_v, List.cons_append, List.nil_append, pm_k5_c, pm_tl_n, pm_tl_s, i1, i2, i3, i4, i5, hus2, c0, r0, hl]
  refine law_call X (idx := 150) (n := 4) (y := yL_meets) (cc := cL_meets) (maxL := 5) (hh := [(0, 10, 13, 13)]) (as := [.ref 0, .int (xs ((i + 1).toNatClampNeg)), .int (xs ((i + 2).toNatClampNeg)), .ref 124]) (by omega) hus hl (hp_meets (d := 458) (f := f) X.2.2.2.2.2.2.2.2.1 X.2.2.2.2.2.2.1 c0 (fun v h1 z => (hQ v h1 z).1.trans hf) (fun v h1 z => by
    rcases (hQ v h1 z).2.2 with ⟨y, hy, -⟩ | ⟨e, he, -⟩
    · exact Or.inl ⟨y, hy⟩
    · exact Or.inr ⟨e, he⟩) (fun e h1 z => by
    rcases (hQ _ h1 z).2.2 with ⟨y, hy, -⟩ | ⟨e9, he, hE, -⟩
    · cases hy
    · cases he
      exact hE) hW) (pm_w_in (j := 5133) (by decide +kernel)) (pm_w_in (j := 5131) (by decide +kernel)) (pm_w_in (j := 5132) (by decide +kernel)) (pm_w_in (j := 1000) (by decide +kernel)) (by decide +kernel) (by decide) rfl (by decide +kernel) ?_
  have hus2 : us + 6 ≤ 7293033 := hus
  intro v h1 l1 hp
  rcases hp with ⟨y, h9, hq, rfl, rfl⟩ | ⟨ev, he, hq, rfl⟩
  · rcases hQ _ _ hq with ⟨e1, ⟨fs, hm⟩, ⟨y', hy, P⟩ | ⟨e', hy, -⟩⟩
    · cases hy
      have l9 : h9.length = 125 := by rw [List.length_set] at l1; exact l1
      suffices key : ∀ h1 : pmH, h1 = h9.set 124 (.inl (3, 1, .inr (.inl (vp_updL f 0 y.toInt64)))) → SE p l e s m b0 below meth c Qf D ct b g (xo + 1) 958 [some (.ref 1000001), some (.ref 0), some (.ref 113), some (.ref 124), some (.int i), u5, u6] [.int 0] h1 (us + 6) from key _ rfl
      clear l1
      intro h1 hh1
      have f1 : ∀ i, i ≠ 124 → h1[i]? = h9[i]? := fun i hi => by rw [hh1]; exact List.getElem?_set_ne (fun z => hi z.symm)
      have f2 : h1[124]? = some (.inl (3, 1, .inr (.inl (vp_updL f 0 y.toInt64)))) := by rw [hh1]; exact List.getElem?_set_self (by omega)
      have l1 : h1.length = 125 := by rw [hh1, List.length_set]; exact l9
      clear hh1
      have r1 := lw_ird l1 L xs
      have hm1 := (f1 113 (by omega)).trans hm
      refine law_run X (by omega) lk_1 ?_
      show KL1 _ _ _ _ _ _ _ _ _
      simp only [g_958, g_960, g_961, g_962, g_964, g_965, g_966, g_967, g_968, g_970, g_971, g_972, g_973, pm_1i_c, pm_2i_c, pm_1l_c, pm_2l_c, pm_1a_c, pm_ia_c, pm_iia_c, pm_va_c, pm_cp_c, pm_k0_c, pm_k1_c, pm_k2_c, pm_k3_c, pm_s1_c, pm_s2_c, pm_s3_c, pm_s4_c, pm_ri_c, pm_ra_c, pm_rn_c, pm_rk_i, pm_rk_z, pm_rk_a, pm_vk_i, pm_vk_z, pm_vk_a, pm_cti, pm_ctr, pm_ldi_z, pm_ldi_s, pm_lda_z, pm_lda_s, pm_cat_n, pm_cat_i, pm_cat_r, pm_cat_l, pm_obj, pm_arr, pm_opt, List.getElem?_cons_zero, List.getElem?_cons_succ, List.set_cons_zero, List.set_cons_succ, List.length_cons, List.length_nil, List.length_set, true_and, and_true, Nat.add_zero, Nat.zero_add, Nat.le_refl, Nat.reduceAdd, Nat.reduceLT, Nat.reduceLeDiff, Nat.zero_le, not_false_eq_true, not_true_eq_false, false_implies, implies_true, true_implies, Nat.zero_lt_succ, Nat.lt_add_one, pm_tl_v, List.cons_append, List.nil_append, pm_k5_c, pm_tl_n, pm_tl_s, i1, i2, i3, i4, i5, hus2, hm1, r1, l1]
      refine PM_use (P h1 f1) ?_
      rintro w h3 l3 ⟨rfl, R3, e3⟩
      have l3' : h3.length = 125 := by omega
      obtain ⟨o3, m3, t3⟩ := R3.len
      have m3' := m3
      unfold mO at m3'
      have f3 := e3.trans f2
      show KL1 _ _ _ _ _ _ _ _ _
      simp only [g_976, g_978, g_979, pm_1i_c, pm_2i_c, pm_1l_c, pm_2l_c, pm_1a_c, pm_ia_c, pm_iia_c, pm_va_c, pm_cp_c, pm_k0_c, pm_k1_c, pm_k2_c, pm_k3_c, pm_s1_c, pm_s2_c, pm_s3_c, pm_s4_c, pm_ri_c, pm_ra_c, pm_rn_c, pm_rk_i, pm_rk_z, pm_rk_a, pm_vk_i, pm_vk_z, pm_vk_a, pm_cti, pm_ctr, pm_ldi_z, pm_ldi_s, pm_lda_z, pm_lda_s, pm_cat_n, pm_cat_i, pm_cat_r, pm_cat_l, pm_obj, pm_arr, pm_opt, List.getElem?_cons_zero, List.getElem?_cons_succ, List.set_cons_zero, List.set_cons_succ, List.length_cons, List.length_nil, List.length_set, true_and, and_true, Nat.add_zero, Nat.zero_add, Nat.le_refl, Nat.reduceAdd, Nat.reduceLT, Nat.reduceLeDiff, Nat.zero_le, not_false_eq_true, not_true_eq_false, false_implies, implies_true, true_implies, Nat.zero_lt_succ, Nat.lt_add_one, pm_tl_v, List.cons_append, List.nil_append, pm_k5_c, pm_tl_n, pm_tl_s, i1, i2, i3, i4, i5, hus2, m3', l3']
      refine PM_use (c_M_thrown m3 459) ?_
      rintro w9 h4 l4 ⟨rfl, rfl⟩
      show KL1 _ _ _ _ _ _ _ _ _
      simp only [g_982, g_984, g_987, g_989, g_991, g_994, g_995, g_996, g_997, g_999, g_1000, g_1001, g_1004, g_1006, g_1934, pm_1i_c, pm_2i_c, pm_1l_c, pm_2l_c, pm_1a_c, pm_ia_c, pm_iia_c, pm_va_c, pm_cp_c, pm_k0_c, pm_k1_c, pm_k2_c, pm_k3_c, pm_s1_c, pm_s2_c, pm_s3_c, pm_s4_c, pm_ri_c, pm_ra_c, pm_rn_c, pm_rk_i, pm_rk_z, pm_rk_a, pm_vk_i, pm_vk_z, pm_vk_a, pm_cti, pm_ctr, pm_ldi_z, pm_ldi_s, pm_lda_z, pm_lda_s, pm_cat_n, pm_cat_i, pm_cat_r, pm_cat_l, pm_obj, pm_arr, pm_opt, List.getElem?_cons_zero, List.getElem?_cons_succ, List.set_cons_zero, List.set_cons_succ, List.length_cons, List.length_nil, List.length_set, true_and, and_true, Nat.add_zero, Nat.zero_add, Nat.le_refl, Nat.reduceAdd, Nat.reduceLT, Nat.reduceLeDiff, Nat.zero_le, not_false_eq_true, not_true_eq_false, false_implies, implies_true, true_implies, Nat.zero_lt_succ, Nat.lt_add_one, pm_tl_v, List.cons_append, List.nil_append, pm_k5_c, pm_tl_n, pm_tl_s, i1, i2, i3, i4, i5, hus2, t3, f3, pm_arl, px_z0, px_in01, vp_updL_0, lg_cmp_s, eq_self]
      exact hT _ _ _ ⟨_, R3⟩ l3' ⟨_, f3⟩
    · cases hy
  · rcases hQ _ _ hq with ⟨e1, ⟨fs, hm⟩, ⟨y', hy, -⟩ | ⟨e', hy, hE, P⟩⟩
    · cases hy
    · cases hy
      have r1 := lw_ird l1 L xs
      have hk : ¬ (1 : Int32) = 0 := by decide
      refine law_run X (by omega) lk_1 ?_
      show KL1 _ _ _ _ _ _ _ _ _
      simp only [g_958, g_960, g_961, g_962, g_964, g_965, g_966, g_967, g_968, g_970, g_971, g_972, g_973, pm_1i_c, pm_2i_c, pm_1l_c, pm_2l_c, pm_1a_c, pm_ia_c, pm_iia_c, pm_va_c, pm_cp_c, pm_k0_c, pm_k1_c, pm_k2_c, pm_k3_c, pm_s1_c, pm_s2_c, pm_s3_c, pm_s4_c, pm_ri_c, pm_ra_c, pm_rn_c, pm_rk_i, pm_rk_z, pm_rk_a, pm_vk_i, pm_vk_z, pm_vk_a, pm_cti, pm_ctr, pm_ldi_z, pm_ldi_s, pm_lda_z, pm_lda_s, pm_cat_n, pm_cat_i, pm_cat_r, pm_cat_l, pm_obj, pm_arr, pm_opt, List.getElem?_cons_zero, List.getElem?_cons_succ, List.set_cons_zero, List.set_cons_succ, List.length_cons, List.length_nil, List.length_set, true_and, and_true, Nat.add_zero, Nat.zero_add, Nat.le_refl, Nat.reduceAdd, Nat.reduceLT, Nat.reduceLeDiff, Nat.zero_le, not_false_eq_true, not_true_eq_false, false_implies, implies_true, true_implies, Nat.zero_lt_succ, Nat.lt_add_one, pm_tl_v, List.cons_append, List.nil_append, pm_k5_c, pm_tl_n, pm_tl_s, i1, i2, i3, i4, i5, hus2, hm, r1, l1]
      refine PM_use P ?_
      rintro w h3 l3 ⟨⟨zz, rfl⟩, R3, e3⟩
      have l3' : h3.length = 125 := by omega
      obtain ⟨o3, m3, t3⟩ := R3.len
      have m3' := m3
      unfold mO at m3'
      have f3 := (e3.trans e1).trans hf
      show KL1 _ _ _ _ _ _ _ _ _
      simp only [g_976, g_978, g_979, pm_1i_c, pm_2i_c, pm_1l_c, pm_2l_c, pm_1a_c, pm_ia_c, pm_iia_c, pm_va_c, pm_cp_c, pm_k0_c, pm_k1_c, pm_k2_c, pm_k3_c, pm_s1_c, pm_s2_c, pm_s3_c, pm_s4_c, pm_ri_c, pm_ra_c, pm_rn_c, pm_rk_i, pm_rk_z, pm_rk_a, pm_vk_i, pm_vk_z, pm_vk_a, pm_cti, pm_ctr, pm_ldi_z, pm_ldi_s, pm_lda_z, pm_lda_s, pm_cat_n, pm_cat_i, pm_cat_r, pm_cat_l, pm_obj, pm_arr, pm_opt, List.getElem?_cons_zero, List.getElem?_cons_succ, List.set_cons_zero, List.set_cons_succ, List.length_cons, List.length_nil, List.length_set, true_and, and_true, Nat.add_zero, Nat.zero_add, Nat.le_refl, Nat.reduceAdd, Nat.reduceLT, Nat.reduceLeDiff, Nat.zero_le, not_false_eq_true, not_true_eq_false, false_implies, implies_true, true_implies, Nat.zero_lt_succ, Nat.lt_add_one, pm_tl_v, List.cons_append, List.nil_append, pm_k5_c, pm_tl_n, pm_tl_s, i1, i2, i3, i4, i5, hus2, m3', l3']
      refine PM_use (c_M_thrown m3 459) ?_
      rintro w9 h4 l4 ⟨rfl, rfl⟩
      show KL1 _ _ _ _ _ _ _ _ _
      simp only [g_982, g_984, g_987, g_989, g_991, g_994, g_995, g_996, g_997, g_999, g_1000, g_1001, g_1004, g_1006, g_1934, pm_1i_c, pm_2i_c, pm_1l_c, pm_2l_c, pm_1a_c, pm_ia_c, pm_iia_c, pm_va_c, pm_cp_c, pm_k0_c, pm_k1_c, pm_k2_c, pm_k3_c, pm_s1_c, pm_s2_c, pm_s3_c, pm_s4_c, pm_ri_c, pm_ra_c, pm_rn_c, pm_rk_i, pm_rk_z, pm_rk_a, pm_vk_i, pm_vk_z, pm_vk_a, pm_cti, pm_ctr, pm_ldi_z, pm_ldi_s, pm_lda_z, pm_lda_s, pm_cat_n, pm_cat_i, pm_cat_r, pm_cat_l, pm_obj, pm_arr, pm_opt, List.getElem?_cons_zero, List.getElem?_cons_succ, List.set_cons_zero, List.set_cons_succ, List.length_cons, List.length_nil, List.length_set, true_and, and_true, Nat.add_zero, Nat.zero_add, Nat.le_refl, Nat.reduceAdd, Nat.reduceLT, Nat.reduceLeDiff, Nat.zero_le, not_false_eq_true, not_true_eq_false, false_implies, implies_true, true_implies, Nat.zero_lt_succ, Nat.lt_add_one, pm_tl_v, List.cons_append, List.nil_append, pm_k5_c, pm_tl_n, pm_tl_s, i1, i2, i3, i4, i5, hus2, t3, hk]
      exact hT _ _ _ ⟨_, R3⟩ l3' ⟨_, f3⟩
theorem ct_noted (X : CX p l s m b0 meth c D ct b g adV L xs) (hxo : xo ≤ 900) {us : Nat} (hus : us + 6 ≤ 7293033) {th i : Int32} {u5 u6 : Option Value} {h : pmH} (R : RZ th h) (hl : h.length = 125) (hf : LG h) (i1 : vp_in (i + 1) L) (i2 : vp_in (i + 2) L) (i3 : vp_in (i + 3) L) (i4 : vp_in (i + 4) L) (i5 : vp_in (i + 5) L)  (hT : ∀ (u5 u6 : Option Value) (h2 : pmH), (∃ th, RZ th h2) → h2.length = 125 → LG h2 → SE p l e s m b0 below meth c Qf D ct b g (xo + 1) 1934 [some (.ref 1000001), some (.ref 0), some (.ref 113), some (.ref 124), some (.int i), u5, u6] [] h2 (us + 6)) : SE p l e s m b0 below meth c Qf D ct b g xo 1009 [some (.ref 1000001), some (.ref 0), some (.ref 113), some (.ref 124), some (.int i), u5, u6] [] h us := by
  obtain ⟨bs, ws, A, K, o, S, -⟩ := R
  have c0 := S.C.o
  have r0 := lw_ird hl L xs
  obtain ⟨f, hf⟩ := hf
  have hus2 : us ≤ 7293033 := by omega
  obtain ⟨Q, hW, hQ⟩ := tr_noted S hl (xs ((i + 1).toNatClampNeg))
  refine law_run X (by omega) lk_1 ?_
  show KL1 _ _ _ _ _ _ _ _ _
  simp only [g_1009, g_1010, g_1011, g_1013, g_1014, g_1015, g_1016, g_1017, pm_1i_c, pm_2i_c, pm_1l_c, pm_2l_c, pm_1a_c, pm_ia_c, pm_iia_c, pm_va_c, pm_cp_c, pm_k0_c, pm_k1_c, pm_k2_c, pm_k3_c, pm_s1_c, pm_s2_c, pm_s3_c, pm_s4_c, pm_ri_c, pm_ra_c, pm_rn_c, pm_rk_i, pm_rk_z, pm_rk_a, pm_vk_i, pm_vk_z, pm_vk_a, pm_cti, pm_ctr, pm_ldi_z, pm_ldi_s, pm_lda_z, pm_lda_s, pm_cat_n, pm_cat_i, pm_cat_r, pm_cat_l, pm_obj, pm_arr, pm_opt, List.getElem?_cons_zero, List.getElem?_cons_succ, List.set_cons_zero, List.set_cons_succ, List.length_cons, List.length_nil, List.length_set, true_and, and_true, Nat.add_zero, Nat.zero_add, Nat.le_refl, Nat.reduceAdd, Nat.reduceLT, Nat.reduceLeDiff, Nat.zero_le, not_false_eq_true, not_true_eq_false, false_implies, implies_true, true_implies, Nat.zero_lt_succ, Nat.lt_add_one, pm_tl_v, List.cons_append, List.nil_append, pm_k5_c, pm_tl_n, pm_tl_s, i1, i2, i3, i4, i5, hus2, c0, r0, hl]
  refine law_call X (idx := 153) (n := 3) (y := yL_noted) (cc := cL_noted) (maxL := 4) (hh := [(0, 16, 19, 13)]) (as := [.ref 0, .int (xs ((i + 1).toNatClampNeg)), .ref 124]) (by omega) hus hl (hp_noted (d := 458) (f := f) X.2.2.2.2.2.2.2.2.1 X.2.2.2.2.2.2.1 c0 (fun v h1 z => (hQ v h1 z).1.trans hf) (fun v h1 z => by
    rcases (hQ v h1 z).2.2 with ⟨y, hy, -⟩ | ⟨e, he, -⟩
    · exact Or.inl ⟨y, hy⟩
    · exact Or.inr ⟨e, he⟩) (fun e h1 z => by
    rcases (hQ _ h1 z).2.2 with ⟨y, hy, -⟩ | ⟨e9, he, hE, -⟩
    · cases hy
    · cases he
      exact hE) hW) (pm_w_in (j := 5145) (by decide +kernel)) (pm_w_in (j := 5143) (by decide +kernel)) (pm_w_in (j := 5144) (by decide +kernel)) (pm_w_in (j := 1000) (by decide +kernel)) (by decide +kernel) (by decide) rfl (by decide +kernel) ?_
  have hus2 : us + 6 ≤ 7293033 := hus
  intro v h1 l1 hp
  rcases hp with ⟨y, h9, hq, rfl, rfl⟩ | ⟨ev, he, hq, rfl⟩
  · rcases hQ _ _ hq with ⟨e1, ⟨fs, hm⟩, ⟨y', hy, P⟩ | ⟨e', hy, -⟩⟩
    · cases hy
      have l9 : h9.length = 125 := by rw [List.length_set] at l1; exact l1
      suffices key : ∀ h1 : pmH, h1 = h9.set 124 (.inl (3, 1, .inr (.inl (vp_updL f 0 (if y = 0 then 0 else 1 : Int64))))) → SE p l e s m b0 below meth c Qf D ct b g (xo + 1) 1020 [some (.ref 1000001), some (.ref 0), some (.ref 113), some (.ref 124), some (.int i), u5, u6] [.int 0] h1 (us + 6) from key _ rfl
      clear l1
      intro h1 hh1
      have f1 : ∀ i, i ≠ 124 → h1[i]? = h9[i]? := fun i hi => by rw [hh1]; exact List.getElem?_set_ne (fun z => hi z.symm)
      have f2 : h1[124]? = some (.inl (3, 1, .inr (.inl (vp_updL f 0 (if y = 0 then 0 else 1 : Int64))))) := by rw [hh1]; exact List.getElem?_set_self (by omega)
      have l1 : h1.length = 125 := by rw [hh1, List.length_set]; exact l9
      clear hh1
      have r1 := lw_ird l1 L xs
      have hm1 := (f1 113 (by omega)).trans hm
      refine law_run X (by omega) lk_1 ?_
      show KL1 _ _ _ _ _ _ _ _ _
      simp only [g_1020, g_1022, g_1023, g_1024, g_1026, g_1027, g_1028, g_1029, pm_1i_c, pm_2i_c, pm_1l_c, pm_2l_c, pm_1a_c, pm_ia_c, pm_iia_c, pm_va_c, pm_cp_c, pm_k0_c, pm_k1_c, pm_k2_c, pm_k3_c, pm_s1_c, pm_s2_c, pm_s3_c, pm_s4_c, pm_ri_c, pm_ra_c, pm_rn_c, pm_rk_i, pm_rk_z, pm_rk_a, pm_vk_i, pm_vk_z, pm_vk_a, pm_cti, pm_ctr, pm_ldi_z, pm_ldi_s, pm_lda_z, pm_lda_s, pm_cat_n, pm_cat_i, pm_cat_r, pm_cat_l, pm_obj, pm_arr, pm_opt, List.getElem?_cons_zero, List.getElem?_cons_succ, List.set_cons_zero, List.set_cons_succ, List.length_cons, List.length_nil, List.length_set, true_and, and_true, Nat.add_zero, Nat.zero_add, Nat.le_refl, Nat.reduceAdd, Nat.reduceLT, Nat.reduceLeDiff, Nat.zero_le, not_false_eq_true, not_true_eq_false, false_implies, implies_true, true_implies, Nat.zero_lt_succ, Nat.lt_add_one, pm_tl_v, List.cons_append, List.nil_append, pm_k5_c, pm_tl_n, pm_tl_s, i1, i2, i3, i4, i5, hus2, hm1, r1, l1]
      refine PM_use (P h1 f1) ?_
      rintro w h3 l3 ⟨rfl, R3, e3⟩
      have l3' : h3.length = 125 := by omega
      obtain ⟨o3, m3, t3⟩ := R3.len
      have m3' := m3
      unfold mO at m3'
      have f3 := e3.trans f2
      show KL1 _ _ _ _ _ _ _ _ _
      simp only [g_1032, g_1034, g_1035, pm_1i_c, pm_2i_c, pm_1l_c, pm_2l_c, pm_1a_c, pm_ia_c, pm_iia_c, pm_va_c, pm_cp_c, pm_k0_c, pm_k1_c, pm_k2_c, pm_k3_c, pm_s1_c, pm_s2_c, pm_s3_c, pm_s4_c, pm_ri_c, pm_ra_c, pm_rn_c, pm_rk_i, pm_rk_z, pm_rk_a, pm_vk_i, pm_vk_z, pm_vk_a, pm_cti, pm_ctr, pm_ldi_z, pm_ldi_s, pm_lda_z, pm_lda_s, pm_cat_n, pm_cat_i, pm_cat_r, pm_cat_l, pm_obj, pm_arr, pm_opt, List.getElem?_cons_zero, List.getElem?_cons_succ, List.set_cons_zero, List.set_cons_succ, List.length_cons, List.length_nil, List.length_set, true_and, and_true, Nat.add_zero, Nat.zero_add, Nat.le_refl, Nat.reduceAdd, Nat.reduceLT, Nat.reduceLeDiff, Nat.zero_le, not_false_eq_true, not_true_eq_false, false_implies, implies_true, true_implies, Nat.zero_lt_succ, Nat.lt_add_one, pm_tl_v, List.cons_append, List.nil_append, pm_k5_c, pm_tl_n, pm_tl_s, i1, i2, i3, i4, i5, hus2, m3', l3']
      refine PM_use (c_M_thrown m3 459) ?_
      rintro w9 h4 l4 ⟨rfl, rfl⟩
      show KL1 _ _ _ _ _ _ _ _ _
      by_cases z : y = 0
      · subst z
        simp only [eq_self, if_true] at f3
        simp only [g_1038, g_1040, g_1043, g_1045, g_1047, g_1050, g_1051, g_1052, g_1053, g_1055, g_1058, g_1059, g_1062, g_1063, g_1064, g_1067, g_1069, g_1934, pm_1i_c, pm_2i_c, pm_1l_c, pm_2l_c, pm_1a_c, pm_ia_c, pm_iia_c, pm_va_c, pm_cp_c, pm_k0_c, pm_k1_c, pm_k2_c, pm_k3_c, pm_s1_c, pm_s2_c, pm_s3_c, pm_s4_c, pm_ri_c, pm_ra_c, pm_rn_c, pm_rk_i, pm_rk_z, pm_rk_a, pm_vk_i, pm_vk_z, pm_vk_a, pm_cti, pm_ctr, pm_ldi_z, pm_ldi_s, pm_lda_z, pm_lda_s, pm_cat_n, pm_cat_i, pm_cat_r, pm_cat_l, pm_obj, pm_arr, pm_opt, List.getElem?_cons_zero, List.getElem?_cons_succ, List.set_cons_zero, List.set_cons_succ, List.length_cons, List.length_nil, List.length_set, true_and, and_true, Nat.add_zero, Nat.zero_add, Nat.le_refl, Nat.reduceAdd, Nat.reduceLT, Nat.reduceLeDiff, Nat.zero_le, not_false_eq_true, not_true_eq_false, false_implies, implies_true, true_implies, Nat.zero_lt_succ, Nat.lt_add_one, pm_tl_v, List.cons_append, List.nil_append, pm_k5_c, pm_tl_n, pm_tl_s, i1, i2, i3, i4, i5, hus2, t3, f3, pm_arl, px_z0, px_in01, vp_updL_0, lg_cmp_s, eq_self]
        exact hT _ _ _ ⟨_, R3⟩ l3' ⟨_, f3⟩
      · simp only [if_neg z] at f3
        simp only [g_1038, g_1040, g_1043, g_1045, g_1047, g_1050, g_1051, g_1052, g_1053, g_1055, g_1058, g_1059, g_1062, g_1063, g_1064, g_1067, g_1069, g_1934, pm_1i_c, pm_2i_c, pm_1l_c, pm_2l_c, pm_1a_c, pm_ia_c, pm_iia_c, pm_va_c, pm_cp_c, pm_k0_c, pm_k1_c, pm_k2_c, pm_k3_c, pm_s1_c, pm_s2_c, pm_s3_c, pm_s4_c, pm_ri_c, pm_ra_c, pm_rn_c, pm_rk_i, pm_rk_z, pm_rk_a, pm_vk_i, pm_vk_z, pm_vk_a, pm_cti, pm_ctr, pm_ldi_z, pm_ldi_s, pm_lda_z, pm_lda_s, pm_cat_n, pm_cat_i, pm_cat_r, pm_cat_l, pm_obj, pm_arr, pm_opt, List.getElem?_cons_zero, List.getElem?_cons_succ, List.set_cons_zero, List.set_cons_succ, List.length_cons, List.length_nil, List.length_set, true_and, and_true, Nat.add_zero, Nat.zero_add, Nat.le_refl, Nat.reduceAdd, Nat.reduceLT, Nat.reduceLeDiff, Nat.zero_le, not_false_eq_true, not_true_eq_false, false_implies, implies_true, true_implies, Nat.zero_lt_succ, Nat.lt_add_one, pm_tl_v, List.cons_append, List.nil_append, pm_k5_c, pm_tl_n, pm_tl_s, i1, i2, i3, i4, i5, hus2, t3, f3, pm_arl, px_z0, px_in01, vp_updL_0, lg_cmp_s, eq_self, z]
        exact hT _ _ _ ⟨_, R3⟩ l3' ⟨_, f3⟩
    · cases hy
  · rcases hQ _ _ hq with ⟨e1, ⟨fs, hm⟩, ⟨y', hy, -⟩ | ⟨e', hy, hE, P⟩⟩
    · cases hy
    · cases hy
      have r1 := lw_ird l1 L xs
      have hk : ¬ (1 : Int32) = 0 := by decide
      refine law_run X (by omega) lk_1 ?_
      show KL1 _ _ _ _ _ _ _ _ _
      simp only [g_1020, g_1022, g_1023, g_1024, g_1026, g_1027, g_1028, g_1029, pm_1i_c, pm_2i_c, pm_1l_c, pm_2l_c, pm_1a_c, pm_ia_c, pm_iia_c, pm_va_c, pm_cp_c, pm_k0_c, pm_k1_c, pm_k2_c, pm_k3_c, pm_s1_c, pm_s2_c, pm_s3_c, pm_s4_c, pm_ri_c, pm_ra_c, pm_rn_c, pm_rk_i, pm_rk_z, pm_rk_a, pm_vk_i, pm_vk_z, pm_vk_a, pm_cti, pm_ctr, pm_ldi_z, pm_ldi_s, pm_lda_z, pm_lda_s, pm_cat_n, pm_cat_i, pm_cat_r, pm_cat_l, pm_obj, pm_arr, pm_opt, List.getElem?_cons_zero, List.getElem?_cons_succ, List.set_cons_zero, List.set_cons_succ, List.length_cons, List.length_nil, List.length_set, true_and, and_true, Nat.add_zero, Nat.zero_add, Nat.le_refl, Nat.reduceAdd, Nat.reduceLT, Nat.reduceLeDiff, Nat.zero_le, not_false_eq_true, not_true_eq_false, false_implies, implies_true, true_implies, Nat.zero_lt_succ, Nat.lt_add_one, pm_tl_v, List.cons_append, List.nil_append, pm_k5_c, pm_tl_n, pm_tl_s, i1, i2, i3, i4, i5, hus2, hm, r1, l1]
      refine PM_use P ?_
      rintro w h3 l3 ⟨⟨zz, rfl⟩, R3, e3⟩
      have l3' : h3.length = 125 := by omega
      obtain ⟨o3, m3, t3⟩ := R3.len
      have m3' := m3
      unfold mO at m3'
      have f3 := (e3.trans e1).trans hf
      show KL1 _ _ _ _ _ _ _ _ _
      simp only [g_1032, g_1034, g_1035, pm_1i_c, pm_2i_c, pm_1l_c, pm_2l_c, pm_1a_c, pm_ia_c, pm_iia_c, pm_va_c, pm_cp_c, pm_k0_c, pm_k1_c, pm_k2_c, pm_k3_c, pm_s1_c, pm_s2_c, pm_s3_c, pm_s4_c, pm_ri_c, pm_ra_c, pm_rn_c, pm_rk_i, pm_rk_z, pm_rk_a, pm_vk_i, pm_vk_z, pm_vk_a, pm_cti, pm_ctr, pm_ldi_z, pm_ldi_s, pm_lda_z, pm_lda_s, pm_cat_n, pm_cat_i, pm_cat_r, pm_cat_l, pm_obj, pm_arr, pm_opt, List.getElem?_cons_zero, List.getElem?_cons_succ, List.set_cons_zero, List.set_cons_succ, List.length_cons, List.length_nil, List.length_set, true_and, and_true, Nat.add_zero, Nat.zero_add, Nat.le_refl, Nat.reduceAdd, Nat.reduceLT, Nat.reduceLeDiff, Nat.zero_le, not_false_eq_true, not_true_eq_false, false_implies, implies_true, true_implies, Nat.zero_lt_succ, Nat.lt_add_one, pm_tl_v, List.cons_append, List.nil_append, pm_k5_c, pm_tl_n, pm_tl_s, i1, i2, i3, i4, i5, hus2, m3', l3']
      refine PM_use (c_M_thrown m3 459) ?_
      rintro w9 h4 l4 ⟨rfl, rfl⟩
      show KL1 _ _ _ _ _ _ _ _ _
      simp only [g_1038, g_1040, g_1043, g_1045, g_1047, g_1050, g_1051, g_1052, g_1053, g_1055, g_1058, g_1059, g_1062, g_1063, g_1064, g_1067, g_1069, g_1934, pm_1i_c, pm_2i_c, pm_1l_c, pm_2l_c, pm_1a_c, pm_ia_c, pm_iia_c, pm_va_c, pm_cp_c, pm_k0_c, pm_k1_c, pm_k2_c, pm_k3_c, pm_s1_c, pm_s2_c, pm_s3_c, pm_s4_c, pm_ri_c, pm_ra_c, pm_rn_c, pm_rk_i, pm_rk_z, pm_rk_a, pm_vk_i, pm_vk_z, pm_vk_a, pm_cti, pm_ctr, pm_ldi_z, pm_ldi_s, pm_lda_z, pm_lda_s, pm_cat_n, pm_cat_i, pm_cat_r, pm_cat_l, pm_obj, pm_arr, pm_opt, List.getElem?_cons_zero, List.getElem?_cons_succ, List.set_cons_zero, List.set_cons_succ, List.length_cons, List.length_nil, List.length_set, true_and, and_true, Nat.add_zero, Nat.zero_add, Nat.le_refl, Nat.reduceAdd, Nat.reduceLT, Nat.reduceLeDiff, Nat.zero_le, not_false_eq_true, not_true_eq_false, false_implies, implies_true, true_implies, Nat.zero_lt_succ, Nat.lt_add_one, pm_tl_v, List.cons_append, List.nil_append, pm_k5_c, pm_tl_n, pm_tl_s, i1, i2, i3, i4, i5, hus2, t3, hk]
      exact hT _ _ _ ⟨_, R3⟩ l3' ⟨_, f3⟩
theorem cs_halve (X : CX p l s m b0 meth c D ct b g adV L xs) (hxo : xo ≤ 900) {us : Nat} (hus : us + 6 ≤ 7293033) {th i : Int32} {u5 u6 : Option Value} {h : pmH} (R : RZ th h) (hl : h.length = 125) (hf : LG h) (i1 : vp_in (i + 1) L) (i2 : vp_in (i + 2) L) (i3 : vp_in (i + 3) L) (i4 : vp_in (i + 4) L) (i5 : vp_in (i + 5) L)  (hT : ∀ (u5 u6 : Option Value) (h2 : pmH), (∃ th, RZ th h2) → h2.length = 125 → LG h2 → SE p l e s m b0 below meth c Qf D ct b g xo 1934 [some (.ref 1000001), some (.ref 0), some (.ref 113), some (.ref 124), some (.int i), u5, u6] [] h2 us) : SE p l e s m b0 below meth c Qf D ct b g xo 1072 [some (.ref 1000001), some (.ref 0), some (.ref 113), some (.ref 124), some (.int i), u5, u6] [] h us := by
  obtain ⟨bs, ws, A, K, o, S, -⟩ := R
  have c0 := S.C.o
  have r0 := lw_ird hl L xs
  have hus2 : us ≤ 7293033 := by omega
  refine law_run X (by omega) lk_1 ?_
  show KL1 _ _ _ _ _ _ _ _ _
  simp only [g_1072, g_1073, pm_1i_c, pm_2i_c, pm_1l_c, pm_2l_c, pm_1a_c, pm_ia_c, pm_iia_c, pm_va_c, pm_cp_c, pm_k0_c, pm_k1_c, pm_k2_c, pm_k3_c, pm_s1_c, pm_s2_c, pm_s3_c, pm_s4_c, pm_ri_c, pm_ra_c, pm_rn_c, pm_rk_i, pm_rk_z, pm_rk_a, pm_vk_i, pm_vk_z, pm_vk_a, pm_cti, pm_ctr, pm_ldi_z, pm_ldi_s, pm_lda_z, pm_lda_s, pm_cat_n, pm_cat_i, pm_cat_r, pm_cat_l, pm_obj, pm_arr, pm_opt, List.getElem?_cons_zero, List.getElem?_cons_succ, List.set_cons_zero, List.set_cons_succ, List.length_cons, List.length_nil, List.length_set, true_and, and_true, Nat.add_zero, Nat.zero_add, Nat.le_refl, Nat.reduceAdd, Nat.reduceLT, Nat.reduceLeDiff, Nat.zero_le, not_false_eq_true, not_true_eq_false, false_implies, implies_true, true_implies, Nat.zero_lt_succ, Nat.lt_add_one, pm_tl_v, List.cons_append, List.nil_append, pm_k5_c, pm_tl_n, pm_tl_s, i1, i2, i3, i4, i5, hus2, c0, r0, hl]
  refine PM_use (pr_halve S hl) ?_
  rintro v h1 l1 ⟨y, rfl, e1, ⟨fs, hm⟩, P⟩
  have l1' : h1.length = 125 := by omega
  have r1 := lw_ird l1' L xs
  show KL1 _ _ _ _ _ _ _ _ _
  simp only [g_1076, g_1077, pm_1i_c, pm_2i_c, pm_1l_c, pm_2l_c, pm_1a_c, pm_ia_c, pm_iia_c, pm_va_c, pm_cp_c, pm_k0_c, pm_k1_c, pm_k2_c, pm_k3_c, pm_s1_c, pm_s2_c, pm_s3_c, pm_s4_c, pm_ri_c, pm_ra_c, pm_rn_c, pm_rk_i, pm_rk_z, pm_rk_a, pm_vk_i, pm_vk_z, pm_vk_a, pm_cti, pm_ctr, pm_ldi_z, pm_ldi_s, pm_lda_z, pm_lda_s, pm_cat_n, pm_cat_i, pm_cat_r, pm_cat_l, pm_obj, pm_arr, pm_opt, List.getElem?_cons_zero, List.getElem?_cons_succ, List.set_cons_zero, List.set_cons_succ, List.length_cons, List.length_nil, List.length_set, true_and, and_true, Nat.add_zero, Nat.zero_add, Nat.le_refl, Nat.reduceAdd, Nat.reduceLT, Nat.reduceLeDiff, Nat.zero_le, not_false_eq_true, not_true_eq_false, false_implies, implies_true, true_implies, Nat.zero_lt_succ, Nat.lt_add_one, pm_tl_v, List.cons_append, List.nil_append, pm_k5_c, pm_tl_n, pm_tl_s, i1, i2, i3, i4, i5, hus2, hm, r1, l1']
  refine PM_use P ?_
  rintro w h2 l2 ⟨rfl, R2, e2⟩
  show KL1 _ _ _ _ _ _ _ _ _
  simp only [g_1080, g_1083, g_1934, pm_1i_c, pm_2i_c, pm_1l_c, pm_2l_c, pm_1a_c, pm_ia_c, pm_iia_c, pm_va_c, pm_cp_c, pm_k0_c, pm_k1_c, pm_k2_c, pm_k3_c, pm_s1_c, pm_s2_c, pm_s3_c, pm_s4_c, pm_ri_c, pm_ra_c, pm_rn_c, pm_rk_i, pm_rk_z, pm_rk_a, pm_vk_i, pm_vk_z, pm_vk_a, pm_cti, pm_ctr, pm_ldi_z, pm_ldi_s, pm_lda_z, pm_lda_s, pm_cat_n, pm_cat_i, pm_cat_r, pm_cat_l, pm_obj, pm_arr, pm_opt, List.getElem?_cons_zero, List.getElem?_cons_succ, List.set_cons_zero, List.set_cons_succ, List.length_cons, List.length_nil, List.length_set, true_and, and_true, Nat.add_zero, Nat.zero_add, Nat.le_refl, Nat.reduceAdd, Nat.reduceLT, Nat.reduceLeDiff, Nat.zero_le, not_false_eq_true, not_true_eq_false, false_implies, implies_true, true_implies, Nat.zero_lt_succ, Nat.lt_add_one, pm_tl_v, List.cons_append, List.nil_append, pm_k5_c, pm_tl_n, pm_tl_s, i1, i2, i3, i4, i5, hus2]
  exact hT _ _ h2 ⟨_, R2⟩ (by omega) (by obtain ⟨f, hf⟩ := hf; exact ⟨f, (e2.trans e1).trans hf⟩)
theorem ct_wins (X : CX p l s m b0 meth c D ct b g adV L xs) (hxo : xo ≤ 900) {us : Nat} (hus : us + 6 ≤ 7293033) {th i : Int32} {u5 u6 : Option Value} {h : pmH} (R : RZ th h) (hl : h.length = 125) (hf : LG h) (i1 : vp_in (i + 1) L) (i2 : vp_in (i + 2) L) (i3 : vp_in (i + 3) L) (i4 : vp_in (i + 4) L) (i5 : vp_in (i + 5) L)  (hT : ∀ (u5 u6 : Option Value) (h2 : pmH), (∃ th, RZ th h2) → h2.length = 125 → LG h2 → SE p l e s m b0 below meth c Qf D ct b g (xo + 1) 1934 [some (.ref 1000001), some (.ref 0), some (.ref 113), some (.ref 124), some (.int i), u5, u6] [] h2 (us + 6)) : SE p l e s m b0 below meth c Qf D ct b g xo 1085 [some (.ref 1000001), some (.ref 0), some (.ref 113), some (.ref 124), some (.int i), u5, u6] [] h us := by
  obtain ⟨bs, ws, A, K, o, S, -⟩ := R
  have c0 := S.C.o
  have r0 := lw_ird hl L xs
  obtain ⟨f, hf⟩ := hf
  have hus2 : us ≤ 7293033 := by omega
  obtain ⟨Q, hW, hQ⟩ := tr_wins S hl (xs ((i + 1).toNatClampNeg)) (xs ((i + 2).toNatClampNeg))
  refine law_run X (by omega) lk_1 ?_
  show KL1 _ _ _ _ _ _ _ _ _
  simp only [g_1085, g_1086, g_1087, g_1089, g_1090, g_1091, g_1092, g_1093, g_1095, g_1096, g_1097, g_1098, g_1099, pm_1i_c, pm_2i_c, pm_1l_c, pm_2l_c, pm_1a_c, pm_ia_c, pm_iia_c, pm_va_c, pm_cp_c, pm_k0_c, pm_k1_c, pm_k2_c, pm_k3_c, pm_s1_c, pm_s2_c, pm_s3_c, pm_s4_c, pm_ri_c, pm_ra_c, pm_rn_c, pm_rk_i, pm_rk_z, pm_rk_a, pm_vk_i, pm_vk_z, pm_vk_a, pm_cti, pm_ctr, pm_ldi_z, pm_ldi_s, pm_lda_z, pm_lda_s, pm_cat_n, pm_cat_i, pm_cat_r, pm_cat_l, pm_obj, pm_arr, pm_opt, List.getElem?_cons_zero, List.getElem?_cons_succ, List.set_cons_zero, List.set_cons_succ, List.length_cons, List.length_nil, List.length_set, true_and, and_true, Nat.add_zero, Nat.zero_add, Nat.le_refl, Nat.reduceAdd, Nat.reduceLT, Nat.reduceLeDiff, Nat.zero_le, not_false_eq_true, not_true_eq_false, false_implies, implies_true, true_implies, Nat.zero_lt_succ, Nat.lt_add_one, pm_tl_v, List.cons_append, List.nil_append, pm_k5_c, pm_tl_n, pm_tl_s, i1, i2, i3, i4, i5, hus2, c0, r0, hl]
  refine law_call X (idx := 160) (n := 4) (y := yL_wins) (cc := cL_wins) (maxL := 5) (hh := [(0, 17, 20, 13)]) (as := [.ref 0, .int (xs ((i + 1).toNatClampNeg)), .int (xs ((i + 2).toNatClampNeg)), .ref 124]) (by omega) hus hl (hp_wins (d := 458) (f := f) X.2.2.2.2.2.2.2.2.1 X.2.2.2.2.2.2.1 c0 (fun v h1 z => (hQ v h1 z).1.trans hf) (fun v h1 z => by
    rcases (hQ v h1 z).2.2 with ⟨y, hy, -⟩ | ⟨e, he, -⟩
    · exact Or.inl ⟨y, hy⟩
    · exact Or.inr ⟨e, he⟩) (fun e h1 z => by
    rcases (hQ _ h1 z).2.2 with ⟨y, hy, -⟩ | ⟨e9, he, hE, -⟩
    · cases hy
    · cases he
      exact hE) hW) (pm_w_in (j := 5153) (by decide +kernel)) (pm_w_in (j := 5151) (by decide +kernel)) (pm_w_in (j := 5152) (by decide +kernel)) (pm_w_in (j := 1000) (by decide +kernel)) (by decide +kernel) (by decide) rfl (by decide +kernel) ?_
  have hus2 : us + 6 ≤ 7293033 := hus
  intro v h1 l1 hp
  rcases hp with ⟨y, h9, hq, rfl, rfl⟩ | ⟨ev, he, hq, rfl⟩
  · rcases hQ _ _ hq with ⟨e1, ⟨fs, hm⟩, ⟨y', hy, P⟩ | ⟨e', hy, -⟩⟩
    · cases hy
      have l9 : h9.length = 125 := by rw [List.length_set] at l1; exact l1
      suffices key : ∀ h1 : pmH, h1 = h9.set 124 (.inl (3, 1, .inr (.inl (vp_updL f 0 (if y = 0 then 0 else 1 : Int64))))) → SE p l e s m b0 below meth c Qf D ct b g (xo + 1) 1102 [some (.ref 1000001), some (.ref 0), some (.ref 113), some (.ref 124), some (.int i), u5, u6] [.int 0] h1 (us + 6) from key _ rfl
      clear l1
      intro h1 hh1
      have f1 : ∀ i, i ≠ 124 → h1[i]? = h9[i]? := fun i hi => by rw [hh1]; exact List.getElem?_set_ne (fun z => hi z.symm)
      have f2 : h1[124]? = some (.inl (3, 1, .inr (.inl (vp_updL f 0 (if y = 0 then 0 else 1 : Int64))))) := by rw [hh1]; exact List.getElem?_set_self (by omega)
      have l1 : h1.length = 125 := by rw [hh1, List.length_set]; exact l9
      clear hh1
      have r1 := lw_ird l1 L xs
      have hm1 := (f1 113 (by omega)).trans hm
      refine law_run X (by omega) lk_1 ?_
      show KL1 _ _ _ _ _ _ _ _ _
      simp only [g_1102, g_1104, g_1105, g_1106, g_1108, g_1109, g_1110, g_1111, g_1112, g_1114, g_1115, g_1116, g_1117, pm_1i_c, pm_2i_c, pm_1l_c, pm_2l_c, pm_1a_c, pm_ia_c, pm_iia_c, pm_va_c, pm_cp_c, pm_k0_c, pm_k1_c, pm_k2_c, pm_k3_c, pm_s1_c, pm_s2_c, pm_s3_c, pm_s4_c, pm_ri_c, pm_ra_c, pm_rn_c, pm_rk_i, pm_rk_z, pm_rk_a, pm_vk_i, pm_vk_z, pm_vk_a, pm_cti, pm_ctr, pm_ldi_z, pm_ldi_s, pm_lda_z, pm_lda_s, pm_cat_n, pm_cat_i, pm_cat_r, pm_cat_l, pm_obj, pm_arr, pm_opt, List.getElem?_cons_zero, List.getElem?_cons_succ, List.set_cons_zero, List.set_cons_succ, List.length_cons, List.length_nil, List.length_set, true_and, and_true, Nat.add_zero, Nat.zero_add, Nat.le_refl, Nat.reduceAdd, Nat.reduceLT, Nat.reduceLeDiff, Nat.zero_le, not_false_eq_true, not_true_eq_false, false_implies, implies_true, true_implies, Nat.zero_lt_succ, Nat.lt_add_one, pm_tl_v, List.cons_append, List.nil_append, pm_k5_c, pm_tl_n, pm_tl_s, i1, i2, i3, i4, i5, hus2, hm1, r1, l1]
      refine PM_use (P h1 f1) ?_
      rintro w h3 l3 ⟨rfl, R3, e3⟩
      have l3' : h3.length = 125 := by omega
      obtain ⟨o3, m3, t3⟩ := R3.len
      have m3' := m3
      unfold mO at m3'
      have f3 := e3.trans f2
      show KL1 _ _ _ _ _ _ _ _ _
      simp only [g_1120, g_1122, g_1123, pm_1i_c, pm_2i_c, pm_1l_c, pm_2l_c, pm_1a_c, pm_ia_c, pm_iia_c, pm_va_c, pm_cp_c, pm_k0_c, pm_k1_c, pm_k2_c, pm_k3_c, pm_s1_c, pm_s2_c, pm_s3_c, pm_s4_c, pm_ri_c, pm_ra_c, pm_rn_c, pm_rk_i, pm_rk_z, pm_rk_a, pm_vk_i, pm_vk_z, pm_vk_a, pm_cti, pm_ctr, pm_ldi_z, pm_ldi_s, pm_lda_z, pm_lda_s, pm_cat_n, pm_cat_i, pm_cat_r, pm_cat_l, pm_obj, pm_arr, pm_opt, List.getElem?_cons_zero, List.getElem?_cons_succ, List.set_cons_zero, List.set_cons_succ, List.length_cons, List.length_nil, List.length_set, true_and, and_true, Nat.add_zero, Nat.zero_add, Nat.le_refl, Nat.reduceAdd, Nat.reduceLT, Nat.reduceLeDiff, Nat.zero_le, not_false_eq_true, not_true_eq_false, false_implies, implies_true, true_implies, Nat.zero_lt_succ, Nat.lt_add_one, pm_tl_v, List.cons_append, List.nil_append, pm_k5_c, pm_tl_n, pm_tl_s, i1, i2, i3, i4, i5, hus2, m3', l3']
      refine PM_use (c_M_thrown m3 459) ?_
      rintro w9 h4 l4 ⟨rfl, rfl⟩
      show KL1 _ _ _ _ _ _ _ _ _
      by_cases z : y = 0
      · subst z
        simp only [eq_self, if_true] at f3
        simp only [g_1126, g_1128, g_1131, g_1133, g_1135, g_1138, g_1139, g_1140, g_1141, g_1143, g_1146, g_1147, g_1150, g_1151, g_1152, g_1155, g_1157, g_1934, pm_1i_c, pm_2i_c, pm_1l_c, pm_2l_c, pm_1a_c, pm_ia_c, pm_iia_c, pm_va_c, pm_cp_c, pm_k0_c, pm_k1_c, pm_k2_c, pm_k3_c, pm_s1_c, pm_s2_c, pm_s3_c, pm_s4_c, pm_ri_c, pm_ra_c, pm_rn_c, pm_rk_i, pm_rk_z, pm_rk_a, pm_vk_i, pm_vk_z, pm_vk_a, pm_cti, pm_ctr, pm_ldi_z, pm_ldi_s, pm_lda_z, pm_lda_s, pm_cat_n, pm_cat_i, pm_cat_r, pm_cat_l, pm_obj, pm_arr, pm_opt, List.getElem?_cons_zero, List.getElem?_cons_succ, List.set_cons_zero, List.set_cons_succ, List.length_cons, List.length_nil, List.length_set, true_and, and_true, Nat.add_zero, Nat.zero_add, Nat.le_refl, Nat.reduceAdd, Nat.reduceLT, Nat.reduceLeDiff, Nat.zero_le, not_false_eq_true, not_true_eq_false, false_implies, implies_true, true_implies, Nat.zero_lt_succ, Nat.lt_add_one, pm_tl_v, List.cons_append, List.nil_append, pm_k5_c, pm_tl_n, pm_tl_s, i1, i2, i3, i4, i5, hus2, t3, f3, pm_arl, px_z0, px_in01, vp_updL_0, lg_cmp_s, eq_self]
        exact hT _ _ _ ⟨_, R3⟩ l3' ⟨_, f3⟩
      · simp only [if_neg z] at f3
        simp only [g_1126, g_1128, g_1131, g_1133, g_1135, g_1138, g_1139, g_1140, g_1141, g_1143, g_1146, g_1147, g_1150, g_1151, g_1152, g_1155, g_1157, g_1934, pm_1i_c, pm_2i_c, pm_1l_c, pm_2l_c, pm_1a_c, pm_ia_c, pm_iia_c, pm_va_c, pm_cp_c, pm_k0_c, pm_k1_c, pm_k2_c, pm_k3_c, pm_s1_c, pm_s2_c, pm_s3_c, pm_s4_c, pm_ri_c, pm_ra_c, pm_rn_c, pm_rk_i, pm_rk_z, pm_rk_a, pm_vk_i, pm_vk_z, pm_vk_a, pm_cti, pm_ctr, pm_ldi_z, pm_ldi_s, pm_lda_z, pm_lda_s, pm_cat_n, pm_cat_i, pm_cat_r, pm_cat_l, pm_obj, pm_arr, pm_opt, List.getElem?_cons_zero, List.getElem?_cons_succ, List.set_cons_zero, List.set_cons_succ, List.length_cons, List.length_nil, List.length_set, true_and, and_true, Nat.add_zero, Nat.zero_add, Nat.le_refl, Nat.reduceAdd, Nat.reduceLT, Nat.reduceLeDiff, Nat.zero_le, not_false_eq_true, not_true_eq_false, false_implies, implies_true, true_implies, Nat.zero_lt_succ, Nat.lt_add_one, pm_tl_v, List.cons_append, List.nil_append, pm_k5_c, pm_tl_n, pm_tl_s, i1, i2, i3, i4, i5, hus2, t3, f3, pm_arl, px_z0, px_in01, vp_updL_0, lg_cmp_s, eq_self, z]
        exact hT _ _ _ ⟨_, R3⟩ l3' ⟨_, f3⟩
    · cases hy
  · rcases hQ _ _ hq with ⟨e1, ⟨fs, hm⟩, ⟨y', hy, -⟩ | ⟨e', hy, hE, P⟩⟩
    · cases hy
    · cases hy
      have r1 := lw_ird l1 L xs
      have hk : ¬ (1 : Int32) = 0 := by decide
      refine law_run X (by omega) lk_1 ?_
      show KL1 _ _ _ _ _ _ _ _ _
      simp only [g_1102, g_1104, g_1105, g_1106, g_1108, g_1109, g_1110, g_1111, g_1112, g_1114, g_1115, g_1116, g_1117, pm_1i_c, pm_2i_c, pm_1l_c, pm_2l_c, pm_1a_c, pm_ia_c, pm_iia_c, pm_va_c, pm_cp_c, pm_k0_c, pm_k1_c, pm_k2_c, pm_k3_c, pm_s1_c, pm_s2_c, pm_s3_c, pm_s4_c, pm_ri_c, pm_ra_c, pm_rn_c, pm_rk_i, pm_rk_z, pm_rk_a, pm_vk_i, pm_vk_z, pm_vk_a, pm_cti, pm_ctr, pm_ldi_z, pm_ldi_s, pm_lda_z, pm_lda_s, pm_cat_n, pm_cat_i, pm_cat_r, pm_cat_l, pm_obj, pm_arr, pm_opt, List.getElem?_cons_zero, List.getElem?_cons_succ, List.set_cons_zero, List.set_cons_succ, List.length_cons, List.length_nil, List.length_set, true_and, and_true, Nat.add_zero, Nat.zero_add, Nat.le_refl, Nat.reduceAdd, Nat.reduceLT, Nat.reduceLeDiff, Nat.zero_le, not_false_eq_true, not_true_eq_false, false_implies, implies_true, true_implies, Nat.zero_lt_succ, Nat.lt_add_one, pm_tl_v, List.cons_append, List.nil_append, pm_k5_c, pm_tl_n, pm_tl_s, i1, i2, i3, i4, i5, hus2, hm, r1, l1]
      refine PM_use P ?_
      rintro w h3 l3 ⟨⟨zz, rfl⟩, R3, e3⟩
      have l3' : h3.length = 125 := by omega
      obtain ⟨o3, m3, t3⟩ := R3.len
      have m3' := m3
      unfold mO at m3'
      have f3 := (e3.trans e1).trans hf
      show KL1 _ _ _ _ _ _ _ _ _
      simp only [g_1120, g_1122, g_1123, pm_1i_c, pm_2i_c, pm_1l_c, pm_2l_c, pm_1a_c, pm_ia_c, pm_iia_c, pm_va_c, pm_cp_c, pm_k0_c, pm_k1_c, pm_k2_c, pm_k3_c, pm_s1_c, pm_s2_c, pm_s3_c, pm_s4_c, pm_ri_c, pm_ra_c, pm_rn_c, pm_rk_i, pm_rk_z, pm_rk_a, pm_vk_i, pm_vk_z, pm_vk_a, pm_cti, pm_ctr, pm_ldi_z, pm_ldi_s, pm_lda_z, pm_lda_s, pm_cat_n, pm_cat_i, pm_cat_r, pm_cat_l, pm_obj, pm_arr, pm_opt, List.getElem?_cons_zero, List.getElem?_cons_succ, List.set_cons_zero, List.set_cons_succ, List.length_cons, List.length_nil, List.length_set, true_and, and_true, Nat.add_zero, Nat.zero_add, Nat.le_refl, Nat.reduceAdd, Nat.reduceLT, Nat.reduceLeDiff, Nat.zero_le, not_false_eq_true, not_true_eq_false, false_implies, implies_true, true_implies, Nat.zero_lt_succ, Nat.lt_add_one, pm_tl_v, List.cons_append, List.nil_append, pm_k5_c, pm_tl_n, pm_tl_s, i1, i2, i3, i4, i5, hus2, m3', l3']
      refine PM_use (c_M_thrown m3 459) ?_
      rintro w9 h4 l4 ⟨rfl, rfl⟩
      show KL1 _ _ _ _ _ _ _ _ _
      simp only [g_1126, g_1128, g_1131, g_1133, g_1135, g_1138, g_1139, g_1140, g_1141, g_1143, g_1146, g_1147, g_1150, g_1151, g_1152, g_1155, g_1157, g_1934, pm_1i_c, pm_2i_c, pm_1l_c, pm_2l_c, pm_1a_c, pm_ia_c, pm_iia_c, pm_va_c, pm_cp_c, pm_k0_c, pm_k1_c, pm_k2_c, pm_k3_c, pm_s1_c, pm_s2_c, pm_s3_c, pm_s4_c, pm_ri_c, pm_ra_c, pm_rn_c, pm_rk_i, pm_rk_z, pm_rk_a, pm_vk_i, pm_vk_z, pm_vk_a, pm_cti, pm_ctr, pm_ldi_z, pm_ldi_s, pm_lda_z, pm_lda_s, pm_cat_n, pm_cat_i, pm_cat_r, pm_cat_l, pm_obj, pm_arr, pm_opt, List.getElem?_cons_zero, List.getElem?_cons_succ, List.set_cons_zero, List.set_cons_succ, List.length_cons, List.length_nil, List.length_set, true_and, and_true, Nat.add_zero, Nat.zero_add, Nat.le_refl, Nat.reduceAdd, Nat.reduceLT, Nat.reduceLeDiff, Nat.zero_le, not_false_eq_true, not_true_eq_false, false_implies, implies_true, true_implies, Nat.zero_lt_succ, Nat.lt_add_one, pm_tl_v, List.cons_append, List.nil_append, pm_k5_c, pm_tl_n, pm_tl_s, i1, i2, i3, i4, i5, hus2, t3, hk]
      exact hT _ _ _ ⟨_, R3⟩ l3' ⟨_, f3⟩
end LCa
