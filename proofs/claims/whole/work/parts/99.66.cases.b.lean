/-! The law's cases (by program). -/
set_option maxHeartbeats 8000000
section LCb
variable {p : Program} {l : Launch} {e : Env} {s : State} {m : MethodId} {b0 : Nat} {below : List Frame} {meth : Method} {c : Code} {Qf : State → Prop} {D : va_G} {ct : Nat → ClassId} {b : Nat} {g adV : Nat → Nat} {L : Nat} {xs : Nat → Int32} {xo : Nat}
theorem ct_tell (X : CX p l s m b0 meth c D ct b g adV L xs) (hxo : xo ≤ 900) {us : Nat} (hus : us + 6 ≤ 7293033) {th i : Int32} {u5 u6 : Option Value} {h : pmH} (R : RZ th h) (hl : h.length = 125) (hf : LG h) (i1 : vp_in (i + 1) L) (i2 : vp_in (i + 2) L) (i3 : vp_in (i + 3) L) (i4 : vp_in (i + 4) L) (i5 : vp_in (i + 5) L)  (hT : ∀ (u5 u6 : Option Value) (h2 : pmH), (∃ th, RZ th h2) → h2.length = 125 → LG h2 → SE p l e s m b0 below meth c Qf D ct b g (xo + 1) 1934 [some (.ref 1000001), some (.ref 0), some (.ref 113), some (.ref 124), some (.int i), u5, u6] [] h2 (us + 6)) : SE p l e s m b0 below meth c Qf D ct b g xo 1160 [some (.ref 1000001), some (.ref 0), some (.ref 113), some (.ref 124), some (.int i), u5, u6] [] h us := by
  obtain ⟨bs, ws, A, K, o, S, -⟩ := R
  have c0 := S.C.o
  have r0 := lw_ird hl L xs
  obtain ⟨f, hf⟩ := hf
  have hus2 : us ≤ 7293033 := by omega
  obtain ⟨Q, hW, hQ⟩ := tr_tell S hl (xs ((i + 1).toNatClampNeg)) (xs ((i + 2).toNatClampNeg))
  refine law_run X (by omega) lk_1 ?_
  show KL1 _ _ _ _ _ _ _ _ _
  simp only [g_1160, g_1161, g_1162, g_1164, g_1165, g_1166, g_1167, g_1168, g_1170, g_1171, g_1172, g_1173, g_1174, pm_1i_c, pm_2i_c, pm_1l_c, pm_2l_c, pm_1a_c, pm_ia_c, pm_iia_c, pm_va_c, pm_cp_c, pm_k0_c, pm_k1_c, pm_k2_c, pm_k3_c, pm_s1_c, pm_s2_c, pm_s3_c, pm_s4_c, pm_ri_c, pm_ra_c, pm_rn_c, pm_rk_i, pm_rk_z, pm_rk_a, pm_vk_i, pm_vk_z, pm_vk_a, pm_cti, pm_ctr, pm_ldi_z, pm_ldi_s, pm_lda_z, pm_lda_s, pm_cat_n, pm_cat_i, pm_cat_r, pm_cat_l, pm_obj, pm_arr, pm_opt, List.getElem?_cons_zero, List.getElem?_cons_succ, List.set_cons_zero, List.set_cons_succ, List.length_cons, List.length_nil, List.length_set, true_and, and_true, Nat.add_zero, Nat.zero_add, Nat.le_refl, Nat.reduceAdd, Nat.reduceLT, Nat.reduceLeDiff, Nat.zero_le, not_false_eq_true, not_true_eq_false, false_implies, implies_true, true_implies, Nat.zero_lt_succ, Nat.lt_add_one, pm_tl_v, List.cons_append, List.nil_append, pm_k5_c, pm_tl_n, pm_tl_s, i1, i2, i3, i4, i5, hus2, c0, r0, hl]
  refine law_call X (idx := 163) (n := 4) (y := yL_tell) (cc := cL_tell) (maxL := 5) (hh := [(0, 10, 13, 29), (0, 10, 17, 13)]) (as := [.ref 0, .int (xs ((i + 1).toNatClampNeg)), .int (xs ((i + 2).toNatClampNeg)), .ref 124]) (by omega) hus hl (hp_tell (d := 458) (f := f) X.2.2.2.2.2.2.2.2.1 X.2.2.2.2.2.2.1 c0 (fun v h1 z => (hQ v h1 z).1.trans hf) (fun v h1 z => by
    rcases (hQ v h1 z).2.2 with ⟨y, hy, -⟩ | ⟨e, he, -⟩
    · exact Or.inl ⟨y, hy⟩
    · exact Or.inr ⟨e, he⟩) (fun e h1 z => by
    rcases (hQ _ h1 z).2.2 with ⟨y, hy, -⟩ | ⟨e9, he, hE, -⟩
    · cases hy
    · cases he
      exact hE) hW) (pm_w_in (j := 5161) (by decide +kernel)) (pm_w_in (j := 5159) (by decide +kernel)) (pm_w_in (j := 5160) (by decide +kernel)) (pm_w_in (j := 1000) (by decide +kernel)) (by decide +kernel) (by decide) rfl (by decide +kernel) ?_
  have hus2 : us + 6 ≤ 7293033 := hus
  intro v h1 l1 hp
  rcases hp with ⟨y, h9, hq, rfl, rfl⟩ | ⟨ev, he, hq, rfl⟩
  · rcases hQ _ _ hq with ⟨e1, ⟨fs, hm⟩, ⟨y', hy, P⟩ | ⟨e', hy, -⟩⟩
    · cases hy
      have l9 : h9.length = 125 := by rw [List.length_set] at l1; exact l1
      suffices key : ∀ h1 : pmH, h1 = h9.set 124 (.inl (3, 1, .inr (.inl (vp_updL f 0 y.toInt64)))) → SE p l e s m b0 below meth c Qf D ct b g (xo + 1) 1177 [some (.ref 1000001), some (.ref 0), some (.ref 113), some (.ref 124), some (.int i), u5, u6] [.int 0] h1 (us + 6) from key _ rfl
      clear l1
      intro h1 hh1
      have f1 : ∀ i, i ≠ 124 → h1[i]? = h9[i]? := fun i hi => by rw [hh1]; exact List.getElem?_set_ne (fun z => hi z.symm)
      have f2 : h1[124]? = some (.inl (3, 1, .inr (.inl (vp_updL f 0 y.toInt64)))) := by rw [hh1]; exact List.getElem?_set_self (by omega)
      have l1 : h1.length = 125 := by rw [hh1, List.length_set]; exact l9
      clear hh1
      have r1 := lw_ird l1 L xs
      have hm1 := (f1 113 (by omega)).trans hm
      refine law_run X (by omega) lk_1 ?_
      show KL1 _ _ _ _ _ _ _ _ _
      simp only [g_1177, g_1179, g_1180, g_1181, g_1183, g_1184, g_1185, g_1186, g_1187, g_1189, g_1190, g_1191, g_1192, pm_1i_c, pm_2i_c, pm_1l_c, pm_2l_c, pm_1a_c, pm_ia_c, pm_iia_c, pm_va_c, pm_cp_c, pm_k0_c, pm_k1_c, pm_k2_c, pm_k3_c, pm_s1_c, pm_s2_c, pm_s3_c, pm_s4_c, pm_ri_c, pm_ra_c, pm_rn_c, pm_rk_i, pm_rk_z, pm_rk_a, pm_vk_i, pm_vk_z, pm_vk_a, pm_cti, pm_ctr, pm_ldi_z, pm_ldi_s, pm_lda_z, pm_lda_s, pm_cat_n, pm_cat_i, pm_cat_r, pm_cat_l, pm_obj, pm_arr, pm_opt, List.getElem?_cons_zero, List.getElem?_cons_succ, List.set_cons_zero, List.set_cons_succ, List.length_cons, List.length_nil, List.length_set, true_and, and_true, Nat.add_zero, Nat.zero_add, Nat.le_refl, Nat.reduceAdd, Nat.reduceLT, Nat.reduceLeDiff, Nat.zero_le, not_false_eq_true, not_true_eq_false, false_implies, implies_true, true_implies, Nat.zero_lt_succ, Nat.lt_add_one, pm_tl_v, List.cons_append, List.nil_append, pm_k5_c, pm_tl_n, pm_tl_s, i1, i2, i3, i4, i5, hus2, hm1, r1, l1]
      refine PM_use (P h1 f1) ?_
      rintro w h3 l3 ⟨rfl, R3, e3⟩
      have l3' : h3.length = 125 := by omega
      obtain ⟨o3, m3, t3⟩ := R3.len
      have m3' := m3
      unfold mO at m3'
      have f3 := e3.trans f2
      show KL1 _ _ _ _ _ _ _ _ _
      simp only [g_1195, g_1197, g_1198, pm_1i_c, pm_2i_c, pm_1l_c, pm_2l_c, pm_1a_c, pm_ia_c, pm_iia_c, pm_va_c, pm_cp_c, pm_k0_c, pm_k1_c, pm_k2_c, pm_k3_c, pm_s1_c, pm_s2_c, pm_s3_c, pm_s4_c, pm_ri_c, pm_ra_c, pm_rn_c, pm_rk_i, pm_rk_z, pm_rk_a, pm_vk_i, pm_vk_z, pm_vk_a, pm_cti, pm_ctr, pm_ldi_z, pm_ldi_s, pm_lda_z, pm_lda_s, pm_cat_n, pm_cat_i, pm_cat_r, pm_cat_l, pm_obj, pm_arr, pm_opt, List.getElem?_cons_zero, List.getElem?_cons_succ, List.set_cons_zero, List.set_cons_succ, List.length_cons, List.length_nil, List.length_set, true_and, and_true, Nat.add_zero, Nat.zero_add, Nat.le_refl, Nat.reduceAdd, Nat.reduceLT, Nat.reduceLeDiff, Nat.zero_le, not_false_eq_true, not_true_eq_false, false_implies, implies_true, true_implies, Nat.zero_lt_succ, Nat.lt_add_one, pm_tl_v, List.cons_append, List.nil_append, pm_k5_c, pm_tl_n, pm_tl_s, i1, i2, i3, i4, i5, hus2, m3', l3']
      refine PM_use (c_M_thrown m3 459) ?_
      rintro w9 h4 l4 ⟨rfl, rfl⟩
      show KL1 _ _ _ _ _ _ _ _ _
      simp only [g_1201, g_1203, g_1206, g_1208, g_1210, g_1213, g_1214, g_1215, g_1216, g_1218, g_1219, g_1220, g_1223, g_1225, g_1934, pm_1i_c, pm_2i_c, pm_1l_c, pm_2l_c, pm_1a_c, pm_ia_c, pm_iia_c, pm_va_c, pm_cp_c, pm_k0_c, pm_k1_c, pm_k2_c, pm_k3_c, pm_s1_c, pm_s2_c, pm_s3_c, pm_s4_c, pm_ri_c, pm_ra_c, pm_rn_c, pm_rk_i, pm_rk_z, pm_rk_a, pm_vk_i, pm_vk_z, pm_vk_a, pm_cti, pm_ctr, pm_ldi_z, pm_ldi_s, pm_lda_z, pm_lda_s, pm_cat_n, pm_cat_i, pm_cat_r, pm_cat_l, pm_obj, pm_arr, pm_opt, List.getElem?_cons_zero, List.getElem?_cons_succ, List.set_cons_zero, List.set_cons_succ, List.length_cons, List.length_nil, List.length_set, true_and, and_true, Nat.add_zero, Nat.zero_add, Nat.le_refl, Nat.reduceAdd, Nat.reduceLT, Nat.reduceLeDiff, Nat.zero_le, not_false_eq_true, not_true_eq_false, false_implies, implies_true, true_implies, Nat.zero_lt_succ, Nat.lt_add_one, pm_tl_v, List.cons_append, List.nil_append, pm_k5_c, pm_tl_n, pm_tl_s, i1, i2, i3, i4, i5, hus2, t3, f3, pm_arl, px_z0, px_in01, vp_updL_0, lg_cmp_s, eq_self]
      exact hT _ _ _ ⟨_, R3⟩ l3' ⟨_, f3⟩
    · cases hy
  · rcases hQ _ _ hq with ⟨e1, ⟨fs, hm⟩, ⟨y', hy, -⟩ | ⟨e', hy, hE, P⟩⟩
    · cases hy
    · cases hy
      have r1 := lw_ird l1 L xs
      have hk : ¬ (if ev = 1 then 1 else 2 : Int32) = 0 := by split <;> decide
      refine law_run X (by omega) lk_1 ?_
      show KL1 _ _ _ _ _ _ _ _ _
      simp only [g_1177, g_1179, g_1180, g_1181, g_1183, g_1184, g_1185, g_1186, g_1187, g_1189, g_1190, g_1191, g_1192, pm_1i_c, pm_2i_c, pm_1l_c, pm_2l_c, pm_1a_c, pm_ia_c, pm_iia_c, pm_va_c, pm_cp_c, pm_k0_c, pm_k1_c, pm_k2_c, pm_k3_c, pm_s1_c, pm_s2_c, pm_s3_c, pm_s4_c, pm_ri_c, pm_ra_c, pm_rn_c, pm_rk_i, pm_rk_z, pm_rk_a, pm_vk_i, pm_vk_z, pm_vk_a, pm_cti, pm_ctr, pm_ldi_z, pm_ldi_s, pm_lda_z, pm_lda_s, pm_cat_n, pm_cat_i, pm_cat_r, pm_cat_l, pm_obj, pm_arr, pm_opt, List.getElem?_cons_zero, List.getElem?_cons_succ, List.set_cons_zero, List.set_cons_succ, List.length_cons, List.length_nil, List.length_set, true_and, and_true, Nat.add_zero, Nat.zero_add, Nat.le_refl, Nat.reduceAdd, Nat.reduceLT, Nat.reduceLeDiff, Nat.zero_le, not_false_eq_true, not_true_eq_false, false_implies, implies_true, true_implies, Nat.zero_lt_succ, Nat.lt_add_one, pm_tl_v, List.cons_append, List.nil_append, pm_k5_c, pm_tl_n, pm_tl_s, i1, i2, i3, i4, i5, hus2, hm, r1, l1]
      refine PM_use P ?_
      rintro w h3 l3 ⟨⟨zz, rfl⟩, R3, e3⟩
      have l3' : h3.length = 125 := by omega
      obtain ⟨o3, m3, t3⟩ := R3.len
      have m3' := m3
      unfold mO at m3'
      have f3 := (e3.trans e1).trans hf
      show KL1 _ _ _ _ _ _ _ _ _
      simp only [g_1195, g_1197, g_1198, pm_1i_c, pm_2i_c, pm_1l_c, pm_2l_c, pm_1a_c, pm_ia_c, pm_iia_c, pm_va_c, pm_cp_c, pm_k0_c, pm_k1_c, pm_k2_c, pm_k3_c, pm_s1_c, pm_s2_c, pm_s3_c, pm_s4_c, pm_ri_c, pm_ra_c, pm_rn_c, pm_rk_i, pm_rk_z, pm_rk_a, pm_vk_i, pm_vk_z, pm_vk_a, pm_cti, pm_ctr, pm_ldi_z, pm_ldi_s, pm_lda_z, pm_lda_s, pm_cat_n, pm_cat_i, pm_cat_r, pm_cat_l, pm_obj, pm_arr, pm_opt, List.getElem?_cons_zero, List.getElem?_cons_succ, List.set_cons_zero, List.set_cons_succ, List.length_cons, List.length_nil, List.length_set, true_and, and_true, Nat.add_zero, Nat.zero_add, Nat.le_refl, Nat.reduceAdd, Nat.reduceLT, Nat.reduceLeDiff, Nat.zero_le, not_false_eq_true, not_true_eq_false, false_implies, implies_true, true_implies, Nat.zero_lt_succ, Nat.lt_add_one, pm_tl_v, List.cons_append, List.nil_append, pm_k5_c, pm_tl_n, pm_tl_s, i1, i2, i3, i4, i5, hus2, m3', l3']
      refine PM_use (c_M_thrown m3 459) ?_
      rintro w9 h4 l4 ⟨rfl, rfl⟩
      show KL1 _ _ _ _ _ _ _ _ _
      simp only [g_1201, g_1203, g_1206, g_1208, g_1210, g_1213, g_1214, g_1215, g_1216, g_1218, g_1219, g_1220, g_1223, g_1225, g_1934, pm_1i_c, pm_2i_c, pm_1l_c, pm_2l_c, pm_1a_c, pm_ia_c, pm_iia_c, pm_va_c, pm_cp_c, pm_k0_c, pm_k1_c, pm_k2_c, pm_k3_c, pm_s1_c, pm_s2_c, pm_s3_c, pm_s4_c, pm_ri_c, pm_ra_c, pm_rn_c, pm_rk_i, pm_rk_z, pm_rk_a, pm_vk_i, pm_vk_z, pm_vk_a, pm_cti, pm_ctr, pm_ldi_z, pm_ldi_s, pm_lda_z, pm_lda_s, pm_cat_n, pm_cat_i, pm_cat_r, pm_cat_l, pm_obj, pm_arr, pm_opt, List.getElem?_cons_zero, List.getElem?_cons_succ, List.set_cons_zero, List.set_cons_succ, List.length_cons, List.length_nil, List.length_set, true_and, and_true, Nat.add_zero, Nat.zero_add, Nat.le_refl, Nat.reduceAdd, Nat.reduceLT, Nat.reduceLeDiff, Nat.zero_le, not_false_eq_true, not_true_eq_false, false_implies, implies_true, true_implies, Nat.zero_lt_succ, Nat.lt_add_one, pm_tl_v, List.cons_append, List.nil_append, pm_k5_c, pm_tl_n, pm_tl_s, i1, i2, i3, i4, i5, hus2, t3, hk]
      exact hT _ _ _ ⟨_, R3⟩ l3' ⟨_, f3⟩
theorem cs_doorman (X : CX p l s m b0 meth c D ct b g adV L xs) (hxo : xo ≤ 900) {us : Nat} (hus : us + 6 ≤ 7293033) {th i : Int32} {u5 u6 : Option Value} {h : pmH} (R : RZ th h) (hl : h.length = 125) (hf : LG h) (i1 : vp_in (i + 1) L) (i2 : vp_in (i + 2) L) (i3 : vp_in (i + 3) L) (i4 : vp_in (i + 4) L) (i5 : vp_in (i + 5) L)  (hT : ∀ (u5 u6 : Option Value) (h2 : pmH), (∃ th, RZ th h2) → h2.length = 125 → LG h2 → SE p l e s m b0 below meth c Qf D ct b g xo 1934 [some (.ref 1000001), some (.ref 0), some (.ref 113), some (.ref 124), some (.int i), u5, u6] [] h2 us) : SE p l e s m b0 below meth c Qf D ct b g xo 1228 [some (.ref 1000001), some (.ref 0), some (.ref 113), some (.ref 124), some (.int i), u5, u6] [] h us := by
  obtain ⟨bs, ws, A, K, o, S, -⟩ := R
  have c0 := S.C.o
  have r0 := lw_ird hl L xs
  have hus2 : us ≤ 7293033 := by omega
  refine law_run X (by omega) lk_1 ?_
  by_cases z : xs ((i + 1).toNatClampNeg) = 0
  · show KL1 _ _ _ _ _ _ _ _ _
    simp only [g_1228, g_1229, g_1230, g_1232, g_1233, g_1234, g_1235, g_1238, g_1239, g_1242, g_1243, pm_1i_c, pm_2i_c, pm_1l_c, pm_2l_c, pm_1a_c, pm_ia_c, pm_iia_c, pm_va_c, pm_cp_c, pm_k0_c, pm_k1_c, pm_k2_c, pm_k3_c, pm_s1_c, pm_s2_c, pm_s3_c, pm_s4_c, pm_ri_c, pm_ra_c, pm_rn_c, pm_rk_i, pm_rk_z, pm_rk_a, pm_vk_i, pm_vk_z, pm_vk_a, pm_cti, pm_ctr, pm_ldi_z, pm_ldi_s, pm_lda_z, pm_lda_s, pm_cat_n, pm_cat_i, pm_cat_r, pm_cat_l, pm_obj, pm_arr, pm_opt, List.getElem?_cons_zero, List.getElem?_cons_succ, List.set_cons_zero, List.set_cons_succ, List.length_cons, List.length_nil, List.length_set, true_and, and_true, Nat.add_zero, Nat.zero_add, Nat.le_refl, Nat.reduceAdd, Nat.reduceLT, Nat.reduceLeDiff, Nat.zero_le, not_false_eq_true, not_true_eq_false, false_implies, implies_true, true_implies, Nat.zero_lt_succ, Nat.lt_add_one, pm_tl_v, List.cons_append, List.nil_append, pm_k5_c, pm_tl_n, pm_tl_s, i1, i2, i3, i4, i5, hus2, c0, r0, hl, z]
    refine PM_use (pr_doorman S hl (Or.inl rfl)) ?_
    rintro v h1 l1 ⟨y, rfl, e1, ⟨fs, hm⟩, P⟩
    have l1' : h1.length = 125 := by omega
    have r1 := lw_ird l1' L xs
    show KL1 _ _ _ _ _ _ _ _ _
    simp only [g_1246, g_1247, g_1248, g_1250, g_1251, g_1252, g_1253, g_1256, g_1257, g_1260, g_1261, pm_1i_c, pm_2i_c, pm_1l_c, pm_2l_c, pm_1a_c, pm_ia_c, pm_iia_c, pm_va_c, pm_cp_c, pm_k0_c, pm_k1_c, pm_k2_c, pm_k3_c, pm_s1_c, pm_s2_c, pm_s3_c, pm_s4_c, pm_ri_c, pm_ra_c, pm_rn_c, pm_rk_i, pm_rk_z, pm_rk_a, pm_vk_i, pm_vk_z, pm_vk_a, pm_cti, pm_ctr, pm_ldi_z, pm_ldi_s, pm_lda_z, pm_lda_s, pm_cat_n, pm_cat_i, pm_cat_r, pm_cat_l, pm_obj, pm_arr, pm_opt, List.getElem?_cons_zero, List.getElem?_cons_succ, List.set_cons_zero, List.set_cons_succ, List.length_cons, List.length_nil, List.length_set, true_and, and_true, Nat.add_zero, Nat.zero_add, Nat.le_refl, Nat.reduceAdd, Nat.reduceLT, Nat.reduceLeDiff, Nat.zero_le, not_false_eq_true, not_true_eq_false, false_implies, implies_true, true_implies, Nat.zero_lt_succ, Nat.lt_add_one, pm_tl_v, List.cons_append, List.nil_append, pm_k5_c, pm_tl_n, pm_tl_s, i1, i2, i3, i4, i5, hus2, hm, r1, l1', z]
    refine PM_use P ?_
    rintro w h2 l2 ⟨rfl, R2, e2⟩
    show KL1 _ _ _ _ _ _ _ _ _
    simp only [g_1264, g_1267, g_1934, pm_1i_c, pm_2i_c, pm_1l_c, pm_2l_c, pm_1a_c, pm_ia_c, pm_iia_c, pm_va_c, pm_cp_c, pm_k0_c, pm_k1_c, pm_k2_c, pm_k3_c, pm_s1_c, pm_s2_c, pm_s3_c, pm_s4_c, pm_ri_c, pm_ra_c, pm_rn_c, pm_rk_i, pm_rk_z, pm_rk_a, pm_vk_i, pm_vk_z, pm_vk_a, pm_cti, pm_ctr, pm_ldi_z, pm_ldi_s, pm_lda_z, pm_lda_s, pm_cat_n, pm_cat_i, pm_cat_r, pm_cat_l, pm_obj, pm_arr, pm_opt, List.getElem?_cons_zero, List.getElem?_cons_succ, List.set_cons_zero, List.set_cons_succ, List.length_cons, List.length_nil, List.length_set, true_and, and_true, Nat.add_zero, Nat.zero_add, Nat.le_refl, Nat.reduceAdd, Nat.reduceLT, Nat.reduceLeDiff, Nat.zero_le, not_false_eq_true, not_true_eq_false, false_implies, implies_true, true_implies, Nat.zero_lt_succ, Nat.lt_add_one, pm_tl_v, List.cons_append, List.nil_append, pm_k5_c, pm_tl_n, pm_tl_s, i1, i2, i3, i4, i5, hus2]
    exact hT _ _ h2 ⟨_, R2⟩ (by omega) (by obtain ⟨f, hf⟩ := hf; exact ⟨f, (e2.trans e1).trans hf⟩)
  · show KL1 _ _ _ _ _ _ _ _ _
    simp only [g_1228, g_1229, g_1230, g_1232, g_1233, g_1234, g_1235, g_1238, g_1239, g_1242, g_1243, pm_1i_c, pm_2i_c, pm_1l_c, pm_2l_c, pm_1a_c, pm_ia_c, pm_iia_c, pm_va_c, pm_cp_c, pm_k0_c, pm_k1_c, pm_k2_c, pm_k3_c, pm_s1_c, pm_s2_c, pm_s3_c, pm_s4_c, pm_ri_c, pm_ra_c, pm_rn_c, pm_rk_i, pm_rk_z, pm_rk_a, pm_vk_i, pm_vk_z, pm_vk_a, pm_cti, pm_ctr, pm_ldi_z, pm_ldi_s, pm_lda_z, pm_lda_s, pm_cat_n, pm_cat_i, pm_cat_r, pm_cat_l, pm_obj, pm_arr, pm_opt, List.getElem?_cons_zero, List.getElem?_cons_succ, List.set_cons_zero, List.set_cons_succ, List.length_cons, List.length_nil, List.length_set, true_and, and_true, Nat.add_zero, Nat.zero_add, Nat.le_refl, Nat.reduceAdd, Nat.reduceLT, Nat.reduceLeDiff, Nat.zero_le, not_false_eq_true, not_true_eq_false, false_implies, implies_true, true_implies, Nat.zero_lt_succ, Nat.lt_add_one, pm_tl_v, List.cons_append, List.nil_append, pm_k5_c, pm_tl_n, pm_tl_s, i1, i2, i3, i4, i5, hus2, c0, r0, hl, z]
    refine PM_use (pr_doorman S hl (Or.inr rfl)) ?_
    rintro v h1 l1 ⟨y, rfl, e1, ⟨fs, hm⟩, P⟩
    have l1' : h1.length = 125 := by omega
    have r1 := lw_ird l1' L xs
    show KL1 _ _ _ _ _ _ _ _ _
    simp only [g_1246, g_1247, g_1248, g_1250, g_1251, g_1252, g_1253, g_1256, g_1257, g_1260, g_1261, pm_1i_c, pm_2i_c, pm_1l_c, pm_2l_c, pm_1a_c, pm_ia_c, pm_iia_c, pm_va_c, pm_cp_c, pm_k0_c, pm_k1_c, pm_k2_c, pm_k3_c, pm_s1_c, pm_s2_c, pm_s3_c, pm_s4_c, pm_ri_c, pm_ra_c, pm_rn_c, pm_rk_i, pm_rk_z, pm_rk_a, pm_vk_i, pm_vk_z, pm_vk_a, pm_cti, pm_ctr, pm_ldi_z, pm_ldi_s, pm_lda_z, pm_lda_s, pm_cat_n, pm_cat_i, pm_cat_r, pm_cat_l, pm_obj, pm_arr, pm_opt, List.getElem?_cons_zero, List.getElem?_cons_succ, List.set_cons_zero, List.set_cons_succ, List.length_cons, List.length_nil, List.length_set, true_and, and_true, Nat.add_zero, Nat.zero_add, Nat.le_refl, Nat.reduceAdd, Nat.reduceLT, Nat.reduceLeDiff, Nat.zero_le, not_false_eq_true, not_true_eq_false, false_implies, implies_true, true_implies, Nat.zero_lt_succ, Nat.lt_add_one, pm_tl_v, List.cons_append, List.nil_append, pm_k5_c, pm_tl_n, pm_tl_s, i1, i2, i3, i4, i5, hus2, hm, r1, l1', z]
    refine PM_use P ?_
    rintro w h2 l2 ⟨rfl, R2, e2⟩
    show KL1 _ _ _ _ _ _ _ _ _
    simp only [g_1264, g_1267, g_1934, pm_1i_c, pm_2i_c, pm_1l_c, pm_2l_c, pm_1a_c, pm_ia_c, pm_iia_c, pm_va_c, pm_cp_c, pm_k0_c, pm_k1_c, pm_k2_c, pm_k3_c, pm_s1_c, pm_s2_c, pm_s3_c, pm_s4_c, pm_ri_c, pm_ra_c, pm_rn_c, pm_rk_i, pm_rk_z, pm_rk_a, pm_vk_i, pm_vk_z, pm_vk_a, pm_cti, pm_ctr, pm_ldi_z, pm_ldi_s, pm_lda_z, pm_lda_s, pm_cat_n, pm_cat_i, pm_cat_r, pm_cat_l, pm_obj, pm_arr, pm_opt, List.getElem?_cons_zero, List.getElem?_cons_succ, List.set_cons_zero, List.set_cons_succ, List.length_cons, List.length_nil, List.length_set, true_and, and_true, Nat.add_zero, Nat.zero_add, Nat.le_refl, Nat.reduceAdd, Nat.reduceLT, Nat.reduceLeDiff, Nat.zero_le, not_false_eq_true, not_true_eq_false, false_implies, implies_true, true_implies, Nat.zero_lt_succ, Nat.lt_add_one, pm_tl_v, List.cons_append, List.nil_append, pm_k5_c, pm_tl_n, pm_tl_s, i1, i2, i3, i4, i5, hus2]
    exact hT _ _ h2 ⟨_, R2⟩ (by omega) (by obtain ⟨f, hf⟩ := hf; exact ⟨f, (e2.trans e1).trans hf⟩)
theorem ct_again (X : CX p l s m b0 meth c D ct b g adV L xs) (hxo : xo ≤ 900) {us : Nat} (hus : us + 6 ≤ 7293033) {th i : Int32} {u5 u6 : Option Value} {h : pmH} (R : RZ th h) (hl : h.length = 125) (hf : LG h) (i1 : vp_in (i + 1) L) (i2 : vp_in (i + 2) L) (i3 : vp_in (i + 3) L) (i4 : vp_in (i + 4) L) (i5 : vp_in (i + 5) L)  (hT : ∀ (u5 u6 : Option Value) (h2 : pmH), (∃ th, RZ th h2) → h2.length = 125 → LG h2 → SE p l e s m b0 below meth c Qf D ct b g (xo + 1) 1934 [some (.ref 1000001), some (.ref 0), some (.ref 113), some (.ref 124), some (.int i), u5, u6] [] h2 (us + 6)) : SE p l e s m b0 below meth c Qf D ct b g xo 1269 [some (.ref 1000001), some (.ref 0), some (.ref 113), some (.ref 124), some (.int i), u5, u6] [] h us := by
  obtain ⟨bs, ws, A, K, o, S, -⟩ := R
  have c0 := S.C.o
  have r0 := lw_ird hl L xs
  obtain ⟨f, hf⟩ := hf
  have hus2 : us ≤ 7293033 := by omega
  obtain ⟨Q, hW, hQ⟩ := tr_again S hl (xs ((i + 1).toNatClampNeg))
  refine law_run X (by omega) lk_1 ?_
  show KL1 _ _ _ _ _ _ _ _ _
  simp only [g_1269, g_1270, g_1271, g_1273, g_1274, g_1275, g_1276, g_1277, pm_1i_c, pm_2i_c, pm_1l_c, pm_2l_c, pm_1a_c, pm_ia_c, pm_iia_c, pm_va_c, pm_cp_c, pm_k0_c, pm_k1_c, pm_k2_c, pm_k3_c, pm_s1_c, pm_s2_c, pm_s3_c, pm_s4_c, pm_ri_c, pm_ra_c, pm_rn_c, pm_rk_i, pm_rk_z, pm_rk_a, pm_vk_i, pm_vk_z, pm_vk_a, pm_cti, pm_ctr, pm_ldi_z, pm_ldi_s, pm_lda_z, pm_lda_s, pm_cat_n, pm_cat_i, pm_cat_r, pm_cat_l, pm_obj, pm_arr, pm_opt, List.getElem?_cons_zero, List.getElem?_cons_succ, List.set_cons_zero, List.set_cons_succ, List.length_cons, List.length_nil, List.length_set, true_and, and_true, Nat.add_zero, Nat.zero_add, Nat.le_refl, Nat.reduceAdd, Nat.reduceLT, Nat.reduceLeDiff, Nat.zero_le, not_false_eq_true, not_true_eq_false, false_implies, implies_true, true_implies, Nat.zero_lt_succ, Nat.lt_add_one, pm_tl_v, List.cons_append, List.nil_append, pm_k5_c, pm_tl_n, pm_tl_s, i1, i2, i3, i4, i5, hus2, c0, r0, hl]
  refine law_call X (idx := 171) (n := 3) (y := yL_again) (cc := cL_again) (maxL := 4) (hh := [(0, 9, 12, 13)]) (as := [.ref 0, .int (xs ((i + 1).toNatClampNeg)), .ref 124]) (by omega) hus hl (hp_again (d := 458) (f := f) X.2.2.2.2.2.2.2.2.1 X.2.2.2.2.2.2.1 c0 (fun v h1 z => (hQ v h1 z).1.trans hf) (fun v h1 z => by
    rcases (hQ v h1 z).2.2 with ⟨y, hy, -⟩ | ⟨e, he, -⟩
    · exact Or.inl ⟨y, hy⟩
    · exact Or.inr ⟨e, he⟩) (fun e h1 z => by
    rcases (hQ _ h1 z).2.2 with ⟨y, hy, -⟩ | ⟨e9, he, hE, -⟩
    · cases hy
    · cases he
      exact hE) hW) (pm_w_in (j := 5188) (by decide +kernel)) (pm_w_in (j := 5186) (by decide +kernel)) (pm_w_in (j := 5187) (by decide +kernel)) (pm_w_in (j := 1000) (by decide +kernel)) (by decide +kernel) (by decide) rfl (by decide +kernel) ?_
  have hus2 : us + 6 ≤ 7293033 := hus
  intro v h1 l1 hp
  rcases hp with ⟨y, h9, hq, rfl, rfl⟩ | ⟨ev, he, hq, rfl⟩
  · rcases hQ _ _ hq with ⟨e1, ⟨fs, hm⟩, ⟨y', hy, P⟩ | ⟨e', hy, -⟩⟩
    · cases hy
      have l9 : h9.length = 125 := by rw [List.length_set] at l1; exact l1
      suffices key : ∀ h1 : pmH, h1 = h9.set 124 (.inl (3, 1, .inr (.inl (vp_updL f 0 y.toInt64)))) → SE p l e s m b0 below meth c Qf D ct b g (xo + 1) 1280 [some (.ref 1000001), some (.ref 0), some (.ref 113), some (.ref 124), some (.int i), u5, u6] [.int 0] h1 (us + 6) from key _ rfl
      clear l1
      intro h1 hh1
      have f1 : ∀ i, i ≠ 124 → h1[i]? = h9[i]? := fun i hi => by rw [hh1]; exact List.getElem?_set_ne (fun z => hi z.symm)
      have f2 : h1[124]? = some (.inl (3, 1, .inr (.inl (vp_updL f 0 y.toInt64)))) := by rw [hh1]; exact List.getElem?_set_self (by omega)
      have l1 : h1.length = 125 := by rw [hh1, List.length_set]; exact l9
      clear hh1
      have r1 := lw_ird l1 L xs
      have hm1 := (f1 113 (by omega)).trans hm
      refine law_run X (by omega) lk_1 ?_
      show KL1 _ _ _ _ _ _ _ _ _
      simp only [g_1280, g_1282, g_1283, g_1284, g_1286, g_1287, g_1288, g_1289, pm_1i_c, pm_2i_c, pm_1l_c, pm_2l_c, pm_1a_c, pm_ia_c, pm_iia_c, pm_va_c, pm_cp_c, pm_k0_c, pm_k1_c, pm_k2_c, pm_k3_c, pm_s1_c, pm_s2_c, pm_s3_c, pm_s4_c, pm_ri_c, pm_ra_c, pm_rn_c, pm_rk_i, pm_rk_z, pm_rk_a, pm_vk_i, pm_vk_z, pm_vk_a, pm_cti, pm_ctr, pm_ldi_z, pm_ldi_s, pm_lda_z, pm_lda_s, pm_cat_n, pm_cat_i, pm_cat_r, pm_cat_l, pm_obj, pm_arr, pm_opt, List.getElem?_cons_zero, List.getElem?_cons_succ, List.set_cons_zero, List.set_cons_succ, List.length_cons, List.length_nil, List.length_set, true_and, and_true, Nat.add_zero, Nat.zero_add, Nat.le_refl, Nat.reduceAdd, Nat.reduceLT, Nat.reduceLeDiff, Nat.zero_le, not_false_eq_true, not_true_eq_false, false_implies, implies_true, true_implies, Nat.zero_lt_succ, Nat.lt_add_one, pm_tl_v, List.cons_append, List.nil_append, pm_k5_c, pm_tl_n, pm_tl_s, i1, i2, i3, i4, i5, hus2, hm1, r1, l1]
      refine PM_use (P h1 f1) ?_
      rintro w h3 l3 ⟨rfl, R3, e3⟩
      have l3' : h3.length = 125 := by omega
      obtain ⟨o3, m3, t3⟩ := R3.len
      have m3' := m3
      unfold mO at m3'
      have f3 := e3.trans f2
      show KL1 _ _ _ _ _ _ _ _ _
      simp only [g_1292, g_1294, g_1295, pm_1i_c, pm_2i_c, pm_1l_c, pm_2l_c, pm_1a_c, pm_ia_c, pm_iia_c, pm_va_c, pm_cp_c, pm_k0_c, pm_k1_c, pm_k2_c, pm_k3_c, pm_s1_c, pm_s2_c, pm_s3_c, pm_s4_c, pm_ri_c, pm_ra_c, pm_rn_c, pm_rk_i, pm_rk_z, pm_rk_a, pm_vk_i, pm_vk_z, pm_vk_a, pm_cti, pm_ctr, pm_ldi_z, pm_ldi_s, pm_lda_z, pm_lda_s, pm_cat_n, pm_cat_i, pm_cat_r, pm_cat_l, pm_obj, pm_arr, pm_opt, List.getElem?_cons_zero, List.getElem?_cons_succ, List.set_cons_zero, List.set_cons_succ, List.length_cons, List.length_nil, List.length_set, true_and, and_true, Nat.add_zero, Nat.zero_add, Nat.le_refl, Nat.reduceAdd, Nat.reduceLT, Nat.reduceLeDiff, Nat.zero_le, not_false_eq_true, not_true_eq_false, false_implies, implies_true, true_implies, Nat.zero_lt_succ, Nat.lt_add_one, pm_tl_v, List.cons_append, List.nil_append, pm_k5_c, pm_tl_n, pm_tl_s, i1, i2, i3, i4, i5, hus2, m3', l3']
      refine PM_use (c_M_thrown m3 459) ?_
      rintro w9 h4 l4 ⟨rfl, rfl⟩
      show KL1 _ _ _ _ _ _ _ _ _
      simp only [g_1298, g_1300, g_1303, g_1305, g_1307, g_1310, g_1311, g_1312, g_1313, g_1315, g_1316, g_1317, g_1320, g_1322, g_1934, pm_1i_c, pm_2i_c, pm_1l_c, pm_2l_c, pm_1a_c, pm_ia_c, pm_iia_c, pm_va_c, pm_cp_c, pm_k0_c, pm_k1_c, pm_k2_c, pm_k3_c, pm_s1_c, pm_s2_c, pm_s3_c, pm_s4_c, pm_ri_c, pm_ra_c, pm_rn_c, pm_rk_i, pm_rk_z, pm_rk_a, pm_vk_i, pm_vk_z, pm_vk_a, pm_cti, pm_ctr, pm_ldi_z, pm_ldi_s, pm_lda_z, pm_lda_s, pm_cat_n, pm_cat_i, pm_cat_r, pm_cat_l, pm_obj, pm_arr, pm_opt, List.getElem?_cons_zero, List.getElem?_cons_succ, List.set_cons_zero, List.set_cons_succ, List.length_cons, List.length_nil, List.length_set, true_and, and_true, Nat.add_zero, Nat.zero_add, Nat.le_refl, Nat.reduceAdd, Nat.reduceLT, Nat.reduceLeDiff, Nat.zero_le, not_false_eq_true, not_true_eq_false, false_implies, implies_true, true_implies, Nat.zero_lt_succ, Nat.lt_add_one, pm_tl_v, List.cons_append, List.nil_append, pm_k5_c, pm_tl_n, pm_tl_s, i1, i2, i3, i4, i5, hus2, t3, f3, pm_arl, px_z0, px_in01, vp_updL_0, lg_cmp_s, eq_self]
      exact hT _ _ _ ⟨_, R3⟩ l3' ⟨_, f3⟩
    · cases hy
  · rcases hQ _ _ hq with ⟨e1, ⟨fs, hm⟩, ⟨y', hy, -⟩ | ⟨e', hy, hE, P⟩⟩
    · cases hy
    · cases hy
      have r1 := lw_ird l1 L xs
      have hk : ¬ (1 : Int32) = 0 := by decide
      refine law_run X (by omega) lk_1 ?_
      show KL1 _ _ _ _ _ _ _ _ _
      simp only [g_1280, g_1282, g_1283, g_1284, g_1286, g_1287, g_1288, g_1289, pm_1i_c, pm_2i_c, pm_1l_c, pm_2l_c, pm_1a_c, pm_ia_c, pm_iia_c, pm_va_c, pm_cp_c, pm_k0_c, pm_k1_c, pm_k2_c, pm_k3_c, pm_s1_c, pm_s2_c, pm_s3_c, pm_s4_c, pm_ri_c, pm_ra_c, pm_rn_c, pm_rk_i, pm_rk_z, pm_rk_a, pm_vk_i, pm_vk_z, pm_vk_a, pm_cti, pm_ctr, pm_ldi_z, pm_ldi_s, pm_lda_z, pm_lda_s, pm_cat_n, pm_cat_i, pm_cat_r, pm_cat_l, pm_obj, pm_arr, pm_opt, List.getElem?_cons_zero, List.getElem?_cons_succ, List.set_cons_zero, List.set_cons_succ, List.length_cons, List.length_nil, List.length_set, true_and, and_true, Nat.add_zero, Nat.zero_add, Nat.le_refl, Nat.reduceAdd, Nat.reduceLT, Nat.reduceLeDiff, Nat.zero_le, not_false_eq_true, not_true_eq_false, false_implies, implies_true, true_implies, Nat.zero_lt_succ, Nat.lt_add_one, pm_tl_v, List.cons_append, List.nil_append, pm_k5_c, pm_tl_n, pm_tl_s, i1, i2, i3, i4, i5, hus2, hm, r1, l1]
      refine PM_use P ?_
      rintro w h3 l3 ⟨⟨zz, rfl⟩, R3, e3⟩
      have l3' : h3.length = 125 := by omega
      obtain ⟨o3, m3, t3⟩ := R3.len
      have m3' := m3
      unfold mO at m3'
      have f3 := (e3.trans e1).trans hf
      show KL1 _ _ _ _ _ _ _ _ _
      simp only [g_1292, g_1294, g_1295, pm_1i_c, pm_2i_c, pm_1l_c, pm_2l_c, pm_1a_c, pm_ia_c, pm_iia_c, pm_va_c, pm_cp_c, pm_k0_c, pm_k1_c, pm_k2_c, pm_k3_c, pm_s1_c, pm_s2_c, pm_s3_c, pm_s4_c, pm_ri_c, pm_ra_c, pm_rn_c, pm_rk_i, pm_rk_z, pm_rk_a, pm_vk_i, pm_vk_z, pm_vk_a, pm_cti, pm_ctr, pm_ldi_z, pm_ldi_s, pm_lda_z, pm_lda_s, pm_cat_n, pm_cat_i, pm_cat_r, pm_cat_l, pm_obj, pm_arr, pm_opt, List.getElem?_cons_zero, List.getElem?_cons_succ, List.set_cons_zero, List.set_cons_succ, List.length_cons, List.length_nil, List.length_set, true_and, and_true, Nat.add_zero, Nat.zero_add, Nat.le_refl, Nat.reduceAdd, Nat.reduceLT, Nat.reduceLeDiff, Nat.zero_le, not_false_eq_true, not_true_eq_false, false_implies, implies_true, true_implies, Nat.zero_lt_succ, Nat.lt_add_one, pm_tl_v, List.cons_append, List.nil_append, pm_k5_c, pm_tl_n, pm_tl_s, i1, i2, i3, i4, i5, hus2, m3', l3']
      refine PM_use (c_M_thrown m3 459) ?_
      rintro w9 h4 l4 ⟨rfl, rfl⟩
      show KL1 _ _ _ _ _ _ _ _ _
      simp only [g_1298, g_1300, g_1303, g_1305, g_1307, g_1310, g_1311, g_1312, g_1313, g_1315, g_1316, g_1317, g_1320, g_1322, g_1934, pm_1i_c, pm_2i_c, pm_1l_c, pm_2l_c, pm_1a_c, pm_ia_c, pm_iia_c, pm_va_c, pm_cp_c, pm_k0_c, pm_k1_c, pm_k2_c, pm_k3_c, pm_s1_c, pm_s2_c, pm_s3_c, pm_s4_c, pm_ri_c, pm_ra_c, pm_rn_c, pm_rk_i, pm_rk_z, pm_rk_a, pm_vk_i, pm_vk_z, pm_vk_a, pm_cti, pm_ctr, pm_ldi_z, pm_ldi_s, pm_lda_z, pm_lda_s, pm_cat_n, pm_cat_i, pm_cat_r, pm_cat_l, pm_obj, pm_arr, pm_opt, List.getElem?_cons_zero, List.getElem?_cons_succ, List.set_cons_zero, List.set_cons_succ, List.length_cons, List.length_nil, List.length_set, true_and, and_true, Nat.add_zero, Nat.zero_add, Nat.le_refl, Nat.reduceAdd, Nat.reduceLT, Nat.reduceLeDiff, Nat.zero_le, not_false_eq_true, not_true_eq_false, false_implies, implies_true, true_implies, Nat.zero_lt_succ, Nat.lt_add_one, pm_tl_v, List.cons_append, List.nil_append, pm_k5_c, pm_tl_n, pm_tl_s, i1, i2, i3, i4, i5, hus2, t3, hk]
      exact hT _ _ _ ⟨_, R3⟩ l3' ⟨_, f3⟩
theorem cs_best (X : CX p l s m b0 meth c D ct b g adV L xs) (hxo : xo ≤ 900) {us : Nat} (hus : us + 6 ≤ 7293033) {th i : Int32} {u5 u6 : Option Value} {h : pmH} (R : RZ th h) (hl : h.length = 125) (hf : LG h) (i1 : vp_in (i + 1) L) (i2 : vp_in (i + 2) L) (i3 : vp_in (i + 3) L) (i4 : vp_in (i + 4) L) (i5 : vp_in (i + 5) L)  (hT : ∀ (u5 u6 : Option Value) (h2 : pmH), (∃ th, RZ th h2) → h2.length = 125 → LG h2 → SE p l e s m b0 below meth c Qf D ct b g xo 1934 [some (.ref 1000001), some (.ref 0), some (.ref 113), some (.ref 124), some (.int i), u5, u6] [] h2 us) : SE p l e s m b0 below meth c Qf D ct b g xo 1325 [some (.ref 1000001), some (.ref 0), some (.ref 113), some (.ref 124), some (.int i), u5, u6] [] h us := by
  obtain ⟨bs, ws, A, K, o, S, -⟩ := R
  have c0 := S.C.o
  have r0 := lw_ird hl L xs
  have hus2 : us ≤ 7293033 := by omega
  refine law_run X (by omega) lk_1 ?_
  by_cases z : xs ((i + 1).toNatClampNeg) = 0
  · show KL1 _ _ _ _ _ _ _ _ _
    simp only [g_1325, g_1326, g_1327, g_1329, g_1330, g_1331, g_1332, g_1335, g_1336, g_1339, g_1340, pm_1i_c, pm_2i_c, pm_1l_c, pm_2l_c, pm_1a_c, pm_ia_c, pm_iia_c, pm_va_c, pm_cp_c, pm_k0_c, pm_k1_c, pm_k2_c, pm_k3_c, pm_s1_c, pm_s2_c, pm_s3_c, pm_s4_c, pm_ri_c, pm_ra_c, pm_rn_c, pm_rk_i, pm_rk_z, pm_rk_a, pm_vk_i, pm_vk_z, pm_vk_a, pm_cti, pm_ctr, pm_ldi_z, pm_ldi_s, pm_lda_z, pm_lda_s, pm_cat_n, pm_cat_i, pm_cat_r, pm_cat_l, pm_obj, pm_arr, pm_opt, List.getElem?_cons_zero, List.getElem?_cons_succ, List.set_cons_zero, List.set_cons_succ, List.length_cons, List.length_nil, List.length_set, true_and, and_true, Nat.add_zero, Nat.zero_add, Nat.le_refl, Nat.reduceAdd, Nat.reduceLT, Nat.reduceLeDiff, Nat.zero_le, not_false_eq_true, not_true_eq_false, false_implies, implies_true, true_implies, Nat.zero_lt_succ, Nat.lt_add_one, pm_tl_v, List.cons_append, List.nil_append, pm_k5_c, pm_tl_n, pm_tl_s, i1, i2, i3, i4, i5, hus2, c0, r0, hl, z]
    refine PM_use (pr_best S hl (Or.inl rfl)) ?_
    rintro v h1 l1 ⟨y, rfl, e1, ⟨fs, hm⟩, P⟩
    have l1' : h1.length = 125 := by omega
    have r1 := lw_ird l1' L xs
    show KL1 _ _ _ _ _ _ _ _ _
    simp only [g_1343, g_1344, g_1345, g_1347, g_1348, g_1349, g_1350, g_1353, g_1354, g_1357, g_1358, pm_1i_c, pm_2i_c, pm_1l_c, pm_2l_c, pm_1a_c, pm_ia_c, pm_iia_c, pm_va_c, pm_cp_c, pm_k0_c, pm_k1_c, pm_k2_c, pm_k3_c, pm_s1_c, pm_s2_c, pm_s3_c, pm_s4_c, pm_ri_c, pm_ra_c, pm_rn_c, pm_rk_i, pm_rk_z, pm_rk_a, pm_vk_i, pm_vk_z, pm_vk_a, pm_cti, pm_ctr, pm_ldi_z, pm_ldi_s, pm_lda_z, pm_lda_s, pm_cat_n, pm_cat_i, pm_cat_r, pm_cat_l, pm_obj, pm_arr, pm_opt, List.getElem?_cons_zero, List.getElem?_cons_succ, List.set_cons_zero, List.set_cons_succ, List.length_cons, List.length_nil, List.length_set, true_and, and_true, Nat.add_zero, Nat.zero_add, Nat.le_refl, Nat.reduceAdd, Nat.reduceLT, Nat.reduceLeDiff, Nat.zero_le, not_false_eq_true, not_true_eq_false, false_implies, implies_true, true_implies, Nat.zero_lt_succ, Nat.lt_add_one, pm_tl_v, List.cons_append, List.nil_append, pm_k5_c, pm_tl_n, pm_tl_s, i1, i2, i3, i4, i5, hus2, hm, r1, l1', z]
    refine PM_use P ?_
    rintro w h2 l2 ⟨rfl, R2, e2⟩
    show KL1 _ _ _ _ _ _ _ _ _
    simp only [g_1361, g_1364, g_1934, pm_1i_c, pm_2i_c, pm_1l_c, pm_2l_c, pm_1a_c, pm_ia_c, pm_iia_c, pm_va_c, pm_cp_c, pm_k0_c, pm_k1_c, pm_k2_c, pm_k3_c, pm_s1_c, pm_s2_c, pm_s3_c, pm_s4_c, pm_ri_c, pm_ra_c, pm_rn_c, pm_rk_i, pm_rk_z, pm_rk_a, pm_vk_i, pm_vk_z, pm_vk_a, pm_cti, pm_ctr, pm_ldi_z, pm_ldi_s, pm_lda_z, pm_lda_s, pm_cat_n, pm_cat_i, pm_cat_r, pm_cat_l, pm_obj, pm_arr, pm_opt, List.getElem?_cons_zero, List.getElem?_cons_succ, List.set_cons_zero, List.set_cons_succ, List.length_cons, List.length_nil, List.length_set, true_and, and_true, Nat.add_zero, Nat.zero_add, Nat.le_refl, Nat.reduceAdd, Nat.reduceLT, Nat.reduceLeDiff, Nat.zero_le, not_false_eq_true, not_true_eq_false, false_implies, implies_true, true_implies, Nat.zero_lt_succ, Nat.lt_add_one, pm_tl_v, List.cons_append, List.nil_append, pm_k5_c, pm_tl_n, pm_tl_s, i1, i2, i3, i4, i5, hus2]
    exact hT _ _ h2 ⟨_, R2⟩ (by omega) (by obtain ⟨f, hf⟩ := hf; exact ⟨f, (e2.trans e1).trans hf⟩)
  · show KL1 _ _ _ _ _ _ _ _ _
    simp only [g_1325, g_1326, g_1327, g_1329, g_1330, g_1331, g_1332, g_1335, g_1336, g_1339, g_1340, pm_1i_c, pm_2i_c, pm_1l_c, pm_2l_c, pm_1a_c, pm_ia_c, pm_iia_c, pm_va_c, pm_cp_c, pm_k0_c, pm_k1_c, pm_k2_c, pm_k3_c, pm_s1_c, pm_s2_c, pm_s3_c, pm_s4_c, pm_ri_c, pm_ra_c, pm_rn_c, pm_rk_i, pm_rk_z, pm_rk_a, pm_vk_i, pm_vk_z, pm_vk_a, pm_cti, pm_ctr, pm_ldi_z, pm_ldi_s, pm_lda_z, pm_lda_s, pm_cat_n, pm_cat_i, pm_cat_r, pm_cat_l, pm_obj, pm_arr, pm_opt, List.getElem?_cons_zero, List.getElem?_cons_succ, List.set_cons_zero, List.set_cons_succ, List.length_cons, List.length_nil, List.length_set, true_and, and_true, Nat.add_zero, Nat.zero_add, Nat.le_refl, Nat.reduceAdd, Nat.reduceLT, Nat.reduceLeDiff, Nat.zero_le, not_false_eq_true, not_true_eq_false, false_implies, implies_true, true_implies, Nat.zero_lt_succ, Nat.lt_add_one, pm_tl_v, List.cons_append, List.nil_append, pm_k5_c, pm_tl_n, pm_tl_s, i1, i2, i3, i4, i5, hus2, c0, r0, hl, z]
    refine PM_use (pr_best S hl (Or.inr rfl)) ?_
    rintro v h1 l1 ⟨y, rfl, e1, ⟨fs, hm⟩, P⟩
    have l1' : h1.length = 125 := by omega
    have r1 := lw_ird l1' L xs
    show KL1 _ _ _ _ _ _ _ _ _
    simp only [g_1343, g_1344, g_1345, g_1347, g_1348, g_1349, g_1350, g_1353, g_1354, g_1357, g_1358, pm_1i_c, pm_2i_c, pm_1l_c, pm_2l_c, pm_1a_c, pm_ia_c, pm_iia_c, pm_va_c, pm_cp_c, pm_k0_c, pm_k1_c, pm_k2_c, pm_k3_c, pm_s1_c, pm_s2_c, pm_s3_c, pm_s4_c, pm_ri_c, pm_ra_c, pm_rn_c, pm_rk_i, pm_rk_z, pm_rk_a, pm_vk_i, pm_vk_z, pm_vk_a, pm_cti, pm_ctr, pm_ldi_z, pm_ldi_s, pm_lda_z, pm_lda_s, pm_cat_n, pm_cat_i, pm_cat_r, pm_cat_l, pm_obj, pm_arr, pm_opt, List.getElem?_cons_zero, List.getElem?_cons_succ, List.set_cons_zero, List.set_cons_succ, List.length_cons, List.length_nil, List.length_set, true_and, and_true, Nat.add_zero, Nat.zero_add, Nat.le_refl, Nat.reduceAdd, Nat.reduceLT, Nat.reduceLeDiff, Nat.zero_le, not_false_eq_true, not_true_eq_false, false_implies, implies_true, true_implies, Nat.zero_lt_succ, Nat.lt_add_one, pm_tl_v, List.cons_append, List.nil_append, pm_k5_c, pm_tl_n, pm_tl_s, i1, i2, i3, i4, i5, hus2, hm, r1, l1', z]
    refine PM_use P ?_
    rintro w h2 l2 ⟨rfl, R2, e2⟩
    show KL1 _ _ _ _ _ _ _ _ _
    simp only [g_1361, g_1364, g_1934, pm_1i_c, pm_2i_c, pm_1l_c, pm_2l_c, pm_1a_c, pm_ia_c, pm_iia_c, pm_va_c, pm_cp_c, pm_k0_c, pm_k1_c, pm_k2_c, pm_k3_c, pm_s1_c, pm_s2_c, pm_s3_c, pm_s4_c, pm_ri_c, pm_ra_c, pm_rn_c, pm_rk_i, pm_rk_z, pm_rk_a, pm_vk_i, pm_vk_z, pm_vk_a, pm_cti, pm_ctr, pm_ldi_z, pm_ldi_s, pm_lda_z, pm_lda_s, pm_cat_n, pm_cat_i, pm_cat_r, pm_cat_l, pm_obj, pm_arr, pm_opt, List.getElem?_cons_zero, List.getElem?_cons_succ, List.set_cons_zero, List.set_cons_succ, List.length_cons, List.length_nil, List.length_set, true_and, and_true, Nat.add_zero, Nat.zero_add, Nat.le_refl, Nat.reduceAdd, Nat.reduceLT, Nat.reduceLeDiff, Nat.zero_le, not_false_eq_true, not_true_eq_false, false_implies, implies_true, true_implies, Nat.zero_lt_succ, Nat.lt_add_one, pm_tl_v, List.cons_append, List.nil_append, pm_k5_c, pm_tl_n, pm_tl_s, i1, i2, i3, i4, i5, hus2]
    exact hT _ _ h2 ⟨_, R2⟩ (by omega) (by obtain ⟨f, hf⟩ := hf; exact ⟨f, (e2.trans e1).trans hf⟩)
theorem ct_plain (X : CX p l s m b0 meth c D ct b g adV L xs) (hxo : xo ≤ 900) {us : Nat} (hus : us + 6 ≤ 7293033) {th i : Int32} {u5 u6 : Option Value} {h : pmH} (R : RZ th h) (hl : h.length = 125) (hf : LG h) (i1 : vp_in (i + 1) L) (i2 : vp_in (i + 2) L) (i3 : vp_in (i + 3) L) (i4 : vp_in (i + 4) L) (i5 : vp_in (i + 5) L)  (hT : ∀ (u5 u6 : Option Value) (h2 : pmH), (∃ th, RZ th h2) → h2.length = 125 → LG h2 → SE p l e s m b0 below meth c Qf D ct b g (xo + 1) 1934 [some (.ref 1000001), some (.ref 0), some (.ref 113), some (.ref 124), some (.int i), u5, u6] [] h2 (us + 6)) : SE p l e s m b0 below meth c Qf D ct b g xo 1366 [some (.ref 1000001), some (.ref 0), some (.ref 113), some (.ref 124), some (.int i), u5, u6] [] h us := by
  obtain ⟨bs, ws, A, K, o, S, -⟩ := R
  have c0 := S.C.o
  have r0 := lw_ird hl L xs
  obtain ⟨f, hf⟩ := hf
  have hus2 : us ≤ 7293033 := by omega
  obtain ⟨Q, hW, hQ⟩ := tr_plain S hl (xs ((i + 1).toNatClampNeg))
  refine law_run X (by omega) lk_1 ?_
  show KL1 _ _ _ _ _ _ _ _ _
  simp only [g_1366, g_1367, g_1368, g_1370, g_1371, g_1372, g_1373, g_1374, pm_1i_c, pm_2i_c, pm_1l_c, pm_2l_c, pm_1a_c, pm_ia_c, pm_iia_c, pm_va_c, pm_cp_c, pm_k0_c, pm_k1_c, pm_k2_c, pm_k3_c, pm_s1_c, pm_s2_c, pm_s3_c, pm_s4_c, pm_ri_c, pm_ra_c, pm_rn_c, pm_rk_i, pm_rk_z, pm_rk_a, pm_vk_i, pm_vk_z, pm_vk_a, pm_cti, pm_ctr, pm_ldi_z, pm_ldi_s, pm_lda_z, pm_lda_s, pm_cat_n, pm_cat_i, pm_cat_r, pm_cat_l, pm_obj, pm_arr, pm_opt, List.getElem?_cons_zero, List.getElem?_cons_succ, List.set_cons_zero, List.set_cons_succ, List.length_cons, List.length_nil, List.length_set, true_and, and_true, Nat.add_zero, Nat.zero_add, Nat.le_refl, Nat.reduceAdd, Nat.reduceLT, Nat.reduceLeDiff, Nat.zero_le, not_false_eq_true, not_true_eq_false, false_implies, implies_true, true_implies, Nat.zero_lt_succ, Nat.lt_add_one, pm_tl_v, List.cons_append, List.nil_append, pm_k5_c, pm_tl_n, pm_tl_s, i1, i2, i3, i4, i5, hus2, c0, r0, hl]
  refine law_call X (idx := 179) (n := 3) (y := yL_plain) (cc := cL_plain) (maxL := 4) (hh := [(0, 9, 12, 13)]) (as := [.ref 0, .int (xs ((i + 1).toNatClampNeg)), .ref 124]) (by omega) hus hl (hp_plain (d := 458) (f := f) X.2.2.2.2.2.2.2.2.1 X.2.2.2.2.2.2.1 c0 (fun v h1 z => (hQ v h1 z).1.trans hf) (fun v h1 z => by
    rcases (hQ v h1 z).2.2 with ⟨y, hy, -⟩ | ⟨e, he, -⟩
    · exact Or.inl ⟨y, hy⟩
    · exact Or.inr ⟨e, he⟩) (fun e h1 z => by
    rcases (hQ _ h1 z).2.2 with ⟨y, hy, -⟩ | ⟨e9, he, hE, -⟩
    · cases hy
    · cases he
      exact hE) hW) (pm_w_in (j := 5196) (by decide +kernel)) (pm_w_in (j := 5194) (by decide +kernel)) (pm_w_in (j := 5195) (by decide +kernel)) (pm_w_in (j := 1000) (by decide +kernel)) (by decide +kernel) (by decide) rfl (by decide +kernel) ?_
  have hus2 : us + 6 ≤ 7293033 := hus
  intro v h1 l1 hp
  rcases hp with ⟨y, h9, hq, rfl, rfl⟩ | ⟨ev, he, hq, rfl⟩
  · rcases hQ _ _ hq with ⟨e1, ⟨fs, hm⟩, ⟨y', hy, P⟩ | ⟨e', hy, -⟩⟩
    · cases hy
      have l9 : h9.length = 125 := by rw [List.length_set] at l1; exact l1
      suffices key : ∀ h1 : pmH, h1 = h9.set 124 (.inl (3, 1, .inr (.inl (vp_updL f 0 y.toInt64)))) → SE p l e s m b0 below meth c Qf D ct b g (xo + 1) 1377 [some (.ref 1000001), some (.ref 0), some (.ref 113), some (.ref 124), some (.int i), u5, u6] [.int 0] h1 (us + 6) from key _ rfl
      clear l1
      intro h1 hh1
      have f1 : ∀ i, i ≠ 124 → h1[i]? = h9[i]? := fun i hi => by rw [hh1]; exact List.getElem?_set_ne (fun z => hi z.symm)
      have f2 : h1[124]? = some (.inl (3, 1, .inr (.inl (vp_updL f 0 y.toInt64)))) := by rw [hh1]; exact List.getElem?_set_self (by omega)
      have l1 : h1.length = 125 := by rw [hh1, List.length_set]; exact l9
      clear hh1
      have r1 := lw_ird l1 L xs
      have hm1 := (f1 113 (by omega)).trans hm
      refine law_run X (by omega) lk_1 ?_
      show KL1 _ _ _ _ _ _ _ _ _
      simp only [g_1377, g_1379, g_1380, g_1381, g_1383, g_1384, g_1385, g_1386, pm_1i_c, pm_2i_c, pm_1l_c, pm_2l_c, pm_1a_c, pm_ia_c, pm_iia_c, pm_va_c, pm_cp_c, pm_k0_c, pm_k1_c, pm_k2_c, pm_k3_c, pm_s1_c, pm_s2_c, pm_s3_c, pm_s4_c, pm_ri_c, pm_ra_c, pm_rn_c, pm_rk_i, pm_rk_z, pm_rk_a, pm_vk_i, pm_vk_z, pm_vk_a, pm_cti, pm_ctr, pm_ldi_z, pm_ldi_s, pm_lda_z, pm_lda_s, pm_cat_n, pm_cat_i, pm_cat_r, pm_cat_l, pm_obj, pm_arr, pm_opt, List.getElem?_cons_zero, List.getElem?_cons_succ, List.set_cons_zero, List.set_cons_succ, List.length_cons, List.length_nil, List.length_set, true_and, and_true, Nat.add_zero, Nat.zero_add, Nat.le_refl, Nat.reduceAdd, Nat.reduceLT, Nat.reduceLeDiff, Nat.zero_le, not_false_eq_true, not_true_eq_false, false_implies, implies_true, true_implies, Nat.zero_lt_succ, Nat.lt_add_one, pm_tl_v, List.cons_append, List.nil_append, pm_k5_c, pm_tl_n, pm_tl_s, i1, i2, i3, i4, i5, hus2, hm1, r1, l1]
      refine PM_use (P h1 f1) ?_
      rintro w h3 l3 ⟨rfl, R3, e3⟩
      have l3' : h3.length = 125 := by omega
      obtain ⟨o3, m3, t3⟩ := R3.len
      have m3' := m3
      unfold mO at m3'
      have f3 := e3.trans f2
      show KL1 _ _ _ _ _ _ _ _ _
      simp only [g_1389, g_1391, g_1392, pm_1i_c, pm_2i_c, pm_1l_c, pm_2l_c, pm_1a_c, pm_ia_c, pm_iia_c, pm_va_c, pm_cp_c, pm_k0_c, pm_k1_c, pm_k2_c, pm_k3_c, pm_s1_c, pm_s2_c, pm_s3_c, pm_s4_c, pm_ri_c, pm_ra_c, pm_rn_c, pm_rk_i, pm_rk_z, pm_rk_a, pm_vk_i, pm_vk_z, pm_vk_a, pm_cti, pm_ctr, pm_ldi_z, pm_ldi_s, pm_lda_z, pm_lda_s, pm_cat_n, pm_cat_i, pm_cat_r, pm_cat_l, pm_obj, pm_arr, pm_opt, List.getElem?_cons_zero, List.getElem?_cons_succ, List.set_cons_zero, List.set_cons_succ, List.length_cons, List.length_nil, List.length_set, true_and, and_true, Nat.add_zero, Nat.zero_add, Nat.le_refl, Nat.reduceAdd, Nat.reduceLT, Nat.reduceLeDiff, Nat.zero_le, not_false_eq_true, not_true_eq_false, false_implies, implies_true, true_implies, Nat.zero_lt_succ, Nat.lt_add_one, pm_tl_v, List.cons_append, List.nil_append, pm_k5_c, pm_tl_n, pm_tl_s, i1, i2, i3, i4, i5, hus2, m3', l3']
      refine PM_use (c_M_thrown m3 459) ?_
      rintro w9 h4 l4 ⟨rfl, rfl⟩
      show KL1 _ _ _ _ _ _ _ _ _
      simp only [g_1395, g_1397, g_1400, g_1402, g_1404, g_1407, g_1408, g_1409, g_1410, g_1412, g_1413, g_1414, g_1417, g_1419, g_1934, pm_1i_c, pm_2i_c, pm_1l_c, pm_2l_c, pm_1a_c, pm_ia_c, pm_iia_c, pm_va_c, pm_cp_c, pm_k0_c, pm_k1_c, pm_k2_c, pm_k3_c, pm_s1_c, pm_s2_c, pm_s3_c, pm_s4_c, pm_ri_c, pm_ra_c, pm_rn_c, pm_rk_i, pm_rk_z, pm_rk_a, pm_vk_i, pm_vk_z, pm_vk_a, pm_cti, pm_ctr, pm_ldi_z, pm_ldi_s, pm_lda_z, pm_lda_s, pm_cat_n, pm_cat_i, pm_cat_r, pm_cat_l, pm_obj, pm_arr, pm_opt, List.getElem?_cons_zero, List.getElem?_cons_succ, List.set_cons_zero, List.set_cons_succ, List.length_cons, List.length_nil, List.length_set, true_and, and_true, Nat.add_zero, Nat.zero_add, Nat.le_refl, Nat.reduceAdd, Nat.reduceLT, Nat.reduceLeDiff, Nat.zero_le, not_false_eq_true, not_true_eq_false, false_implies, implies_true, true_implies, Nat.zero_lt_succ, Nat.lt_add_one, pm_tl_v, List.cons_append, List.nil_append, pm_k5_c, pm_tl_n, pm_tl_s, i1, i2, i3, i4, i5, hus2, t3, f3, pm_arl, px_z0, px_in01, vp_updL_0, lg_cmp_s, eq_self]
      exact hT _ _ _ ⟨_, R3⟩ l3' ⟨_, f3⟩
    · cases hy
  · rcases hQ _ _ hq with ⟨e1, ⟨fs, hm⟩, ⟨y', hy, -⟩ | ⟨e', hy, hE, P⟩⟩
    · cases hy
    · cases hy
      have r1 := lw_ird l1 L xs
      have hk : ¬ (1 : Int32) = 0 := by decide
      refine law_run X (by omega) lk_1 ?_
      show KL1 _ _ _ _ _ _ _ _ _
      simp only [g_1377, g_1379, g_1380, g_1381, g_1383, g_1384, g_1385, g_1386, pm_1i_c, pm_2i_c, pm_1l_c, pm_2l_c, pm_1a_c, pm_ia_c, pm_iia_c, pm_va_c, pm_cp_c, pm_k0_c, pm_k1_c, pm_k2_c, pm_k3_c, pm_s1_c, pm_s2_c, pm_s3_c, pm_s4_c, pm_ri_c, pm_ra_c, pm_rn_c, pm_rk_i, pm_rk_z, pm_rk_a, pm_vk_i, pm_vk_z, pm_vk_a, pm_cti, pm_ctr, pm_ldi_z, pm_ldi_s, pm_lda_z, pm_lda_s, pm_cat_n, pm_cat_i, pm_cat_r, pm_cat_l, pm_obj, pm_arr, pm_opt, List.getElem?_cons_zero, List.getElem?_cons_succ, List.set_cons_zero, List.set_cons_succ, List.length_cons, List.length_nil, List.length_set, true_and, and_true, Nat.add_zero, Nat.zero_add, Nat.le_refl, Nat.reduceAdd, Nat.reduceLT, Nat.reduceLeDiff, Nat.zero_le, not_false_eq_true, not_true_eq_false, false_implies, implies_true, true_implies, Nat.zero_lt_succ, Nat.lt_add_one, pm_tl_v, List.cons_append, List.nil_append, pm_k5_c, pm_tl_n, pm_tl_s, i1, i2, i3, i4, i5, hus2, hm, r1, l1]
      refine PM_use P ?_
      rintro w h3 l3 ⟨⟨zz, rfl⟩, R3, e3⟩
      have l3' : h3.length = 125 := by omega
      obtain ⟨o3, m3, t3⟩ := R3.len
      have m3' := m3
      unfold mO at m3'
      have f3 := (e3.trans e1).trans hf
      show KL1 _ _ _ _ _ _ _ _ _
      simp only [g_1389, g_1391, g_1392, pm_1i_c, pm_2i_c, pm_1l_c, pm_2l_c, pm_1a_c, pm_ia_c, pm_iia_c, pm_va_c, pm_cp_c, pm_k0_c, pm_k1_c, pm_k2_c, pm_k3_c, pm_s1_c, pm_s2_c, pm_s3_c, pm_s4_c, pm_ri_c, pm_ra_c, pm_rn_c, pm_rk_i, pm_rk_z, pm_rk_a, pm_vk_i, pm_vk_z, pm_vk_a, pm_cti, pm_ctr, pm_ldi_z, pm_ldi_s, pm_lda_z, pm_lda_s, pm_cat_n, pm_cat_i, pm_cat_r, pm_cat_l, pm_obj, pm_arr, pm_opt, List.getElem?_cons_zero, List.getElem?_cons_succ, List.set_cons_zero, List.set_cons_succ, List.length_cons, List.length_nil, List.length_set, true_and, and_true, Nat.add_zero, Nat.zero_add, Nat.le_refl, Nat.reduceAdd, Nat.reduceLT, Nat.reduceLeDiff, Nat.zero_le, not_false_eq_true, not_true_eq_false, false_implies, implies_true, true_implies, Nat.zero_lt_succ, Nat.lt_add_one, pm_tl_v, List.cons_append, List.nil_append, pm_k5_c, pm_tl_n, pm_tl_s, i1, i2, i3, i4, i5, hus2, m3', l3']
      refine PM_use (c_M_thrown m3 459) ?_
      rintro w9 h4 l4 ⟨rfl, rfl⟩
      show KL1 _ _ _ _ _ _ _ _ _
      simp only [g_1395, g_1397, g_1400, g_1402, g_1404, g_1407, g_1408, g_1409, g_1410, g_1412, g_1413, g_1414, g_1417, g_1419, g_1934, pm_1i_c, pm_2i_c, pm_1l_c, pm_2l_c, pm_1a_c, pm_ia_c, pm_iia_c, pm_va_c, pm_cp_c, pm_k0_c, pm_k1_c, pm_k2_c, pm_k3_c, pm_s1_c, pm_s2_c, pm_s3_c, pm_s4_c, pm_ri_c, pm_ra_c, pm_rn_c, pm_rk_i, pm_rk_z, pm_rk_a, pm_vk_i, pm_vk_z, pm_vk_a, pm_cti, pm_ctr, pm_ldi_z, pm_ldi_s, pm_lda_z, pm_lda_s, pm_cat_n, pm_cat_i, pm_cat_r, pm_cat_l, pm_obj, pm_arr, pm_opt, List.getElem?_cons_zero, List.getElem?_cons_succ, List.set_cons_zero, List.set_cons_succ, List.length_cons, List.length_nil, List.length_set, true_and, and_true, Nat.add_zero, Nat.zero_add, Nat.le_refl, Nat.reduceAdd, Nat.reduceLT, Nat.reduceLeDiff, Nat.zero_le, not_false_eq_true, not_true_eq_false, false_implies, implies_true, true_implies, Nat.zero_lt_succ, Nat.lt_add_one, pm_tl_v, List.cons_append, List.nil_append, pm_k5_c, pm_tl_n, pm_tl_s, i1, i2, i3, i4, i5, hus2, t3, hk]
      exact hT _ _ _ ⟨_, R3⟩ l3' ⟨_, f3⟩
theorem ct_ideal (X : CX p l s m b0 meth c D ct b g adV L xs) (hxo : xo ≤ 900) {us : Nat} (hus : us + 6 ≤ 7293033) {th i : Int32} {u5 u6 : Option Value} {h : pmH} (R : RZ th h) (hl : h.length = 125) (hf : LG h) (i1 : vp_in (i + 1) L) (i2 : vp_in (i + 2) L) (i3 : vp_in (i + 3) L) (i4 : vp_in (i + 4) L) (i5 : vp_in (i + 5) L)  (hT : ∀ (u5 u6 : Option Value) (h2 : pmH), (∃ th, RZ th h2) → h2.length = 125 → LG h2 → SE p l e s m b0 below meth c Qf D ct b g (xo + 1) 1934 [some (.ref 1000001), some (.ref 0), some (.ref 113), some (.ref 124), some (.int i), u5, u6] [] h2 (us + 6)) : SE p l e s m b0 below meth c Qf D ct b g xo 1422 [some (.ref 1000001), some (.ref 0), some (.ref 113), some (.ref 124), some (.int i), u5, u6] [] h us := by
  obtain ⟨bs, ws, A, K, o, S, -⟩ := R
  have c0 := S.C.o
  have r0 := lw_ird hl L xs
  obtain ⟨f, hf⟩ := hf
  have hus2 : us ≤ 7293033 := by omega
  obtain ⟨Q, hW, hQ⟩ := tr_ideal S hl (xs ((i + 1).toNatClampNeg))
  refine law_run X (by omega) lk_1 ?_
  show KL1 _ _ _ _ _ _ _ _ _
  simp only [g_1422, g_1423, g_1424, g_1426, g_1427, g_1428, g_1429, g_1430, pm_1i_c, pm_2i_c, pm_1l_c, pm_2l_c, pm_1a_c, pm_ia_c, pm_iia_c, pm_va_c, pm_cp_c, pm_k0_c, pm_k1_c, pm_k2_c, pm_k3_c, pm_s1_c, pm_s2_c, pm_s3_c, pm_s4_c, pm_ri_c, pm_ra_c, pm_rn_c, pm_rk_i, pm_rk_z, pm_rk_a, pm_vk_i, pm_vk_z, pm_vk_a, pm_cti, pm_ctr, pm_ldi_z, pm_ldi_s, pm_lda_z, pm_lda_s, pm_cat_n, pm_cat_i, pm_cat_r, pm_cat_l, pm_obj, pm_arr, pm_opt, List.getElem?_cons_zero, List.getElem?_cons_succ, List.set_cons_zero, List.set_cons_succ, List.length_cons, List.length_nil, List.length_set, true_and, and_true, Nat.add_zero, Nat.zero_add, Nat.le_refl, Nat.reduceAdd, Nat.reduceLT, Nat.reduceLeDiff, Nat.zero_le, not_false_eq_true, not_true_eq_false, false_implies, implies_true, true_implies, Nat.zero_lt_succ, Nat.lt_add_one, pm_tl_v, List.cons_append, List.nil_append, pm_k5_c, pm_tl_n, pm_tl_s, i1, i2, i3, i4, i5, hus2, c0, r0, hl]
  refine law_call X (idx := 182) (n := 3) (y := yL_ideal) (cc := cL_ideal) (maxL := 4) (hh := [(0, 9, 12, 13)]) (as := [.ref 0, .int (xs ((i + 1).toNatClampNeg)), .ref 124]) (by omega) hus hl (hp_ideal (d := 458) (f := f) X.2.2.2.2.2.2.2.2.1 X.2.2.2.2.2.2.1 c0 (fun v h1 z => (hQ v h1 z).1.trans hf) (fun v h1 z => by
    rcases (hQ v h1 z).2.2 with ⟨y, hy, -⟩ | ⟨e, he, -⟩
    · exact Or.inl ⟨y, hy⟩
    · exact Or.inr ⟨e, he⟩) (fun e h1 z => by
    rcases (hQ _ h1 z).2.2 with ⟨y, hy, -⟩ | ⟨e9, he, hE, -⟩
    · cases hy
    · cases he
      exact hE) hW) (pm_w_in (j := 5204) (by decide +kernel)) (pm_w_in (j := 5202) (by decide +kernel)) (pm_w_in (j := 5203) (by decide +kernel)) (pm_w_in (j := 1000) (by decide +kernel)) (by decide +kernel) (by decide) rfl (by decide +kernel) ?_
  have hus2 : us + 6 ≤ 7293033 := hus
  intro v h1 l1 hp
  rcases hp with ⟨y, h9, hq, rfl, rfl⟩ | ⟨ev, he, hq, rfl⟩
  · rcases hQ _ _ hq with ⟨e1, ⟨fs, hm⟩, ⟨y', hy, P⟩ | ⟨e', hy, -⟩⟩
    · cases hy
      have l9 : h9.length = 125 := by rw [List.length_set] at l1; exact l1
      suffices key : ∀ h1 : pmH, h1 = h9.set 124 (.inl (3, 1, .inr (.inl (vp_updL f 0 y.toInt64)))) → SE p l e s m b0 below meth c Qf D ct b g (xo + 1) 1433 [some (.ref 1000001), some (.ref 0), some (.ref 113), some (.ref 124), some (.int i), u5, u6] [.int 0] h1 (us + 6) from key _ rfl
      clear l1
      intro h1 hh1
      have f1 : ∀ i, i ≠ 124 → h1[i]? = h9[i]? := fun i hi => by rw [hh1]; exact List.getElem?_set_ne (fun z => hi z.symm)
      have f2 : h1[124]? = some (.inl (3, 1, .inr (.inl (vp_updL f 0 y.toInt64)))) := by rw [hh1]; exact List.getElem?_set_self (by omega)
      have l1 : h1.length = 125 := by rw [hh1, List.length_set]; exact l9
      clear hh1
      have r1 := lw_ird l1 L xs
      have hm1 := (f1 113 (by omega)).trans hm
      refine law_run X (by omega) lk_1 ?_
      show KL1 _ _ _ _ _ _ _ _ _
      simp only [g_1433, g_1435, g_1436, g_1437, g_1439, g_1440, g_1441, g_1442, pm_1i_c, pm_2i_c, pm_1l_c, pm_2l_c, pm_1a_c, pm_ia_c, pm_iia_c, pm_va_c, pm_cp_c, pm_k0_c, pm_k1_c, pm_k2_c, pm_k3_c, pm_s1_c, pm_s2_c, pm_s3_c, pm_s4_c, pm_ri_c, pm_ra_c, pm_rn_c, pm_rk_i, pm_rk_z, pm_rk_a, pm_vk_i, pm_vk_z, pm_vk_a, pm_cti, pm_ctr, pm_ldi_z, pm_ldi_s, pm_lda_z, pm_lda_s, pm_cat_n, pm_cat_i, pm_cat_r, pm_cat_l, pm_obj, pm_arr, pm_opt, List.getElem?_cons_zero, List.getElem?_cons_succ, List.set_cons_zero, List.set_cons_succ, List.length_cons, List.length_nil, List.length_set, true_and, and_true, Nat.add_zero, Nat.zero_add, Nat.le_refl, Nat.reduceAdd, Nat.reduceLT, Nat.reduceLeDiff, Nat.zero_le, not_false_eq_true, not_true_eq_false, false_implies, implies_true, true_implies, Nat.zero_lt_succ, Nat.lt_add_one, pm_tl_v, List.cons_append, List.nil_append, pm_k5_c, pm_tl_n, pm_tl_s, i1, i2, i3, i4, i5, hus2, hm1, r1, l1]
      refine PM_use (P h1 f1) ?_
      rintro w h3 l3 ⟨rfl, R3, e3⟩
      have l3' : h3.length = 125 := by omega
      obtain ⟨o3, m3, t3⟩ := R3.len
      have m3' := m3
      unfold mO at m3'
      have f3 := e3.trans f2
      show KL1 _ _ _ _ _ _ _ _ _
      simp only [g_1445, g_1447, g_1448, pm_1i_c, pm_2i_c, pm_1l_c, pm_2l_c, pm_1a_c, pm_ia_c, pm_iia_c, pm_va_c, pm_cp_c, pm_k0_c, pm_k1_c, pm_k2_c, pm_k3_c, pm_s1_c, pm_s2_c, pm_s3_c, pm_s4_c, pm_ri_c, pm_ra_c, pm_rn_c, pm_rk_i, pm_rk_z, pm_rk_a, pm_vk_i, pm_vk_z, pm_vk_a, pm_cti, pm_ctr, pm_ldi_z, pm_ldi_s, pm_lda_z, pm_lda_s, pm_cat_n, pm_cat_i, pm_cat_r, pm_cat_l, pm_obj, pm_arr, pm_opt, List.getElem?_cons_zero, List.getElem?_cons_succ, List.set_cons_zero, List.set_cons_succ, List.length_cons, List.length_nil, List.length_set, true_and, and_true, Nat.add_zero, Nat.zero_add, Nat.le_refl, Nat.reduceAdd, Nat.reduceLT, Nat.reduceLeDiff, Nat.zero_le, not_false_eq_true, not_true_eq_false, false_implies, implies_true, true_implies, Nat.zero_lt_succ, Nat.lt_add_one, pm_tl_v, List.cons_append, List.nil_append, pm_k5_c, pm_tl_n, pm_tl_s, i1, i2, i3, i4, i5, hus2, m3', l3']
      refine PM_use (c_M_thrown m3 459) ?_
      rintro w9 h4 l4 ⟨rfl, rfl⟩
      show KL1 _ _ _ _ _ _ _ _ _
      simp only [g_1451, g_1453, g_1456, g_1458, g_1460, g_1463, g_1464, g_1465, g_1466, g_1468, g_1469, g_1470, g_1473, g_1475, g_1934, pm_1i_c, pm_2i_c, pm_1l_c, pm_2l_c, pm_1a_c, pm_ia_c, pm_iia_c, pm_va_c, pm_cp_c, pm_k0_c, pm_k1_c, pm_k2_c, pm_k3_c, pm_s1_c, pm_s2_c, pm_s3_c, pm_s4_c, pm_ri_c, pm_ra_c, pm_rn_c, pm_rk_i, pm_rk_z, pm_rk_a, pm_vk_i, pm_vk_z, pm_vk_a, pm_cti, pm_ctr, pm_ldi_z, pm_ldi_s, pm_lda_z, pm_lda_s, pm_cat_n, pm_cat_i, pm_cat_r, pm_cat_l, pm_obj, pm_arr, pm_opt, List.getElem?_cons_zero, List.getElem?_cons_succ, List.set_cons_zero, List.set_cons_succ, List.length_cons, List.length_nil, List.length_set, true_and, and_true, Nat.add_zero, Nat.zero_add, Nat.le_refl, Nat.reduceAdd, Nat.reduceLT, Nat.reduceLeDiff, Nat.zero_le, not_false_eq_true, not_true_eq_false, false_implies, implies_true, true_implies, Nat.zero_lt_succ, Nat.lt_add_one, pm_tl_v, List.cons_append, List.nil_append, pm_k5_c, pm_tl_n, pm_tl_s, i1, i2, i3, i4, i5, hus2, t3, f3, pm_arl, px_z0, px_in01, vp_updL_0, lg_cmp_s, eq_self]
      exact hT _ _ _ ⟨_, R3⟩ l3' ⟨_, f3⟩
    · cases hy
  · rcases hQ _ _ hq with ⟨e1, ⟨fs, hm⟩, ⟨y', hy, -⟩ | ⟨e', hy, hE, P⟩⟩
    · cases hy
    · cases hy
      have r1 := lw_ird l1 L xs
      have hk : ¬ (1 : Int32) = 0 := by decide
      refine law_run X (by omega) lk_1 ?_
      show KL1 _ _ _ _ _ _ _ _ _
      simp only [g_1433, g_1435, g_1436, g_1437, g_1439, g_1440, g_1441, g_1442, pm_1i_c, pm_2i_c, pm_1l_c, pm_2l_c, pm_1a_c, pm_ia_c, pm_iia_c, pm_va_c, pm_cp_c, pm_k0_c, pm_k1_c, pm_k2_c, pm_k3_c, pm_s1_c, pm_s2_c, pm_s3_c, pm_s4_c, pm_ri_c, pm_ra_c, pm_rn_c, pm_rk_i, pm_rk_z, pm_rk_a, pm_vk_i, pm_vk_z, pm_vk_a, pm_cti, pm_ctr, pm_ldi_z, pm_ldi_s, pm_lda_z, pm_lda_s, pm_cat_n, pm_cat_i, pm_cat_r, pm_cat_l, pm_obj, pm_arr, pm_opt, List.getElem?_cons_zero, List.getElem?_cons_succ, List.set_cons_zero, List.set_cons_succ, List.length_cons, List.length_nil, List.length_set, true_and, and_true, Nat.add_zero, Nat.zero_add, Nat.le_refl, Nat.reduceAdd, Nat.reduceLT, Nat.reduceLeDiff, Nat.zero_le, not_false_eq_true, not_true_eq_false, false_implies, implies_true, true_implies, Nat.zero_lt_succ, Nat.lt_add_one, pm_tl_v, List.cons_append, List.nil_append, pm_k5_c, pm_tl_n, pm_tl_s, i1, i2, i3, i4, i5, hus2, hm, r1, l1]
      refine PM_use P ?_
      rintro w h3 l3 ⟨⟨zz, rfl⟩, R3, e3⟩
      have l3' : h3.length = 125 := by omega
      obtain ⟨o3, m3, t3⟩ := R3.len
      have m3' := m3
      unfold mO at m3'
      have f3 := (e3.trans e1).trans hf
      show KL1 _ _ _ _ _ _ _ _ _
      simp only [g_1445, g_1447, g_1448, pm_1i_c, pm_2i_c, pm_1l_c, pm_2l_c, pm_1a_c, pm_ia_c, pm_iia_c, pm_va_c, pm_cp_c, pm_k0_c, pm_k1_c, pm_k2_c, pm_k3_c, pm_s1_c, pm_s2_c, pm_s3_c, pm_s4_c, pm_ri_c, pm_ra_c, pm_rn_c, pm_rk_i, pm_rk_z, pm_rk_a, pm_vk_i, pm_vk_z, pm_vk_a, pm_cti, pm_ctr, pm_ldi_z, pm_ldi_s, pm_lda_z, pm_lda_s, pm_cat_n, pm_cat_i, pm_cat_r, pm_cat_l, pm_obj, pm_arr, pm_opt, List.getElem?_cons_zero, List.getElem?_cons_succ, List.set_cons_zero, List.set_cons_succ, List.length_cons, List.length_nil, List.length_set, true_and, and_true, Nat.add_zero, Nat.zero_add, Nat.le_refl, Nat.reduceAdd, Nat.reduceLT, Nat.reduceLeDiff, Nat.zero_le, not_false_eq_true, not_true_eq_false, false_implies, implies_true, true_implies, Nat.zero_lt_succ, Nat.lt_add_one, pm_tl_v, List.cons_append, List.nil_append, pm_k5_c, pm_tl_n, pm_tl_s, i1, i2, i3, i4, i5, hus2, m3', l3']
      refine PM_use (c_M_thrown m3 459) ?_
      rintro w9 h4 l4 ⟨rfl, rfl⟩
      show KL1 _ _ _ _ _ _ _ _ _
      simp only [g_1451, g_1453, g_1456, g_1458, g_1460, g_1463, g_1464, g_1465, g_1466, g_1468, g_1469, g_1470, g_1473, g_1475, g_1934, pm_1i_c, pm_2i_c, pm_1l_c, pm_2l_c, pm_1a_c, pm_ia_c, pm_iia_c, pm_va_c, pm_cp_c, pm_k0_c, pm_k1_c, pm_k2_c, pm_k3_c, pm_s1_c, pm_s2_c, pm_s3_c, pm_s4_c, pm_ri_c, pm_ra_c, pm_rn_c, pm_rk_i, pm_rk_z, pm_rk_a, pm_vk_i, pm_vk_z, pm_vk_a, pm_cti, pm_ctr, pm_ldi_z, pm_ldi_s, pm_lda_z, pm_lda_s, pm_cat_n, pm_cat_i, pm_cat_r, pm_cat_l, pm_obj, pm_arr, pm_opt, List.getElem?_cons_zero, List.getElem?_cons_succ, List.set_cons_zero, List.set_cons_succ, List.length_cons, List.length_nil, List.length_set, true_and, and_true, Nat.add_zero, Nat.zero_add, Nat.le_refl, Nat.reduceAdd, Nat.reduceLT, Nat.reduceLeDiff, Nat.zero_le, not_false_eq_true, not_true_eq_false, false_implies, implies_true, true_implies, Nat.zero_lt_succ, Nat.lt_add_one, pm_tl_v, List.cons_append, List.nil_append, pm_k5_c, pm_tl_n, pm_tl_s, i1, i2, i3, i4, i5, hus2, t3, hk]
      exact hT _ _ _ ⟨_, R3⟩ l3' ⟨_, f3⟩
theorem cs_enough (X : CX p l s m b0 meth c D ct b g adV L xs) (hxo : xo ≤ 900) {us : Nat} (hus : us + 6 ≤ 7293033) {th i : Int32} {u5 u6 : Option Value} {h : pmH} (R : RZ th h) (hl : h.length = 125) (hf : LG h) (i1 : vp_in (i + 1) L) (i2 : vp_in (i + 2) L) (i3 : vp_in (i + 3) L) (i4 : vp_in (i + 4) L) (i5 : vp_in (i + 5) L)  (hT : ∀ (u5 u6 : Option Value) (h2 : pmH), (∃ th, RZ th h2) → h2.length = 125 → LG h2 → SE p l e s m b0 below meth c Qf D ct b g xo 1934 [some (.ref 1000001), some (.ref 0), some (.ref 113), some (.ref 124), some (.int i), u5, u6] [] h2 us) : SE p l e s m b0 below meth c Qf D ct b g xo 1478 [some (.ref 1000001), some (.ref 0), some (.ref 113), some (.ref 124), some (.int i), u5, u6] [] h us := by
  obtain ⟨bs, ws, A, K, o, S, -⟩ := R
  have c0 := S.C.o
  have r0 := lw_ird hl L xs
  have hus2 : us ≤ 7293033 := by omega
  refine law_run X (by omega) lk_1 ?_
  show KL1 _ _ _ _ _ _ _ _ _
  simp only [g_1478, g_1479, g_1480, g_1482, g_1483, g_1484, g_1485, pm_1i_c, pm_2i_c, pm_1l_c, pm_2l_c, pm_1a_c, pm_ia_c, pm_iia_c, pm_va_c, pm_cp_c, pm_k0_c, pm_k1_c, pm_k2_c, pm_k3_c, pm_s1_c, pm_s2_c, pm_s3_c, pm_s4_c, pm_ri_c, pm_ra_c, pm_rn_c, pm_rk_i, pm_rk_z, pm_rk_a, pm_vk_i, pm_vk_z, pm_vk_a, pm_cti, pm_ctr, pm_ldi_z, pm_ldi_s, pm_lda_z, pm_lda_s, pm_cat_n, pm_cat_i, pm_cat_r, pm_cat_l, pm_obj, pm_arr, pm_opt, List.getElem?_cons_zero, List.getElem?_cons_succ, List.set_cons_zero, List.set_cons_succ, List.length_cons, List.length_nil, List.length_set, true_and, and_true, Nat.add_zero, Nat.zero_add, Nat.le_refl, Nat.reduceAdd, Nat.reduceLT, Nat.reduceLeDiff, Nat.zero_le, not_false_eq_true, not_true_eq_false, false_implies, implies_true, true_implies, Nat.zero_lt_succ, Nat.lt_add_one, pm_tl_v, List.cons_append, List.nil_append, pm_k5_c, pm_tl_n, pm_tl_s, i1, i2, i3, i4, i5, hus2, c0, r0, hl]
  refine PM_use (pr_enough S hl (xs ((i + 1).toNatClampNeg))) ?_
  rintro v h1 l1 ⟨y, rfl, e1, ⟨fs, hm⟩, P⟩
  have l1' : h1.length = 125 := by omega
  have r1 := lw_ird l1' L xs
  show KL1 _ _ _ _ _ _ _ _ _
  simp only [g_1488, g_1489, g_1490, g_1492, g_1493, g_1494, g_1495, pm_1i_c, pm_2i_c, pm_1l_c, pm_2l_c, pm_1a_c, pm_ia_c, pm_iia_c, pm_va_c, pm_cp_c, pm_k0_c, pm_k1_c, pm_k2_c, pm_k3_c, pm_s1_c, pm_s2_c, pm_s3_c, pm_s4_c, pm_ri_c, pm_ra_c, pm_rn_c, pm_rk_i, pm_rk_z, pm_rk_a, pm_vk_i, pm_vk_z, pm_vk_a, pm_cti, pm_ctr, pm_ldi_z, pm_ldi_s, pm_lda_z, pm_lda_s, pm_cat_n, pm_cat_i, pm_cat_r, pm_cat_l, pm_obj, pm_arr, pm_opt, List.getElem?_cons_zero, List.getElem?_cons_succ, List.set_cons_zero, List.set_cons_succ, List.length_cons, List.length_nil, List.length_set, true_and, and_true, Nat.add_zero, Nat.zero_add, Nat.le_refl, Nat.reduceAdd, Nat.reduceLT, Nat.reduceLeDiff, Nat.zero_le, not_false_eq_true, not_true_eq_false, false_implies, implies_true, true_implies, Nat.zero_lt_succ, Nat.lt_add_one, pm_tl_v, List.cons_append, List.nil_append, pm_k5_c, pm_tl_n, pm_tl_s, i1, i2, i3, i4, i5, hus2, hm, r1, l1']
  refine PM_use P ?_
  rintro w h2 l2 ⟨rfl, R2, e2⟩
  show KL1 _ _ _ _ _ _ _ _ _
  simp only [g_1498, g_1501, g_1934, pm_1i_c, pm_2i_c, pm_1l_c, pm_2l_c, pm_1a_c, pm_ia_c, pm_iia_c, pm_va_c, pm_cp_c, pm_k0_c, pm_k1_c, pm_k2_c, pm_k3_c, pm_s1_c, pm_s2_c, pm_s3_c, pm_s4_c, pm_ri_c, pm_ra_c, pm_rn_c, pm_rk_i, pm_rk_z, pm_rk_a, pm_vk_i, pm_vk_z, pm_vk_a, pm_cti, pm_ctr, pm_ldi_z, pm_ldi_s, pm_lda_z, pm_lda_s, pm_cat_n, pm_cat_i, pm_cat_r, pm_cat_l, pm_obj, pm_arr, pm_opt, List.getElem?_cons_zero, List.getElem?_cons_succ, List.set_cons_zero, List.set_cons_succ, List.length_cons, List.length_nil, List.length_set, true_and, and_true, Nat.add_zero, Nat.zero_add, Nat.le_refl, Nat.reduceAdd, Nat.reduceLT, Nat.reduceLeDiff, Nat.zero_le, not_false_eq_true, not_true_eq_false, false_implies, implies_true, true_implies, Nat.zero_lt_succ, Nat.lt_add_one, pm_tl_v, List.cons_append, List.nil_append, pm_k5_c, pm_tl_n, pm_tl_s, i1, i2, i3, i4, i5, hus2]
  exact hT _ _ h2 ⟨_, R2⟩ (by omega) (by obtain ⟨f, hf⟩ := hf; exact ⟨f, (e2.trans e1).trans hf⟩)
theorem ct_needed (X : CX p l s m b0 meth c D ct b g adV L xs) (hxo : xo ≤ 900) {us : Nat} (hus : us + 6 ≤ 7293033) {th i : Int32} {u5 u6 : Option Value} {h : pmH} (R : RZ th h) (hl : h.length = 125) (hf : LG h) (i1 : vp_in (i + 1) L) (i2 : vp_in (i + 2) L) (i3 : vp_in (i + 3) L) (i4 : vp_in (i + 4) L) (i5 : vp_in (i + 5) L)  (hT : ∀ (u5 u6 : Option Value) (h2 : pmH), (∃ th, RZ th h2) → h2.length = 125 → LG h2 → SE p l e s m b0 below meth c Qf D ct b g (xo + 1) 1934 [some (.ref 1000001), some (.ref 0), some (.ref 113), some (.ref 124), some (.int i), u5, u6] [] h2 (us + 6)) : SE p l e s m b0 below meth c Qf D ct b g xo 1503 [some (.ref 1000001), some (.ref 0), some (.ref 113), some (.ref 124), some (.int i), u5, u6] [] h us := by
  obtain ⟨bs, ws, A, K, o, S, -⟩ := R
  have c0 := S.C.o
  have r0 := lw_ird hl L xs
  obtain ⟨f, hf⟩ := hf
  have hus2 : us ≤ 7293033 := by omega
  obtain ⟨Q, hW, hQ⟩ := tr_needed S hl (xs ((i + 1).toNatClampNeg)) (xs ((i + 2).toNatClampNeg))
  refine law_run X (by omega) lk_1 ?_
  show KL1 _ _ _ _ _ _ _ _ _
  simp only [g_1503, g_1504, g_1505, g_1507, g_1508, g_1509, g_1510, g_1511, g_1513, g_1514, g_1515, g_1516, g_1517, pm_1i_c, pm_2i_c, pm_1l_c, pm_2l_c, pm_1a_c, pm_ia_c, pm_iia_c, pm_va_c, pm_cp_c, pm_k0_c, pm_k1_c, pm_k2_c, pm_k3_c, pm_s1_c, pm_s2_c, pm_s3_c, pm_s4_c, pm_ri_c, pm_ra_c, pm_rn_c, pm_rk_i, pm_rk_z, pm_rk_a, pm_vk_i, pm_vk_z, pm_vk_a, pm_cti, pm_ctr, pm_ldi_z, pm_ldi_s, pm_lda_z, pm_lda_s, pm_cat_n, pm_cat_i, pm_cat_r, pm_cat_l, pm_obj, pm_arr, pm_opt, List.getElem?_cons_zero, List.getElem?_cons_succ, List.set_cons_zero, List.set_cons_succ, List.length_cons, List.length_nil, List.length_set, true_and, and_true, Nat.add_zero, Nat.zero_add, Nat.le_refl, Nat.reduceAdd, Nat.reduceLT, Nat.reduceLeDiff, Nat.zero_le, not_false_eq_true, not_true_eq_false, false_implies, implies_true, true_implies, Nat.zero_lt_succ, Nat.lt_add_one, pm_tl_v, List.cons_append, List.nil_append, pm_k5_c, pm_tl_n, pm_tl_s, i1, i2, i3, i4, i5, hus2, c0, r0, hl]
  refine law_call X (idx := 189) (n := 4) (y := yL_needed) (cc := cL_needed) (maxL := 5) (hh := [(0, 10, 13, 13)]) (as := [.ref 0, .int (xs ((i + 1).toNatClampNeg)), .int (xs ((i + 2).toNatClampNeg)), .ref 124]) (by omega) hus hl (hp_needed (d := 458) (f := f) X.2.2.2.2.2.2.2.2.1 X.2.2.2.2.2.2.1 c0 (fun v h1 z => (hQ v h1 z).1.trans hf) (fun v h1 z => by
    rcases (hQ v h1 z).2.2 with ⟨y, hy, -⟩ | ⟨e, he, -⟩
    · exact Or.inl ⟨y, hy⟩
    · exact Or.inr ⟨e, he⟩) (fun e h1 z => by
    rcases (hQ _ h1 z).2.2 with ⟨y, hy, -⟩ | ⟨e9, he, hE, -⟩
    · cases hy
    · cases he
      exact hE) hW) (pm_w_in (j := 5226) (by decide +kernel)) (pm_w_in (j := 5224) (by decide +kernel)) (pm_w_in (j := 5225) (by decide +kernel)) (pm_w_in (j := 1000) (by decide +kernel)) (by decide +kernel) (by decide) rfl (by decide +kernel) ?_
  have hus2 : us + 6 ≤ 7293033 := hus
  intro v h1 l1 hp
  rcases hp with ⟨y, h9, hq, rfl, rfl⟩ | ⟨ev, he, hq, rfl⟩
  · rcases hQ _ _ hq with ⟨e1, ⟨fs, hm⟩, ⟨y', hy, P⟩ | ⟨e', hy, -⟩⟩
    · cases hy
      have l9 : h9.length = 125 := by rw [List.length_set] at l1; exact l1
      suffices key : ∀ h1 : pmH, h1 = h9.set 124 (.inl (3, 1, .inr (.inl (vp_updL f 0 y.toInt64)))) → SE p l e s m b0 below meth c Qf D ct b g (xo + 1) 1520 [some (.ref 1000001), some (.ref 0), some (.ref 113), some (.ref 124), some (.int i), u5, u6] [.int 0] h1 (us + 6) from key _ rfl
      clear l1
      intro h1 hh1
      have f1 : ∀ i, i ≠ 124 → h1[i]? = h9[i]? := fun i hi => by rw [hh1]; exact List.getElem?_set_ne (fun z => hi z.symm)
      have f2 : h1[124]? = some (.inl (3, 1, .inr (.inl (vp_updL f 0 y.toInt64)))) := by rw [hh1]; exact List.getElem?_set_self (by omega)
      have l1 : h1.length = 125 := by rw [hh1, List.length_set]; exact l9
      clear hh1
      have r1 := lw_ird l1 L xs
      have hm1 := (f1 113 (by omega)).trans hm
      refine law_run X (by omega) lk_1 ?_
      show KL1 _ _ _ _ _ _ _ _ _
      simp only [g_1520, g_1522, g_1523, g_1524, g_1526, g_1527, g_1528, g_1529, g_1530, g_1532, g_1533, g_1534, g_1535, pm_1i_c, pm_2i_c, pm_1l_c, pm_2l_c, pm_1a_c, pm_ia_c, pm_iia_c, pm_va_c, pm_cp_c, pm_k0_c, pm_k1_c, pm_k2_c, pm_k3_c, pm_s1_c, pm_s2_c, pm_s3_c, pm_s4_c, pm_ri_c, pm_ra_c, pm_rn_c, pm_rk_i, pm_rk_z, pm_rk_a, pm_vk_i, pm_vk_z, pm_vk_a, pm_cti, pm_ctr, pm_ldi_z, pm_ldi_s, pm_lda_z, pm_lda_s, pm_cat_n, pm_cat_i, pm_cat_r, pm_cat_l, pm_obj, pm_arr, pm_opt, List.getElem?_cons_zero, List.getElem?_cons_succ, List.set_cons_zero, List.set_cons_succ, List.length_cons, List.length_nil, List.length_set, true_and, and_true, Nat.add_zero, Nat.zero_add, Nat.le_refl, Nat.reduceAdd, Nat.reduceLT, Nat.reduceLeDiff, Nat.zero_le, not_false_eq_true, not_true_eq_false, false_implies, implies_true, true_implies, Nat.zero_lt_succ, Nat.lt_add_one, pm_tl_v, List.cons_append, List.nil_append, pm_k5_c, pm_tl_n, pm_tl_s, i1, i2, i3, i4, i5, hus2, hm1, r1, l1]
      refine PM_use (P h1 f1) ?_
      rintro w h3 l3 ⟨rfl, R3, e3⟩
      have l3' : h3.length = 125 := by omega
      obtain ⟨o3, m3, t3⟩ := R3.len
      have m3' := m3
      unfold mO at m3'
      have f3 := e3.trans f2
      show KL1 _ _ _ _ _ _ _ _ _
      simp only [g_1538, g_1540, g_1541, pm_1i_c, pm_2i_c, pm_1l_c, pm_2l_c, pm_1a_c, pm_ia_c, pm_iia_c, pm_va_c, pm_cp_c, pm_k0_c, pm_k1_c, pm_k2_c, pm_k3_c, pm_s1_c, pm_s2_c, pm_s3_c, pm_s4_c, pm_ri_c, pm_ra_c, pm_rn_c, pm_rk_i, pm_rk_z, pm_rk_a, pm_vk_i, pm_vk_z, pm_vk_a, pm_cti, pm_ctr, pm_ldi_z, pm_ldi_s, pm_lda_z, pm_lda_s, pm_cat_n, pm_cat_i, pm_cat_r, pm_cat_l, pm_obj, pm_arr, pm_opt, List.getElem?_cons_zero, List.getElem?_cons_succ, List.set_cons_zero, List.set_cons_succ, List.length_cons, List.length_nil, List.length_set, true_and, and_true, Nat.add_zero, Nat.zero_add, Nat.le_refl, Nat.reduceAdd, Nat.reduceLT, Nat.reduceLeDiff, Nat.zero_le, not_false_eq_true, not_true_eq_false, false_implies, implies_true, true_implies, Nat.zero_lt_succ, Nat.lt_add_one, pm_tl_v, List.cons_append, List.nil_append, pm_k5_c, pm_tl_n, pm_tl_s, i1, i2, i3, i4, i5, hus2, m3', l3']
      refine PM_use (c_M_thrown m3 459) ?_
      rintro w9 h4 l4 ⟨rfl, rfl⟩
      show KL1 _ _ _ _ _ _ _ _ _
      simp only [g_1544, g_1546, g_1549, g_1551, g_1553, g_1556, g_1557, g_1558, g_1559, g_1561, g_1562, g_1563, g_1566, g_1568, g_1934, pm_1i_c, pm_2i_c, pm_1l_c, pm_2l_c, pm_1a_c, pm_ia_c, pm_iia_c, pm_va_c, pm_cp_c, pm_k0_c, pm_k1_c, pm_k2_c, pm_k3_c, pm_s1_c, pm_s2_c, pm_s3_c, pm_s4_c, pm_ri_c, pm_ra_c, pm_rn_c, pm_rk_i, pm_rk_z, pm_rk_a, pm_vk_i, pm_vk_z, pm_vk_a, pm_cti, pm_ctr, pm_ldi_z, pm_ldi_s, pm_lda_z, pm_lda_s, pm_cat_n, pm_cat_i, pm_cat_r, pm_cat_l, pm_obj, pm_arr, pm_opt, List.getElem?_cons_zero, List.getElem?_cons_succ, List.set_cons_zero, List.set_cons_succ, List.length_cons, List.length_nil, List.length_set, true_and, and_true, Nat.add_zero, Nat.zero_add, Nat.le_refl, Nat.reduceAdd, Nat.reduceLT, Nat.reduceLeDiff, Nat.zero_le, not_false_eq_true, not_true_eq_false, false_implies, implies_true, true_implies, Nat.zero_lt_succ, Nat.lt_add_one, pm_tl_v, List.cons_append, List.nil_append, pm_k5_c, pm_tl_n, pm_tl_s, i1, i2, i3, i4, i5, hus2, t3, f3, pm_arl, px_z0, px_in01, vp_updL_0, lg_cmp_s, eq_self]
      exact hT _ _ _ ⟨_, R3⟩ l3' ⟨_, f3⟩
    · cases hy
  · rcases hQ _ _ hq with ⟨e1, ⟨fs, hm⟩, ⟨y', hy, -⟩ | ⟨e', hy, hE, P⟩⟩
    · cases hy
    · cases hy
      have r1 := lw_ird l1 L xs
      have hk : ¬ (1 : Int32) = 0 := by decide
      refine law_run X (by omega) lk_1 ?_
      show KL1 _ _ _ _ _ _ _ _ _
      simp only [g_1520, g_1522, g_1523, g_1524, g_1526, g_1527, g_1528, g_1529, g_1530, g_1532, g_1533, g_1534, g_1535, pm_1i_c, pm_2i_c, pm_1l_c, pm_2l_c, pm_1a_c, pm_ia_c, pm_iia_c, pm_va_c, pm_cp_c, pm_k0_c, pm_k1_c, pm_k2_c, pm_k3_c, pm_s1_c, pm_s2_c, pm_s3_c, pm_s4_c, pm_ri_c, pm_ra_c, pm_rn_c, pm_rk_i, pm_rk_z, pm_rk_a, pm_vk_i, pm_vk_z, pm_vk_a, pm_cti, pm_ctr, pm_ldi_z, pm_ldi_s, pm_lda_z, pm_lda_s, pm_cat_n, pm_cat_i, pm_cat_r, pm_cat_l, pm_obj, pm_arr, pm_opt, List.getElem?_cons_zero, List.getElem?_cons_succ, List.set_cons_zero, List.set_cons_succ, List.length_cons, List.length_nil, List.length_set, true_and, and_true, Nat.add_zero, Nat.zero_add, Nat.le_refl, Nat.reduceAdd, Nat.reduceLT, Nat.reduceLeDiff, Nat.zero_le, not_false_eq_true, not_true_eq_false, false_implies, implies_true, true_implies, Nat.zero_lt_succ, Nat.lt_add_one, pm_tl_v, List.cons_append, List.nil_append, pm_k5_c, pm_tl_n, pm_tl_s, i1, i2, i3, i4, i5, hus2, hm, r1, l1]
      refine PM_use P ?_
      rintro w h3 l3 ⟨⟨zz, rfl⟩, R3, e3⟩
      have l3' : h3.length = 125 := by omega
      obtain ⟨o3, m3, t3⟩ := R3.len
      have m3' := m3
      unfold mO at m3'
      have f3 := (e3.trans e1).trans hf
      show KL1 _ _ _ _ _ _ _ _ _
      simp only [g_1538, g_1540, g_1541, pm_1i_c, pm_2i_c, pm_1l_c, pm_2l_c, pm_1a_c, pm_ia_c, pm_iia_c, pm_va_c, pm_cp_c, pm_k0_c, pm_k1_c, pm_k2_c, pm_k3_c, pm_s1_c, pm_s2_c, pm_s3_c, pm_s4_c, pm_ri_c, pm_ra_c, pm_rn_c, pm_rk_i, pm_rk_z, pm_rk_a, pm_vk_i, pm_vk_z, pm_vk_a, pm_cti, pm_ctr, pm_ldi_z, pm_ldi_s, pm_lda_z, pm_lda_s, pm_cat_n, pm_cat_i, pm_cat_r, pm_cat_l, pm_obj, pm_arr, pm_opt, List.getElem?_cons_zero, List.getElem?_cons_succ, List.set_cons_zero, List.set_cons_succ, List.length_cons, List.length_nil, List.length_set, true_and, and_true, Nat.add_zero, Nat.zero_add, Nat.le_refl, Nat.reduceAdd, Nat.reduceLT, Nat.reduceLeDiff, Nat.zero_le, not_false_eq_true, not_true_eq_false, false_implies, implies_true, true_implies, Nat.zero_lt_succ, Nat.lt_add_one, pm_tl_v, List.cons_append, List.nil_append, pm_k5_c, pm_tl_n, pm_tl_s, i1, i2, i3, i4, i5, hus2, m3', l3']
      refine PM_use (c_M_thrown m3 459) ?_
      rintro w9 h4 l4 ⟨rfl, rfl⟩
      show KL1 _ _ _ _ _ _ _ _ _
      simp only [g_1544, g_1546, g_1549, g_1551, g_1553, g_1556, g_1557, g_1558, g_1559, g_1561, g_1562, g_1563, g_1566, g_1568, g_1934, pm_1i_c, pm_2i_c, pm_1l_c, pm_2l_c, pm_1a_c, pm_ia_c, pm_iia_c, pm_va_c, pm_cp_c, pm_k0_c, pm_k1_c, pm_k2_c, pm_k3_c, pm_s1_c, pm_s2_c, pm_s3_c, pm_s4_c, pm_ri_c, pm_ra_c, pm_rn_c, pm_rk_i, pm_rk_z, pm_rk_a, pm_vk_i, pm_vk_z, pm_vk_a, pm_cti, pm_ctr, pm_ldi_z, pm_ldi_s, pm_lda_z, pm_lda_s, pm_cat_n, pm_cat_i, pm_cat_r, pm_cat_l, pm_obj, pm_arr, pm_opt, List.getElem?_cons_zero, List.getElem?_cons_succ, List.set_cons_zero, List.set_cons_succ, List.length_cons, List.length_nil, List.length_set, true_and, and_true, Nat.add_zero, Nat.zero_add, Nat.le_refl, Nat.reduceAdd, Nat.reduceLT, Nat.reduceLeDiff, Nat.zero_le, not_false_eq_true, not_true_eq_false, false_implies, implies_true, true_implies, Nat.zero_lt_succ, Nat.lt_add_one, pm_tl_v, List.cons_append, List.nil_append, pm_k5_c, pm_tl_n, pm_tl_s, i1, i2, i3, i4, i5, hus2, t3, hk]
      exact hT _ _ _ ⟨_, R3⟩ l3' ⟨_, f3⟩
theorem ct_twin (X : CX p l s m b0 meth c D ct b g adV L xs) (hxo : xo ≤ 900) {us : Nat} (hus : us + 6 ≤ 7293033) {th i : Int32} {u5 u6 : Option Value} {h : pmH} (R : RZ th h) (hl : h.length = 125) (hf : LG h) (i1 : vp_in (i + 1) L) (i2 : vp_in (i + 2) L) (i3 : vp_in (i + 3) L) (i4 : vp_in (i + 4) L) (i5 : vp_in (i + 5) L)  (hT : ∀ (u5 u6 : Option Value) (h2 : pmH), (∃ th, RZ th h2) → h2.length = 125 → LG h2 → SE p l e s m b0 below meth c Qf D ct b g (xo + 1) 1934 [some (.ref 1000001), some (.ref 0), some (.ref 113), some (.ref 124), some (.int i), u5, u6] [] h2 (us + 6)) : SE p l e s m b0 below meth c Qf D ct b g xo 1571 [some (.ref 1000001), some (.ref 0), some (.ref 113), some (.ref 124), some (.int i), u5, u6] [] h us := by
  obtain ⟨bs, ws, A, K, o, S, -⟩ := R
  have c0 := S.C.o
  have r0 := lw_ird hl L xs
  obtain ⟨f, hf⟩ := hf
  have hus2 : us ≤ 7293033 := by omega
  obtain ⟨Q, hW, hQ⟩ := tr_twin S hl (xs ((i + 1).toNatClampNeg))
  refine law_run X (by omega) lk_1 ?_
  show KL1 _ _ _ _ _ _ _ _ _
  simp only [g_1571, g_1572, g_1573, g_1575, g_1576, g_1577, g_1578, g_1579, pm_1i_c, pm_2i_c, pm_1l_c, pm_2l_c, pm_1a_c, pm_ia_c, pm_iia_c, pm_va_c, pm_cp_c, pm_k0_c, pm_k1_c, pm_k2_c, pm_k3_c, pm_s1_c, pm_s2_c, pm_s3_c, pm_s4_c, pm_ri_c, pm_ra_c, pm_rn_c, pm_rk_i, pm_rk_z, pm_rk_a, pm_vk_i, pm_vk_z, pm_vk_a, pm_cti, pm_ctr, pm_ldi_z, pm_ldi_s, pm_lda_z, pm_lda_s, pm_cat_n, pm_cat_i, pm_cat_r, pm_cat_l, pm_obj, pm_arr, pm_opt, List.getElem?_cons_zero, List.getElem?_cons_succ, List.set_cons_zero, List.set_cons_succ, List.length_cons, List.length_nil, List.length_set, true_and, and_true, Nat.add_zero, Nat.zero_add, Nat.le_refl, Nat.reduceAdd, Nat.reduceLT, Nat.reduceLeDiff, Nat.zero_le, not_false_eq_true, not_true_eq_false, false_implies, implies_true, true_implies, Nat.zero_lt_succ, Nat.lt_add_one, pm_tl_v, List.cons_append, List.nil_append, pm_k5_c, pm_tl_n, pm_tl_s, i1, i2, i3, i4, i5, hus2, c0, r0, hl]
  refine law_call X (idx := 192) (n := 3) (y := yL_twin) (cc := cL_twin) (maxL := 4) (hh := [(0, 9, 12, 13)]) (as := [.ref 0, .int (xs ((i + 1).toNatClampNeg)), .ref 124]) (by omega) hus hl (hp_twin (d := 458) (f := f) X.2.2.2.2.2.2.2.2.1 X.2.2.2.2.2.2.1 c0 (fun v h1 z => (hQ v h1 z).1.trans hf) (fun v h1 z => by
    rcases (hQ v h1 z).2.2 with ⟨y, hy, -⟩ | ⟨e, he, -⟩
    · exact Or.inl ⟨y, hy⟩
    · exact Or.inr ⟨e, he⟩) (fun e h1 z => by
    rcases (hQ _ h1 z).2.2 with ⟨y, hy, -⟩ | ⟨e9, he, hE, -⟩
    · cases hy
    · cases he
      exact hE) hW) (pm_w_in (j := 5234) (by decide +kernel)) (pm_w_in (j := 5232) (by decide +kernel)) (pm_w_in (j := 5233) (by decide +kernel)) (pm_w_in (j := 1000) (by decide +kernel)) (by decide +kernel) (by decide) rfl (by decide +kernel) ?_
  have hus2 : us + 6 ≤ 7293033 := hus
  intro v h1 l1 hp
  rcases hp with ⟨y, h9, hq, rfl, rfl⟩ | ⟨ev, he, hq, rfl⟩
  · rcases hQ _ _ hq with ⟨e1, ⟨fs, hm⟩, ⟨y', hy, P⟩ | ⟨e', hy, -⟩⟩
    · cases hy
      have l9 : h9.length = 125 := by rw [List.length_set] at l1; exact l1
      suffices key : ∀ h1 : pmH, h1 = h9.set 124 (.inl (3, 1, .inr (.inl (vp_updL f 0 y.toInt64)))) → SE p l e s m b0 below meth c Qf D ct b g (xo + 1) 1582 [some (.ref 1000001), some (.ref 0), some (.ref 113), some (.ref 124), some (.int i), u5, u6] [.int 0] h1 (us + 6) from key _ rfl
      clear l1
      intro h1 hh1
      have f1 : ∀ i, i ≠ 124 → h1[i]? = h9[i]? := fun i hi => by rw [hh1]; exact List.getElem?_set_ne (fun z => hi z.symm)
      have f2 : h1[124]? = some (.inl (3, 1, .inr (.inl (vp_updL f 0 y.toInt64)))) := by rw [hh1]; exact List.getElem?_set_self (by omega)
      have l1 : h1.length = 125 := by rw [hh1, List.length_set]; exact l9
      clear hh1
      have r1 := lw_ird l1 L xs
      have hm1 := (f1 113 (by omega)).trans hm
      refine law_run X (by omega) lk_1 ?_
      show KL1 _ _ _ _ _ _ _ _ _
      simp only [g_1582, g_1584, g_1585, g_1586, g_1588, g_1589, g_1590, g_1591, pm_1i_c, pm_2i_c, pm_1l_c, pm_2l_c, pm_1a_c, pm_ia_c, pm_iia_c, pm_va_c, pm_cp_c, pm_k0_c, pm_k1_c, pm_k2_c, pm_k3_c, pm_s1_c, pm_s2_c, pm_s3_c, pm_s4_c, pm_ri_c, pm_ra_c, pm_rn_c, pm_rk_i, pm_rk_z, pm_rk_a, pm_vk_i, pm_vk_z, pm_vk_a, pm_cti, pm_ctr, pm_ldi_z, pm_ldi_s, pm_lda_z, pm_lda_s, pm_cat_n, pm_cat_i, pm_cat_r, pm_cat_l, pm_obj, pm_arr, pm_opt, List.getElem?_cons_zero, List.getElem?_cons_succ, List.set_cons_zero, List.set_cons_succ, List.length_cons, List.length_nil, List.length_set, true_and, and_true, Nat.add_zero, Nat.zero_add, Nat.le_refl, Nat.reduceAdd, Nat.reduceLT, Nat.reduceLeDiff, Nat.zero_le, not_false_eq_true, not_true_eq_false, false_implies, implies_true, true_implies, Nat.zero_lt_succ, Nat.lt_add_one, pm_tl_v, List.cons_append, List.nil_append, pm_k5_c, pm_tl_n, pm_tl_s, i1, i2, i3, i4, i5, hus2, hm1, r1, l1]
      refine PM_use (P h1 f1) ?_
      rintro w h3 l3 ⟨rfl, R3, e3⟩
      have l3' : h3.length = 125 := by omega
      obtain ⟨o3, m3, t3⟩ := R3.len
      have m3' := m3
      unfold mO at m3'
      have f3 := e3.trans f2
      show KL1 _ _ _ _ _ _ _ _ _
      simp only [g_1594, g_1596, g_1597, pm_1i_c, pm_2i_c, pm_1l_c, pm_2l_c, pm_1a_c, pm_ia_c, pm_iia_c, pm_va_c, pm_cp_c, pm_k0_c, pm_k1_c, pm_k2_c, pm_k3_c, pm_s1_c, pm_s2_c, pm_s3_c, pm_s4_c, pm_ri_c, pm_ra_c, pm_rn_c, pm_rk_i, pm_rk_z, pm_rk_a, pm_vk_i, pm_vk_z, pm_vk_a, pm_cti, pm_ctr, pm_ldi_z, pm_ldi_s, pm_lda_z, pm_lda_s, pm_cat_n, pm_cat_i, pm_cat_r, pm_cat_l, pm_obj, pm_arr, pm_opt, List.getElem?_cons_zero, List.getElem?_cons_succ, List.set_cons_zero, List.set_cons_succ, List.length_cons, List.length_nil, List.length_set, true_and, and_true, Nat.add_zero, Nat.zero_add, Nat.le_refl, Nat.reduceAdd, Nat.reduceLT, Nat.reduceLeDiff, Nat.zero_le, not_false_eq_true, not_true_eq_false, false_implies, implies_true, true_implies, Nat.zero_lt_succ, Nat.lt_add_one, pm_tl_v, List.cons_append, List.nil_append, pm_k5_c, pm_tl_n, pm_tl_s, i1, i2, i3, i4, i5, hus2, m3', l3']
      refine PM_use (c_M_thrown m3 459) ?_
      rintro w9 h4 l4 ⟨rfl, rfl⟩
      show KL1 _ _ _ _ _ _ _ _ _
      simp only [g_1600, g_1602, g_1605, g_1607, g_1609, g_1612, g_1613, g_1614, g_1615, g_1617, g_1618, g_1619, g_1622, g_1624, g_1934, pm_1i_c, pm_2i_c, pm_1l_c, pm_2l_c, pm_1a_c, pm_ia_c, pm_iia_c, pm_va_c, pm_cp_c, pm_k0_c, pm_k1_c, pm_k2_c, pm_k3_c, pm_s1_c, pm_s2_c, pm_s3_c, pm_s4_c, pm_ri_c, pm_ra_c, pm_rn_c, pm_rk_i, pm_rk_z, pm_rk_a, pm_vk_i, pm_vk_z, pm_vk_a, pm_cti, pm_ctr, pm_ldi_z, pm_ldi_s, pm_lda_z, pm_lda_s, pm_cat_n, pm_cat_i, pm_cat_r, pm_cat_l, pm_obj, pm_arr, pm_opt, List.getElem?_cons_zero, List.getElem?_cons_succ, List.set_cons_zero, List.set_cons_succ, List.length_cons, List.length_nil, List.length_set, true_and, and_true, Nat.add_zero, Nat.zero_add, Nat.le_refl, Nat.reduceAdd, Nat.reduceLT, Nat.reduceLeDiff, Nat.zero_le, not_false_eq_true, not_true_eq_false, false_implies, implies_true, true_implies, Nat.zero_lt_succ, Nat.lt_add_one, pm_tl_v, List.cons_append, List.nil_append, pm_k5_c, pm_tl_n, pm_tl_s, i1, i2, i3, i4, i5, hus2, t3, f3, pm_arl, px_z0, px_in01, vp_updL_0, lg_cmp_s, eq_self]
      exact hT _ _ _ ⟨_, R3⟩ l3' ⟨_, f3⟩
    · cases hy
  · rcases hQ _ _ hq with ⟨e1, ⟨fs, hm⟩, ⟨y', hy, -⟩ | ⟨e', hy, hE, P⟩⟩
    · cases hy
    · cases hy
      have r1 := lw_ird l1 L xs
      have hk : ¬ (1 : Int32) = 0 := by decide
      refine law_run X (by omega) lk_1 ?_
      show KL1 _ _ _ _ _ _ _ _ _
      simp only [g_1582, g_1584, g_1585, g_1586, g_1588, g_1589, g_1590, g_1591, pm_1i_c, pm_2i_c, pm_1l_c, pm_2l_c, pm_1a_c, pm_ia_c, pm_iia_c, pm_va_c, pm_cp_c, pm_k0_c, pm_k1_c, pm_k2_c, pm_k3_c, pm_s1_c, pm_s2_c, pm_s3_c, pm_s4_c, pm_ri_c, pm_ra_c, pm_rn_c, pm_rk_i, pm_rk_z, pm_rk_a, pm_vk_i, pm_vk_z, pm_vk_a, pm_cti, pm_ctr, pm_ldi_z, pm_ldi_s, pm_lda_z, pm_lda_s, pm_cat_n, pm_cat_i, pm_cat_r, pm_cat_l, pm_obj, pm_arr, pm_opt, List.getElem?_cons_zero, List.getElem?_cons_succ, List.set_cons_zero, List.set_cons_succ, List.length_cons, List.length_nil, List.length_set, true_and, and_true, Nat.add_zero, Nat.zero_add, Nat.le_refl, Nat.reduceAdd, Nat.reduceLT, Nat.reduceLeDiff, Nat.zero_le, not_false_eq_true, not_true_eq_false, false_implies, implies_true, true_implies, Nat.zero_lt_succ, Nat.lt_add_one, pm_tl_v, List.cons_append, List.nil_append, pm_k5_c, pm_tl_n, pm_tl_s, i1, i2, i3, i4, i5, hus2, hm, r1, l1]
      refine PM_use P ?_
      rintro w h3 l3 ⟨⟨zz, rfl⟩, R3, e3⟩
      have l3' : h3.length = 125 := by omega
      obtain ⟨o3, m3, t3⟩ := R3.len
      have m3' := m3
      unfold mO at m3'
      have f3 := (e3.trans e1).trans hf
      show KL1 _ _ _ _ _ _ _ _ _
      simp only [g_1594, g_1596, g_1597, pm_1i_c, pm_2i_c, pm_1l_c, pm_2l_c, pm_1a_c, pm_ia_c, pm_iia_c, pm_va_c, pm_cp_c, pm_k0_c, pm_k1_c, pm_k2_c, pm_k3_c, pm_s1_c, pm_s2_c, pm_s3_c, pm_s4_c, pm_ri_c, pm_ra_c, pm_rn_c, pm_rk_i, pm_rk_z, pm_rk_a, pm_vk_i, pm_vk_z, pm_vk_a, pm_cti, pm_ctr, pm_ldi_z, pm_ldi_s, pm_lda_z, pm_lda_s, pm_cat_n, pm_cat_i, pm_cat_r, pm_cat_l, pm_obj, pm_arr, pm_opt, List.getElem?_cons_zero, List.getElem?_cons_succ, List.set_cons_zero, List.set_cons_succ, List.length_cons, List.length_nil, List.length_set, true_and, and_true, Nat.add_zero, Nat.zero_add, Nat.le_refl, Nat.reduceAdd, Nat.reduceLT, Nat.reduceLeDiff, Nat.zero_le, not_false_eq_true, not_true_eq_false, false_implies, implies_true, true_implies, Nat.zero_lt_succ, Nat.lt_add_one, pm_tl_v, List.cons_append, List.nil_append, pm_k5_c, pm_tl_n, pm_tl_s, i1, i2, i3, i4, i5, hus2, m3', l3']
      refine PM_use (c_M_thrown m3 459) ?_
      rintro w9 h4 l4 ⟨rfl, rfl⟩
      show KL1 _ _ _ _ _ _ _ _ _
      simp only [g_1600, g_1602, g_1605, g_1607, g_1609, g_1612, g_1613, g_1614, g_1615, g_1617, g_1618, g_1619, g_1622, g_1624, g_1934, pm_1i_c, pm_2i_c, pm_1l_c, pm_2l_c, pm_1a_c, pm_ia_c, pm_iia_c, pm_va_c, pm_cp_c, pm_k0_c, pm_k1_c, pm_k2_c, pm_k3_c, pm_s1_c, pm_s2_c, pm_s3_c, pm_s4_c, pm_ri_c, pm_ra_c, pm_rn_c, pm_rk_i, pm_rk_z, pm_rk_a, pm_vk_i, pm_vk_z, pm_vk_a, pm_cti, pm_ctr, pm_ldi_z, pm_ldi_s, pm_lda_z, pm_lda_s, pm_cat_n, pm_cat_i, pm_cat_r, pm_cat_l, pm_obj, pm_arr, pm_opt, List.getElem?_cons_zero, List.getElem?_cons_succ, List.set_cons_zero, List.set_cons_succ, List.length_cons, List.length_nil, List.length_set, true_and, and_true, Nat.add_zero, Nat.zero_add, Nat.le_refl, Nat.reduceAdd, Nat.reduceLT, Nat.reduceLeDiff, Nat.zero_le, not_false_eq_true, not_true_eq_false, false_implies, implies_true, true_implies, Nat.zero_lt_succ, Nat.lt_add_one, pm_tl_v, List.cons_append, List.nil_append, pm_k5_c, pm_tl_n, pm_tl_s, i1, i2, i3, i4, i5, hus2, t3, hk]
      exact hT _ _ _ ⟨_, R3⟩ l3' ⟨_, f3⟩
theorem cs_history (X : CX p l s m b0 meth c D ct b g adV L xs) (hxo : xo ≤ 900) {us : Nat} (hus : us + 6 ≤ 7293033) {th i : Int32} {u5 u6 : Option Value} {h : pmH} (R : RZ th h) (hl : h.length = 125) (hf : LG h) (i1 : vp_in (i + 1) L) (i2 : vp_in (i + 2) L) (i3 : vp_in (i + 3) L) (i4 : vp_in (i + 4) L) (i5 : vp_in (i + 5) L)  (hT : ∀ (u5 u6 : Option Value) (h2 : pmH), (∃ th, RZ th h2) → h2.length = 125 → LG h2 → SE p l e s m b0 below meth c Qf D ct b g xo 1934 [some (.ref 1000001), some (.ref 0), some (.ref 113), some (.ref 124), some (.int i), u5, u6] [] h2 us) : SE p l e s m b0 below meth c Qf D ct b g xo 1627 [some (.ref 1000001), some (.ref 0), some (.ref 113), some (.ref 124), some (.int i), u5, u6] [] h us := by
  obtain ⟨bs, ws, A, K, o, S, -⟩ := R
  have c0 := S.C.o
  have r0 := lw_ird hl L xs
  have hus2 : us ≤ 7293033 := by omega
  refine law_run X (by omega) lk_1 ?_
  show KL1 _ _ _ _ _ _ _ _ _
  simp only [g_1627, g_1628, g_1629, g_1631, g_1632, g_1633, g_1634, pm_1i_c, pm_2i_c, pm_1l_c, pm_2l_c, pm_1a_c, pm_ia_c, pm_iia_c, pm_va_c, pm_cp_c, pm_k0_c, pm_k1_c, pm_k2_c, pm_k3_c, pm_s1_c, pm_s2_c, pm_s3_c, pm_s4_c, pm_ri_c, pm_ra_c, pm_rn_c, pm_rk_i, pm_rk_z, pm_rk_a, pm_vk_i, pm_vk_z, pm_vk_a, pm_cti, pm_ctr, pm_ldi_z, pm_ldi_s, pm_lda_z, pm_lda_s, pm_cat_n, pm_cat_i, pm_cat_r, pm_cat_l, pm_obj, pm_arr, pm_opt, List.getElem?_cons_zero, List.getElem?_cons_succ, List.set_cons_zero, List.set_cons_succ, List.length_cons, List.length_nil, List.length_set, true_and, and_true, Nat.add_zero, Nat.zero_add, Nat.le_refl, Nat.reduceAdd, Nat.reduceLT, Nat.reduceLeDiff, Nat.zero_le, not_false_eq_true, not_true_eq_false, false_implies, implies_true, true_implies, Nat.zero_lt_succ, Nat.lt_add_one, pm_tl_v, List.cons_append, List.nil_append, pm_k5_c, pm_tl_n, pm_tl_s, i1, i2, i3, i4, i5, hus2, c0, r0, hl]
  refine PM_use (pr_history S hl (xs ((i + 1).toNatClampNeg))) ?_
  rintro v h1 l1 ⟨y, rfl, e1, ⟨fs, hm⟩, P⟩
  have l1' : h1.length = 125 := by omega
  have r1 := lw_ird l1' L xs
  show KL1 _ _ _ _ _ _ _ _ _
  simp only [g_1637, g_1638, g_1639, g_1641, g_1642, g_1643, g_1644, pm_1i_c, pm_2i_c, pm_1l_c, pm_2l_c, pm_1a_c, pm_ia_c, pm_iia_c, pm_va_c, pm_cp_c, pm_k0_c, pm_k1_c, pm_k2_c, pm_k3_c, pm_s1_c, pm_s2_c, pm_s3_c, pm_s4_c, pm_ri_c, pm_ra_c, pm_rn_c, pm_rk_i, pm_rk_z, pm_rk_a, pm_vk_i, pm_vk_z, pm_vk_a, pm_cti, pm_ctr, pm_ldi_z, pm_ldi_s, pm_lda_z, pm_lda_s, pm_cat_n, pm_cat_i, pm_cat_r, pm_cat_l, pm_obj, pm_arr, pm_opt, List.getElem?_cons_zero, List.getElem?_cons_succ, List.set_cons_zero, List.set_cons_succ, List.length_cons, List.length_nil, List.length_set, true_and, and_true, Nat.add_zero, Nat.zero_add, Nat.le_refl, Nat.reduceAdd, Nat.reduceLT, Nat.reduceLeDiff, Nat.zero_le, not_false_eq_true, not_true_eq_false, false_implies, implies_true, true_implies, Nat.zero_lt_succ, Nat.lt_add_one, pm_tl_v, List.cons_append, List.nil_append, pm_k5_c, pm_tl_n, pm_tl_s, i1, i2, i3, i4, i5, hus2, hm, r1, l1']
  refine PM_use P ?_
  rintro w h2 l2 ⟨rfl, R2, e2⟩
  show KL1 _ _ _ _ _ _ _ _ _
  simp only [g_1647, g_1650, g_1934, pm_1i_c, pm_2i_c, pm_1l_c, pm_2l_c, pm_1a_c, pm_ia_c, pm_iia_c, pm_va_c, pm_cp_c, pm_k0_c, pm_k1_c, pm_k2_c, pm_k3_c, pm_s1_c, pm_s2_c, pm_s3_c, pm_s4_c, pm_ri_c, pm_ra_c, pm_rn_c, pm_rk_i, pm_rk_z, pm_rk_a, pm_vk_i, pm_vk_z, pm_vk_a, pm_cti, pm_ctr, pm_ldi_z, pm_ldi_s, pm_lda_z, pm_lda_s, pm_cat_n, pm_cat_i, pm_cat_r, pm_cat_l, pm_obj, pm_arr, pm_opt, List.getElem?_cons_zero, List.getElem?_cons_succ, List.set_cons_zero, List.set_cons_succ, List.length_cons, List.length_nil, List.length_set, true_and, and_true, Nat.add_zero, Nat.zero_add, Nat.le_refl, Nat.reduceAdd, Nat.reduceLT, Nat.reduceLeDiff, Nat.zero_le, not_false_eq_true, not_true_eq_false, false_implies, implies_true, true_implies, Nat.zero_lt_succ, Nat.lt_add_one, pm_tl_v, List.cons_append, List.nil_append, pm_k5_c, pm_tl_n, pm_tl_s, i1, i2, i3, i4, i5, hus2]
  exact hT _ _ h2 ⟨_, R2⟩ (by omega) (by obtain ⟨f, hf⟩ := hf; exact ⟨f, (e2.trans e1).trans hf⟩)
theorem ct_past (X : CX p l s m b0 meth c D ct b g adV L xs) (hxo : xo ≤ 900) {us : Nat} (hus : us + 6 ≤ 7293033) {th i : Int32} {u5 u6 : Option Value} {h : pmH} (R : RZ th h) (hl : h.length = 125) (hf : LG h) (i1 : vp_in (i + 1) L) (i2 : vp_in (i + 2) L) (i3 : vp_in (i + 3) L) (i4 : vp_in (i + 4) L) (i5 : vp_in (i + 5) L)  (hT : ∀ (u5 u6 : Option Value) (h2 : pmH), (∃ th, RZ th h2) → h2.length = 125 → LG h2 → SE p l e s m b0 below meth c Qf D ct b g (xo + 1) 1934 [some (.ref 1000001), some (.ref 0), some (.ref 113), some (.ref 124), some (.int i), u5, u6] [] h2 (us + 6)) : SE p l e s m b0 below meth c Qf D ct b g xo 1652 [some (.ref 1000001), some (.ref 0), some (.ref 113), some (.ref 124), some (.int i), u5, u6] [] h us := by
  obtain ⟨bs, ws, A, K, o, S, -⟩ := R
  have c0 := S.C.o
  have r0 := lw_ird hl L xs
  obtain ⟨f, hf⟩ := hf
  have hus2 : us ≤ 7293033 := by omega
  obtain ⟨Q, hW, hQ⟩ := tr_past S hl (xs ((i + 1).toNatClampNeg))
  refine law_run X (by omega) lk_1 ?_
  show KL1 _ _ _ _ _ _ _ _ _
  simp only [g_1652, g_1653, g_1654, g_1656, g_1657, g_1658, g_1659, g_1660, pm_1i_c, pm_2i_c, pm_1l_c, pm_2l_c, pm_1a_c, pm_ia_c, pm_iia_c, pm_va_c, pm_cp_c, pm_k0_c, pm_k1_c, pm_k2_c, pm_k3_c, pm_s1_c, pm_s2_c, pm_s3_c, pm_s4_c, pm_ri_c, pm_ra_c, pm_rn_c, pm_rk_i, pm_rk_z, pm_rk_a, pm_vk_i, pm_vk_z, pm_vk_a, pm_cti, pm_ctr, pm_ldi_z, pm_ldi_s, pm_lda_z, pm_lda_s, pm_cat_n, pm_cat_i, pm_cat_r, pm_cat_l, pm_obj, pm_arr, pm_opt, List.getElem?_cons_zero, List.getElem?_cons_succ, List.set_cons_zero, List.set_cons_succ, List.length_cons, List.length_nil, List.length_set, true_and, and_true, Nat.add_zero, Nat.zero_add, Nat.le_refl, Nat.reduceAdd, Nat.reduceLT, Nat.reduceLeDiff, Nat.zero_le, not_false_eq_true, not_true_eq_false, false_implies, implies_true, true_implies, Nat.zero_lt_succ, Nat.lt_add_one, pm_tl_v, List.cons_append, List.nil_append, pm_k5_c, pm_tl_n, pm_tl_s, i1, i2, i3, i4, i5, hus2, c0, r0, hl]
  refine law_call X (idx := 199) (n := 3) (y := yL_past) (cc := cL_past) (maxL := 4) (hh := [(0, 9, 12, 29)]) (as := [.ref 0, .int (xs ((i + 1).toNatClampNeg)), .ref 124]) (by omega) hus hl (hp_past (d := 458) (f := f) X.2.2.2.2.2.2.2.2.1 X.2.2.2.2.2.2.1 c0 (fun v h1 z => (hQ v h1 z).1.trans hf) (fun v h1 z => by
    rcases (hQ v h1 z).2.2 with ⟨y, hy, -⟩ | ⟨e, he, -⟩
    · exact Or.inl ⟨y, hy⟩
    · exact Or.inr ⟨e, he⟩) (fun e h1 z => by
    rcases (hQ _ h1 z).2.2 with ⟨y, hy, -⟩ | ⟨e9, he, hE, -⟩
    · cases hy
    · cases he
      exact hE) hW) (pm_w_in (j := 6001) (by decide +kernel)) (pm_w_in (j := 5239) (by decide +kernel)) (pm_w_in (j := 6000) (by decide +kernel)) (pm_w_in (j := 1000) (by decide +kernel)) (by decide +kernel) (by decide) rfl (by decide +kernel) ?_
  have hus2 : us + 6 ≤ 7293033 := hus
  intro v h1 l1 hp
  rcases hp with ⟨y, h9, hq, rfl, rfl⟩ | ⟨ev, he, hq, rfl⟩
  · rcases hQ _ _ hq with ⟨e1, ⟨fs, hm⟩, ⟨y', hy, P⟩ | ⟨e', hy, -⟩⟩
    · cases hy
      have l9 : h9.length = 125 := by rw [List.length_set] at l1; exact l1
      suffices key : ∀ h1 : pmH, h1 = h9.set 124 (.inl (3, 1, .inr (.inl (vp_updL f 0 y.toInt64)))) → SE p l e s m b0 below meth c Qf D ct b g (xo + 1) 1663 [some (.ref 1000001), some (.ref 0), some (.ref 113), some (.ref 124), some (.int i), u5, u6] [.int 0] h1 (us + 6) from key _ rfl
      clear l1
      intro h1 hh1
      have f1 : ∀ i, i ≠ 124 → h1[i]? = h9[i]? := fun i hi => by rw [hh1]; exact List.getElem?_set_ne (fun z => hi z.symm)
      have f2 : h1[124]? = some (.inl (3, 1, .inr (.inl (vp_updL f 0 y.toInt64)))) := by rw [hh1]; exact List.getElem?_set_self (by omega)
      have l1 : h1.length = 125 := by rw [hh1, List.length_set]; exact l9
      clear hh1
      have r1 := lw_ird l1 L xs
      have hm1 := (f1 113 (by omega)).trans hm
      refine law_run X (by omega) lk_1 ?_
      show KL1 _ _ _ _ _ _ _ _ _
      simp only [g_1663, g_1665, g_1666, g_1667, g_1669, g_1670, g_1671, g_1672, pm_1i_c, pm_2i_c, pm_1l_c, pm_2l_c, pm_1a_c, pm_ia_c, pm_iia_c, pm_va_c, pm_cp_c, pm_k0_c, pm_k1_c, pm_k2_c, pm_k3_c, pm_s1_c, pm_s2_c, pm_s3_c, pm_s4_c, pm_ri_c, pm_ra_c, pm_rn_c, pm_rk_i, pm_rk_z, pm_rk_a, pm_vk_i, pm_vk_z, pm_vk_a, pm_cti, pm_ctr, pm_ldi_z, pm_ldi_s, pm_lda_z, pm_lda_s, pm_cat_n, pm_cat_i, pm_cat_r, pm_cat_l, pm_obj, pm_arr, pm_opt, List.getElem?_cons_zero, List.getElem?_cons_succ, List.set_cons_zero, List.set_cons_succ, List.length_cons, List.length_nil, List.length_set, true_and, and_true, Nat.add_zero, Nat.zero_add, Nat.le_refl, Nat.reduceAdd, Nat.reduceLT, Nat.reduceLeDiff, Nat.zero_le, not_false_eq_true, not_true_eq_false, false_implies, implies_true, true_implies, Nat.zero_lt_succ, Nat.lt_add_one, pm_tl_v, List.cons_append, List.nil_append, pm_k5_c, pm_tl_n, pm_tl_s, i1, i2, i3, i4, i5, hus2, hm1, r1, l1]
      refine PM_use (P h1 f1) ?_
      rintro w h3 l3 ⟨rfl, R3, e3⟩
      have l3' : h3.length = 125 := by omega
      obtain ⟨o3, m3, t3⟩ := R3.len
      have m3' := m3
      unfold mO at m3'
      have f3 := e3.trans f2
      show KL1 _ _ _ _ _ _ _ _ _
      simp only [g_1675, g_1677, g_1678, pm_1i_c, pm_2i_c, pm_1l_c, pm_2l_c, pm_1a_c, pm_ia_c, pm_iia_c, pm_va_c, pm_cp_c, pm_k0_c, pm_k1_c, pm_k2_c, pm_k3_c, pm_s1_c, pm_s2_c, pm_s3_c, pm_s4_c, pm_ri_c, pm_ra_c, pm_rn_c, pm_rk_i, pm_rk_z, pm_rk_a, pm_vk_i, pm_vk_z, pm_vk_a, pm_cti, pm_ctr, pm_ldi_z, pm_ldi_s, pm_lda_z, pm_lda_s, pm_cat_n, pm_cat_i, pm_cat_r, pm_cat_l, pm_obj, pm_arr, pm_opt, List.getElem?_cons_zero, List.getElem?_cons_succ, List.set_cons_zero, List.set_cons_succ, List.length_cons, List.length_nil, List.length_set, true_and, and_true, Nat.add_zero, Nat.zero_add, Nat.le_refl, Nat.reduceAdd, Nat.reduceLT, Nat.reduceLeDiff, Nat.zero_le, not_false_eq_true, not_true_eq_false, false_implies, implies_true, true_implies, Nat.zero_lt_succ, Nat.lt_add_one, pm_tl_v, List.cons_append, List.nil_append, pm_k5_c, pm_tl_n, pm_tl_s, i1, i2, i3, i4, i5, hus2, m3', l3']
      refine PM_use (c_M_thrown m3 459) ?_
      rintro w9 h4 l4 ⟨rfl, rfl⟩
      show KL1 _ _ _ _ _ _ _ _ _
      simp only [g_1681, g_1683, g_1686, g_1688, g_1690, g_1693, g_1694, g_1695, g_1696, g_1698, g_1699, g_1700, g_1703, g_1705, g_1934, pm_1i_c, pm_2i_c, pm_1l_c, pm_2l_c, pm_1a_c, pm_ia_c, pm_iia_c, pm_va_c, pm_cp_c, pm_k0_c, pm_k1_c, pm_k2_c, pm_k3_c, pm_s1_c, pm_s2_c, pm_s3_c, pm_s4_c, pm_ri_c, pm_ra_c, pm_rn_c, pm_rk_i, pm_rk_z, pm_rk_a, pm_vk_i, pm_vk_z, pm_vk_a, pm_cti, pm_ctr, pm_ldi_z, pm_ldi_s, pm_lda_z, pm_lda_s, pm_cat_n, pm_cat_i, pm_cat_r, pm_cat_l, pm_obj, pm_arr, pm_opt, List.getElem?_cons_zero, List.getElem?_cons_succ, List.set_cons_zero, List.set_cons_succ, List.length_cons, List.length_nil, List.length_set, true_and, and_true, Nat.add_zero, Nat.zero_add, Nat.le_refl, Nat.reduceAdd, Nat.reduceLT, Nat.reduceLeDiff, Nat.zero_le, not_false_eq_true, not_true_eq_false, false_implies, implies_true, true_implies, Nat.zero_lt_succ, Nat.lt_add_one, pm_tl_v, List.cons_append, List.nil_append, pm_k5_c, pm_tl_n, pm_tl_s, i1, i2, i3, i4, i5, hus2, t3, f3, pm_arl, px_z0, px_in01, vp_updL_0, lg_cmp_s, eq_self]
      exact hT _ _ _ ⟨_, R3⟩ l3' ⟨_, f3⟩
    · cases hy
  · rcases hQ _ _ hq with ⟨e1, ⟨fs, hm⟩, ⟨y', hy, -⟩ | ⟨e', hy, hE, P⟩⟩
    · cases hy
    · cases hy
      have r1 := lw_ird l1 L xs
      have hk : ¬ (1 : Int32) = 0 := by decide
      refine law_run X (by omega) lk_1 ?_
      show KL1 _ _ _ _ _ _ _ _ _
      simp only [g_1663, g_1665, g_1666, g_1667, g_1669, g_1670, g_1671, g_1672, pm_1i_c, pm_2i_c, pm_1l_c, pm_2l_c, pm_1a_c, pm_ia_c, pm_iia_c, pm_va_c, pm_cp_c, pm_k0_c, pm_k1_c, pm_k2_c, pm_k3_c, pm_s1_c, pm_s2_c, pm_s3_c, pm_s4_c, pm_ri_c, pm_ra_c, pm_rn_c, pm_rk_i, pm_rk_z, pm_rk_a, pm_vk_i, pm_vk_z, pm_vk_a, pm_cti, pm_ctr, pm_ldi_z, pm_ldi_s, pm_lda_z, pm_lda_s, pm_cat_n, pm_cat_i, pm_cat_r, pm_cat_l, pm_obj, pm_arr, pm_opt, List.getElem?_cons_zero, List.getElem?_cons_succ, List.set_cons_zero, List.set_cons_succ, List.length_cons, List.length_nil, List.length_set, true_and, and_true, Nat.add_zero, Nat.zero_add, Nat.le_refl, Nat.reduceAdd, Nat.reduceLT, Nat.reduceLeDiff, Nat.zero_le, not_false_eq_true, not_true_eq_false, false_implies, implies_true, true_implies, Nat.zero_lt_succ, Nat.lt_add_one, pm_tl_v, List.cons_append, List.nil_append, pm_k5_c, pm_tl_n, pm_tl_s, i1, i2, i3, i4, i5, hus2, hm, r1, l1]
      refine PM_use P ?_
      rintro w h3 l3 ⟨⟨zz, rfl⟩, R3, e3⟩
      have l3' : h3.length = 125 := by omega
      obtain ⟨o3, m3, t3⟩ := R3.len
      have m3' := m3
      unfold mO at m3'
      have f3 := (e3.trans e1).trans hf
      show KL1 _ _ _ _ _ _ _ _ _
      simp only [g_1675, g_1677, g_1678, pm_1i_c, pm_2i_c, pm_1l_c, pm_2l_c, pm_1a_c, pm_ia_c, pm_iia_c, pm_va_c, pm_cp_c, pm_k0_c, pm_k1_c, pm_k2_c, pm_k3_c, pm_s1_c, pm_s2_c, pm_s3_c, pm_s4_c, pm_ri_c, pm_ra_c, pm_rn_c, pm_rk_i, pm_rk_z, pm_rk_a, pm_vk_i, pm_vk_z, pm_vk_a, pm_cti, pm_ctr, pm_ldi_z, pm_ldi_s, pm_lda_z, pm_lda_s, pm_cat_n, pm_cat_i, pm_cat_r, pm_cat_l, pm_obj, pm_arr, pm_opt, List.getElem?_cons_zero, List.getElem?_cons_succ, List.set_cons_zero, List.set_cons_succ, List.length_cons, List.length_nil, List.length_set, true_and, and_true, Nat.add_zero, Nat.zero_add, Nat.le_refl, Nat.reduceAdd, Nat.reduceLT, Nat.reduceLeDiff, Nat.zero_le, not_false_eq_true, not_true_eq_false, false_implies, implies_true, true_implies, Nat.zero_lt_succ, Nat.lt_add_one, pm_tl_v, List.cons_append, List.nil_append, pm_k5_c, pm_tl_n, pm_tl_s, i1, i2, i3, i4, i5, hus2, m3', l3']
      refine PM_use (c_M_thrown m3 459) ?_
      rintro w9 h4 l4 ⟨rfl, rfl⟩
      show KL1 _ _ _ _ _ _ _ _ _
      simp only [g_1681, g_1683, g_1686, g_1688, g_1690, g_1693, g_1694, g_1695, g_1696, g_1698, g_1699, g_1700, g_1703, g_1705, g_1934, pm_1i_c, pm_2i_c, pm_1l_c, pm_2l_c, pm_1a_c, pm_ia_c, pm_iia_c, pm_va_c, pm_cp_c, pm_k0_c, pm_k1_c, pm_k2_c, pm_k3_c, pm_s1_c, pm_s2_c, pm_s3_c, pm_s4_c, pm_ri_c, pm_ra_c, pm_rn_c, pm_rk_i, pm_rk_z, pm_rk_a, pm_vk_i, pm_vk_z, pm_vk_a, pm_cti, pm_ctr, pm_ldi_z, pm_ldi_s, pm_lda_z, pm_lda_s, pm_cat_n, pm_cat_i, pm_cat_r, pm_cat_l, pm_obj, pm_arr, pm_opt, List.getElem?_cons_zero, List.getElem?_cons_succ, List.set_cons_zero, List.set_cons_succ, List.length_cons, List.length_nil, List.length_set, true_and, and_true, Nat.add_zero, Nat.zero_add, Nat.le_refl, Nat.reduceAdd, Nat.reduceLT, Nat.reduceLeDiff, Nat.zero_le, not_false_eq_true, not_true_eq_false, false_implies, implies_true, true_implies, Nat.zero_lt_succ, Nat.lt_add_one, pm_tl_v, List.cons_append, List.nil_append, pm_k5_c, pm_tl_n, pm_tl_s, i1, i2, i3, i4, i5, hus2, t3, hk]
      exact hT _ _ _ ⟨_, R3⟩ l3' ⟨_, f3⟩
theorem ct_asked (X : CX p l s m b0 meth c D ct b g adV L xs) (hxo : xo ≤ 900) {us : Nat} (hus : us + 6 ≤ 7293033) {th i : Int32} {u5 u6 : Option Value} {h : pmH} (R : RZ th h) (hl : h.length = 125) (hf : LG h) (i1 : vp_in (i + 1) L) (i2 : vp_in (i + 2) L) (i3 : vp_in (i + 3) L) (i4 : vp_in (i + 4) L) (i5 : vp_in (i + 5) L)  (hT : ∀ (u5 u6 : Option Value) (h2 : pmH), (∃ th, RZ th h2) → h2.length = 125 → LG h2 → SE p l e s m b0 below meth c Qf D ct b g (xo + 1) 1934 [some (.ref 1000001), some (.ref 0), some (.ref 113), some (.ref 124), some (.int i), u5, u6] [] h2 (us + 6)) : SE p l e s m b0 below meth c Qf D ct b g xo 1708 [some (.ref 1000001), some (.ref 0), some (.ref 113), some (.ref 124), some (.int i), u5, u6] [] h us := by
  obtain ⟨bs, ws, A, K, o, S, -⟩ := R
  have c0 := S.C.o
  have r0 := lw_ird hl L xs
  obtain ⟨f, hf⟩ := hf
  have hus2 : us ≤ 7293033 := by omega
  obtain ⟨Q, hW, hQ⟩ := tr_asked S hl (xs ((i + 1).toNatClampNeg))
  refine law_run X (by omega) lk_1 ?_
  show KL1 _ _ _ _ _ _ _ _ _
  simp only [g_1708, g_1709, g_1710, g_1712, g_1713, g_1714, g_1715, g_1716, pm_1i_c, pm_2i_c, pm_1l_c, pm_2l_c, pm_1a_c, pm_ia_c, pm_iia_c, pm_va_c, pm_cp_c, pm_k0_c, pm_k1_c, pm_k2_c, pm_k3_c, pm_s1_c, pm_s2_c, pm_s3_c, pm_s4_c, pm_ri_c, pm_ra_c, pm_rn_c, pm_rk_i, pm_rk_z, pm_rk_a, pm_vk_i, pm_vk_z, pm_vk_a, pm_cti, pm_ctr, pm_ldi_z, pm_ldi_s, pm_lda_z, pm_lda_s, pm_cat_n, pm_cat_i, pm_cat_r, pm_cat_l, pm_obj, pm_arr, pm_opt, List.getElem?_cons_zero, List.getElem?_cons_succ, List.set_cons_zero, List.set_cons_succ, List.length_cons, List.length_nil, List.length_set, true_and, and_true, Nat.add_zero, Nat.zero_add, Nat.le_refl, Nat.reduceAdd, Nat.reduceLT, Nat.reduceLeDiff, Nat.zero_le, not_false_eq_true, not_true_eq_false, false_implies, implies_true, true_implies, Nat.zero_lt_succ, Nat.lt_add_one, pm_tl_v, List.cons_append, List.nil_append, pm_k5_c, pm_tl_n, pm_tl_s, i1, i2, i3, i4, i5, hus2, c0, r0, hl]
  refine law_call X (idx := 202) (n := 3) (y := yL_asked) (cc := cL_asked) (maxL := 4) (hh := [(0, 9, 12, 13)]) (as := [.ref 0, .int (xs ((i + 1).toNatClampNeg)), .ref 124]) (by omega) hus hl (hp_asked (d := 458) (f := f) X.2.2.2.2.2.2.2.2.1 X.2.2.2.2.2.2.1 c0 (fun v h1 z => (hQ v h1 z).1.trans hf) (fun v h1 z => by
    rcases (hQ v h1 z).2.2 with ⟨y, hy, -⟩ | ⟨e, he, -⟩
    · exact Or.inl ⟨y, hy⟩
    · exact Or.inr ⟨e, he⟩) (fun e h1 z => by
    rcases (hQ _ h1 z).2.2 with ⟨y, hy, -⟩ | ⟨e9, he, hE, -⟩
    · cases hy
    · cases he
      exact hE) hW) (pm_w_in (j := 6035) (by decide +kernel)) (pm_w_in (j := 6033) (by decide +kernel)) (pm_w_in (j := 6034) (by decide +kernel)) (pm_w_in (j := 1000) (by decide +kernel)) (by decide +kernel) (by decide) rfl (by decide +kernel) ?_
  have hus2 : us + 6 ≤ 7293033 := hus
  intro v h1 l1 hp
  rcases hp with ⟨y, h9, hq, rfl, rfl⟩ | ⟨ev, he, hq, rfl⟩
  · rcases hQ _ _ hq with ⟨e1, ⟨fs, hm⟩, ⟨y', hy, P⟩ | ⟨e', hy, -⟩⟩
    · cases hy
      have l9 : h9.length = 125 := by rw [List.length_set] at l1; exact l1
      suffices key : ∀ h1 : pmH, h1 = h9.set 124 (.inl (3, 1, .inr (.inl (vp_updL f 0 y.toInt64)))) → SE p l e s m b0 below meth c Qf D ct b g (xo + 1) 1719 [some (.ref 1000001), some (.ref 0), some (.ref 113), some (.ref 124), some (.int i), u5, u6] [.int 0] h1 (us + 6) from key _ rfl
      clear l1
      intro h1 hh1
      have f1 : ∀ i, i ≠ 124 → h1[i]? = h9[i]? := fun i hi => by rw [hh1]; exact List.getElem?_set_ne (fun z => hi z.symm)
      have f2 : h1[124]? = some (.inl (3, 1, .inr (.inl (vp_updL f 0 y.toInt64)))) := by rw [hh1]; exact List.getElem?_set_self (by omega)
      have l1 : h1.length = 125 := by rw [hh1, List.length_set]; exact l9
      clear hh1
      have r1 := lw_ird l1 L xs
      have hm1 := (f1 113 (by omega)).trans hm
      refine law_run X (by omega) lk_1 ?_
      show KL1 _ _ _ _ _ _ _ _ _
      simp only [g_1719, g_1721, g_1722, g_1723, g_1725, g_1726, g_1727, g_1728, pm_1i_c, pm_2i_c, pm_1l_c, pm_2l_c, pm_1a_c, pm_ia_c, pm_iia_c, pm_va_c, pm_cp_c, pm_k0_c, pm_k1_c, pm_k2_c, pm_k3_c, pm_s1_c, pm_s2_c, pm_s3_c, pm_s4_c, pm_ri_c, pm_ra_c, pm_rn_c, pm_rk_i, pm_rk_z, pm_rk_a, pm_vk_i, pm_vk_z, pm_vk_a, pm_cti, pm_ctr, pm_ldi_z, pm_ldi_s, pm_lda_z, pm_lda_s, pm_cat_n, pm_cat_i, pm_cat_r, pm_cat_l, pm_obj, pm_arr, pm_opt, List.getElem?_cons_zero, List.getElem?_cons_succ, List.set_cons_zero, List.set_cons_succ, List.length_cons, List.length_nil, List.length_set, true_and, and_true, Nat.add_zero, Nat.zero_add, Nat.le_refl, Nat.reduceAdd, Nat.reduceLT, Nat.reduceLeDiff, Nat.zero_le, not_false_eq_true, not_true_eq_false, false_implies, implies_true, true_implies, Nat.zero_lt_succ, Nat.lt_add_one, pm_tl_v, List.cons_append, List.nil_append, pm_k5_c, pm_tl_n, pm_tl_s, i1, i2, i3, i4, i5, hus2, hm1, r1, l1]
      refine PM_use (P h1 f1) ?_
      rintro w h3 l3 ⟨rfl, R3, e3⟩
      have l3' : h3.length = 125 := by omega
      obtain ⟨o3, m3, t3⟩ := R3.len
      have m3' := m3
      unfold mO at m3'
      have f3 := e3.trans f2
      show KL1 _ _ _ _ _ _ _ _ _
      simp only [g_1731, g_1733, g_1734, pm_1i_c, pm_2i_c, pm_1l_c, pm_2l_c, pm_1a_c, pm_ia_c, pm_iia_c, pm_va_c, pm_cp_c, pm_k0_c, pm_k1_c, pm_k2_c, pm_k3_c, pm_s1_c, pm_s2_c, pm_s3_c, pm_s4_c, pm_ri_c, pm_ra_c, pm_rn_c, pm_rk_i, pm_rk_z, pm_rk_a, pm_vk_i, pm_vk_z, pm_vk_a, pm_cti, pm_ctr, pm_ldi_z, pm_ldi_s, pm_lda_z, pm_lda_s, pm_cat_n, pm_cat_i, pm_cat_r, pm_cat_l, pm_obj, pm_arr, pm_opt, List.getElem?_cons_zero, List.getElem?_cons_succ, List.set_cons_zero, List.set_cons_succ, List.length_cons, List.length_nil, List.length_set, true_and, and_true, Nat.add_zero, Nat.zero_add, Nat.le_refl, Nat.reduceAdd, Nat.reduceLT, Nat.reduceLeDiff, Nat.zero_le, not_false_eq_true, not_true_eq_false, false_implies, implies_true, true_implies, Nat.zero_lt_succ, Nat.lt_add_one, pm_tl_v, List.cons_append, List.nil_append, pm_k5_c, pm_tl_n, pm_tl_s, i1, i2, i3, i4, i5, hus2, m3', l3']
      refine PM_use (c_M_thrown m3 459) ?_
      rintro w9 h4 l4 ⟨rfl, rfl⟩
      show KL1 _ _ _ _ _ _ _ _ _
      simp only [g_1737, g_1739, g_1742, g_1744, g_1746, g_1749, g_1750, g_1751, g_1752, g_1754, g_1755, g_1756, g_1759, g_1761, g_1934, pm_1i_c, pm_2i_c, pm_1l_c, pm_2l_c, pm_1a_c, pm_ia_c, pm_iia_c, pm_va_c, pm_cp_c, pm_k0_c, pm_k1_c, pm_k2_c, pm_k3_c, pm_s1_c, pm_s2_c, pm_s3_c, pm_s4_c, pm_ri_c, pm_ra_c, pm_rn_c, pm_rk_i, pm_rk_z, pm_rk_a, pm_vk_i, pm_vk_z, pm_vk_a, pm_cti, pm_ctr, pm_ldi_z, pm_ldi_s, pm_lda_z, pm_lda_s, pm_cat_n, pm_cat_i, pm_cat_r, pm_cat_l, pm_obj, pm_arr, pm_opt, List.getElem?_cons_zero, List.getElem?_cons_succ, List.set_cons_zero, List.set_cons_succ, List.length_cons, List.length_nil, List.length_set, true_and, and_true, Nat.add_zero, Nat.zero_add, Nat.le_refl, Nat.reduceAdd, Nat.reduceLT, Nat.reduceLeDiff, Nat.zero_le, not_false_eq_true, not_true_eq_false, false_implies, implies_true, true_implies, Nat.zero_lt_succ, Nat.lt_add_one, pm_tl_v, List.cons_append, List.nil_append, pm_k5_c, pm_tl_n, pm_tl_s, i1, i2, i3, i4, i5, hus2, t3, f3, pm_arl, px_z0, px_in01, vp_updL_0, lg_cmp_s, eq_self]
      exact hT _ _ _ ⟨_, R3⟩ l3' ⟨_, f3⟩
    · cases hy
  · rcases hQ _ _ hq with ⟨e1, ⟨fs, hm⟩, ⟨y', hy, -⟩ | ⟨e', hy, hE, P⟩⟩
    · cases hy
    · cases hy
      have r1 := lw_ird l1 L xs
      have hk : ¬ (1 : Int32) = 0 := by decide
      refine law_run X (by omega) lk_1 ?_
      show KL1 _ _ _ _ _ _ _ _ _
      simp only [g_1719, g_1721, g_1722, g_1723, g_1725, g_1726, g_1727, g_1728, pm_1i_c, pm_2i_c, pm_1l_c, pm_2l_c, pm_1a_c, pm_ia_c, pm_iia_c, pm_va_c, pm_cp_c, pm_k0_c, pm_k1_c, pm_k2_c, pm_k3_c, pm_s1_c, pm_s2_c, pm_s3_c, pm_s4_c, pm_ri_c, pm_ra_c, pm_rn_c, pm_rk_i, pm_rk_z, pm_rk_a, pm_vk_i, pm_vk_z, pm_vk_a, pm_cti, pm_ctr, pm_ldi_z, pm_ldi_s, pm_lda_z, pm_lda_s, pm_cat_n, pm_cat_i, pm_cat_r, pm_cat_l, pm_obj, pm_arr, pm_opt, List.getElem?_cons_zero, List.getElem?_cons_succ, List.set_cons_zero, List.set_cons_succ, List.length_cons, List.length_nil, List.length_set, true_and, and_true, Nat.add_zero, Nat.zero_add, Nat.le_refl, Nat.reduceAdd, Nat.reduceLT, Nat.reduceLeDiff, Nat.zero_le, not_false_eq_true, not_true_eq_false, false_implies, implies_true, true_implies, Nat.zero_lt_succ, Nat.lt_add_one, pm_tl_v, List.cons_append, List.nil_append, pm_k5_c, pm_tl_n, pm_tl_s, i1, i2, i3, i4, i5, hus2, hm, r1, l1]
      refine PM_use P ?_
      rintro w h3 l3 ⟨⟨zz, rfl⟩, R3, e3⟩
      have l3' : h3.length = 125 := by omega
      obtain ⟨o3, m3, t3⟩ := R3.len
      have m3' := m3
      unfold mO at m3'
      have f3 := (e3.trans e1).trans hf
      show KL1 _ _ _ _ _ _ _ _ _
      simp only [g_1731, g_1733, g_1734, pm_1i_c, pm_2i_c, pm_1l_c, pm_2l_c, pm_1a_c, pm_ia_c, pm_iia_c, pm_va_c, pm_cp_c, pm_k0_c, pm_k1_c, pm_k2_c, pm_k3_c, pm_s1_c, pm_s2_c, pm_s3_c, pm_s4_c, pm_ri_c, pm_ra_c, pm_rn_c, pm_rk_i, pm_rk_z, pm_rk_a, pm_vk_i, pm_vk_z, pm_vk_a, pm_cti, pm_ctr, pm_ldi_z, pm_ldi_s, pm_lda_z, pm_lda_s, pm_cat_n, pm_cat_i, pm_cat_r, pm_cat_l, pm_obj, pm_arr, pm_opt, List.getElem?_cons_zero, List.getElem?_cons_succ, List.set_cons_zero, List.set_cons_succ, List.length_cons, List.length_nil, List.length_set, true_and, and_true, Nat.add_zero, Nat.zero_add, Nat.le_refl, Nat.reduceAdd, Nat.reduceLT, Nat.reduceLeDiff, Nat.zero_le, not_false_eq_true, not_true_eq_false, false_implies, implies_true, true_implies, Nat.zero_lt_succ, Nat.lt_add_one, pm_tl_v, List.cons_append, List.nil_append, pm_k5_c, pm_tl_n, pm_tl_s, i1, i2, i3, i4, i5, hus2, m3', l3']
      refine PM_use (c_M_thrown m3 459) ?_
      rintro w9 h4 l4 ⟨rfl, rfl⟩
      show KL1 _ _ _ _ _ _ _ _ _
      simp only [g_1737, g_1739, g_1742, g_1744, g_1746, g_1749, g_1750, g_1751, g_1752, g_1754, g_1755, g_1756, g_1759, g_1761, g_1934, pm_1i_c, pm_2i_c, pm_1l_c, pm_2l_c, pm_1a_c, pm_ia_c, pm_iia_c, pm_va_c, pm_cp_c, pm_k0_c, pm_k1_c, pm_k2_c, pm_k3_c, pm_s1_c, pm_s2_c, pm_s3_c, pm_s4_c, pm_ri_c, pm_ra_c, pm_rn_c, pm_rk_i, pm_rk_z, pm_rk_a, pm_vk_i, pm_vk_z, pm_vk_a, pm_cti, pm_ctr, pm_ldi_z, pm_ldi_s, pm_lda_z, pm_lda_s, pm_cat_n, pm_cat_i, pm_cat_r, pm_cat_l, pm_obj, pm_arr, pm_opt, List.getElem?_cons_zero, List.getElem?_cons_succ, List.set_cons_zero, List.set_cons_succ, List.length_cons, List.length_nil, List.length_set, true_and, and_true, Nat.add_zero, Nat.zero_add, Nat.le_refl, Nat.reduceAdd, Nat.reduceLT, Nat.reduceLeDiff, Nat.zero_le, not_false_eq_true, not_true_eq_false, false_implies, implies_true, true_implies, Nat.zero_lt_succ, Nat.lt_add_one, pm_tl_v, List.cons_append, List.nil_append, pm_k5_c, pm_tl_n, pm_tl_s, i1, i2, i3, i4, i5, hus2, t3, hk]
      exact hT _ _ _ ⟨_, R3⟩ l3' ⟨_, f3⟩
theorem cs_hot (X : CX p l s m b0 meth c D ct b g adV L xs) (hxo : xo ≤ 900) {us : Nat} (hus : us + 6 ≤ 7293033) {th i : Int32} {u5 u6 : Option Value} {h : pmH} (R : RZ th h) (hl : h.length = 125) (hf : LG h) (i1 : vp_in (i + 1) L) (i2 : vp_in (i + 2) L) (i3 : vp_in (i + 3) L) (i4 : vp_in (i + 4) L) (i5 : vp_in (i + 5) L)  (hT : ∀ (u5 u6 : Option Value) (h2 : pmH), (∃ th, RZ th h2) → h2.length = 125 → LG h2 → SE p l e s m b0 below meth c Qf D ct b g xo 1934 [some (.ref 1000001), some (.ref 0), some (.ref 113), some (.ref 124), some (.int i), u5, u6] [] h2 us) : SE p l e s m b0 below meth c Qf D ct b g xo 1764 [some (.ref 1000001), some (.ref 0), some (.ref 113), some (.ref 124), some (.int i), u5, u6] [] h us := by
  obtain ⟨bs, ws, A, K, o, S, -⟩ := R
  have c0 := S.C.o
  have r0 := lw_ird hl L xs
  have hus2 : us ≤ 7293033 := by omega
  refine law_run X (by omega) lk_1 ?_
  show KL1 _ _ _ _ _ _ _ _ _
  simp only [g_1764, g_1765, g_1766, g_1768, g_1769, g_1770, g_1771, pm_1i_c, pm_2i_c, pm_1l_c, pm_2l_c, pm_1a_c, pm_ia_c, pm_iia_c, pm_va_c, pm_cp_c, pm_k0_c, pm_k1_c, pm_k2_c, pm_k3_c, pm_s1_c, pm_s2_c, pm_s3_c, pm_s4_c, pm_ri_c, pm_ra_c, pm_rn_c, pm_rk_i, pm_rk_z, pm_rk_a, pm_vk_i, pm_vk_z, pm_vk_a, pm_cti, pm_ctr, pm_ldi_z, pm_ldi_s, pm_lda_z, pm_lda_s, pm_cat_n, pm_cat_i, pm_cat_r, pm_cat_l, pm_obj, pm_arr, pm_opt, List.getElem?_cons_zero, List.getElem?_cons_succ, List.set_cons_zero, List.set_cons_succ, List.length_cons, List.length_nil, List.length_set, true_and, and_true, Nat.add_zero, Nat.zero_add, Nat.le_refl, Nat.reduceAdd, Nat.reduceLT, Nat.reduceLeDiff, Nat.zero_le, not_false_eq_true, not_true_eq_false, false_implies, implies_true, true_implies, Nat.zero_lt_succ, Nat.lt_add_one, pm_tl_v, List.cons_append, List.nil_append, pm_k5_c, pm_tl_n, pm_tl_s, i1, i2, i3, i4, i5, hus2, c0, r0, hl]
  refine PM_use (pr_hot S hl (xs ((i + 1).toNatClampNeg))) ?_
  rintro v h1 l1 ⟨y, rfl, e1, ⟨fs, hm⟩, P⟩
  have l1' : h1.length = 125 := by omega
  have r1 := lw_ird l1' L xs
  show KL1 _ _ _ _ _ _ _ _ _
  simp only [g_1774, g_1775, g_1776, g_1778, g_1779, g_1780, g_1781, pm_1i_c, pm_2i_c, pm_1l_c, pm_2l_c, pm_1a_c, pm_ia_c, pm_iia_c, pm_va_c, pm_cp_c, pm_k0_c, pm_k1_c, pm_k2_c, pm_k3_c, pm_s1_c, pm_s2_c, pm_s3_c, pm_s4_c, pm_ri_c, pm_ra_c, pm_rn_c, pm_rk_i, pm_rk_z, pm_rk_a, pm_vk_i, pm_vk_z, pm_vk_a, pm_cti, pm_ctr, pm_ldi_z, pm_ldi_s, pm_lda_z, pm_lda_s, pm_cat_n, pm_cat_i, pm_cat_r, pm_cat_l, pm_obj, pm_arr, pm_opt, List.getElem?_cons_zero, List.getElem?_cons_succ, List.set_cons_zero, List.set_cons_succ, List.length_cons, List.length_nil, List.length_set, true_and, and_true, Nat.add_zero, Nat.zero_add, Nat.le_refl, Nat.reduceAdd, Nat.reduceLT, Nat.reduceLeDiff, Nat.zero_le, not_false_eq_true, not_true_eq_false, false_implies, implies_true, true_implies, Nat.zero_lt_succ, Nat.lt_add_one, pm_tl_v, List.cons_append, List.nil_append, pm_k5_c, pm_tl_n, pm_tl_s, i1, i2, i3, i4, i5, hus2, hm, r1, l1']
  refine PM_use P ?_
  rintro w h2 l2 ⟨rfl, R2, e2⟩
  show KL1 _ _ _ _ _ _ _ _ _
  simp only [g_1784, g_1787, g_1934, pm_1i_c, pm_2i_c, pm_1l_c, pm_2l_c, pm_1a_c, pm_ia_c, pm_iia_c, pm_va_c, pm_cp_c, pm_k0_c, pm_k1_c, pm_k2_c, pm_k3_c, pm_s1_c, pm_s2_c, pm_s3_c, pm_s4_c, pm_ri_c, pm_ra_c, pm_rn_c, pm_rk_i, pm_rk_z, pm_rk_a, pm_vk_i, pm_vk_z, pm_vk_a, pm_cti, pm_ctr, pm_ldi_z, pm_ldi_s, pm_lda_z, pm_lda_s, pm_cat_n, pm_cat_i, pm_cat_r, pm_cat_l, pm_obj, pm_arr, pm_opt, List.getElem?_cons_zero, List.getElem?_cons_succ, List.set_cons_zero, List.set_cons_succ, List.length_cons, List.length_nil, List.length_set, true_and, and_true, Nat.add_zero, Nat.zero_add, Nat.le_refl, Nat.reduceAdd, Nat.reduceLT, Nat.reduceLeDiff, Nat.zero_le, not_false_eq_true, not_true_eq_false, false_implies, implies_true, true_implies, Nat.zero_lt_succ, Nat.lt_add_one, pm_tl_v, List.cons_append, List.nil_append, pm_k5_c, pm_tl_n, pm_tl_s, i1, i2, i3, i4, i5, hus2]
  exact hT _ _ h2 ⟨_, R2⟩ (by omega) (by obtain ⟨f, hf⟩ := hf; exact ⟨f, (e2.trans e1).trans hf⟩)
theorem cs_heat (X : CX p l s m b0 meth c D ct b g adV L xs) (hxo : xo ≤ 900) {us : Nat} (hus : us + 6 ≤ 7293033) {th i : Int32} {u5 u6 : Option Value} {h : pmH} (R : RZ th h) (hl : h.length = 125) (hf : LG h) (i1 : vp_in (i + 1) L) (i2 : vp_in (i + 2) L) (i3 : vp_in (i + 3) L) (i4 : vp_in (i + 4) L) (i5 : vp_in (i + 5) L)  (hT : ∀ (u5 u6 : Option Value) (h2 : pmH), (∃ th, RZ th h2) → h2.length = 125 → LG h2 → SE p l e s m b0 below meth c Qf D ct b g xo 1934 [some (.ref 1000001), some (.ref 0), some (.ref 113), some (.ref 124), some (.int i), u5, u6] [] h2 us) : SE p l e s m b0 below meth c Qf D ct b g xo 1789 [some (.ref 1000001), some (.ref 0), some (.ref 113), some (.ref 124), some (.int i), u5, u6] [] h us := by
  obtain ⟨bs, ws, A, K, o, S, -⟩ := R
  have c0 := S.C.o
  have r0 := lw_ird hl L xs
  have hus2 : us ≤ 7293033 := by omega
  refine law_run X (by omega) lk_1 ?_
  show KL1 _ _ _ _ _ _ _ _ _
  simp only [g_1789, g_1790, g_1791, g_1793, g_1794, g_1795, g_1796, pm_1i_c, pm_2i_c, pm_1l_c, pm_2l_c, pm_1a_c, pm_ia_c, pm_iia_c, pm_va_c, pm_cp_c, pm_k0_c, pm_k1_c, pm_k2_c, pm_k3_c, pm_s1_c, pm_s2_c, pm_s3_c, pm_s4_c, pm_ri_c, pm_ra_c, pm_rn_c, pm_rk_i, pm_rk_z, pm_rk_a, pm_vk_i, pm_vk_z, pm_vk_a, pm_cti, pm_ctr, pm_ldi_z, pm_ldi_s, pm_lda_z, pm_lda_s, pm_cat_n, pm_cat_i, pm_cat_r, pm_cat_l, pm_obj, pm_arr, pm_opt, List.getElem?_cons_zero, List.getElem?_cons_succ, List.set_cons_zero, List.set_cons_succ, List.length_cons, List.length_nil, List.length_set, true_and, and_true, Nat.add_zero, Nat.zero_add, Nat.le_refl, Nat.reduceAdd, Nat.reduceLT, Nat.reduceLeDiff, Nat.zero_le, not_false_eq_true, not_true_eq_false, false_implies, implies_true, true_implies, Nat.zero_lt_succ, Nat.lt_add_one, pm_tl_v, List.cons_append, List.nil_append, pm_k5_c, pm_tl_n, pm_tl_s, i1, i2, i3, i4, i5, hus2, c0, r0, hl]
  refine PM_use (pr_heat S hl (xs ((i + 1).toNatClampNeg))) ?_
  rintro v h1 l1 ⟨y, rfl, e1, ⟨fs, hm⟩, P⟩
  have l1' : h1.length = 125 := by omega
  have r1 := lw_ird l1' L xs
  show KL1 _ _ _ _ _ _ _ _ _
  simp only [g_1799, g_1800, g_1801, g_1803, g_1804, g_1805, g_1806, pm_1i_c, pm_2i_c, pm_1l_c, pm_2l_c, pm_1a_c, pm_ia_c, pm_iia_c, pm_va_c, pm_cp_c, pm_k0_c, pm_k1_c, pm_k2_c, pm_k3_c, pm_s1_c, pm_s2_c, pm_s3_c, pm_s4_c, pm_ri_c, pm_ra_c, pm_rn_c, pm_rk_i, pm_rk_z, pm_rk_a, pm_vk_i, pm_vk_z, pm_vk_a, pm_cti, pm_ctr, pm_ldi_z, pm_ldi_s, pm_lda_z, pm_lda_s, pm_cat_n, pm_cat_i, pm_cat_r, pm_cat_l, pm_obj, pm_arr, pm_opt, List.getElem?_cons_zero, List.getElem?_cons_succ, List.set_cons_zero, List.set_cons_succ, List.length_cons, List.length_nil, List.length_set, true_and, and_true, Nat.add_zero, Nat.zero_add, Nat.le_refl, Nat.reduceAdd, Nat.reduceLT, Nat.reduceLeDiff, Nat.zero_le, not_false_eq_true, not_true_eq_false, false_implies, implies_true, true_implies, Nat.zero_lt_succ, Nat.lt_add_one, pm_tl_v, List.cons_append, List.nil_append, pm_k5_c, pm_tl_n, pm_tl_s, i1, i2, i3, i4, i5, hus2, hm, r1, l1']
  refine PM_use P ?_
  rintro w h2 l2 ⟨rfl, R2, e2⟩
  show KL1 _ _ _ _ _ _ _ _ _
  simp only [g_1809, g_1812, g_1934, pm_1i_c, pm_2i_c, pm_1l_c, pm_2l_c, pm_1a_c, pm_ia_c, pm_iia_c, pm_va_c, pm_cp_c, pm_k0_c, pm_k1_c, pm_k2_c, pm_k3_c, pm_s1_c, pm_s2_c, pm_s3_c, pm_s4_c, pm_ri_c, pm_ra_c, pm_rn_c, pm_rk_i, pm_rk_z, pm_rk_a, pm_vk_i, pm_vk_z, pm_vk_a, pm_cti, pm_ctr, pm_ldi_z, pm_ldi_s, pm_lda_z, pm_lda_s, pm_cat_n, pm_cat_i, pm_cat_r, pm_cat_l, pm_obj, pm_arr, pm_opt, List.getElem?_cons_zero, List.getElem?_cons_succ, List.set_cons_zero, List.set_cons_succ, List.length_cons, List.length_nil, List.length_set, true_and, and_true, Nat.add_zero, Nat.zero_add, Nat.le_refl, Nat.reduceAdd, Nat.reduceLT, Nat.reduceLeDiff, Nat.zero_le, not_false_eq_true, not_true_eq_false, false_implies, implies_true, true_implies, Nat.zero_lt_succ, Nat.lt_add_one, pm_tl_v, List.cons_append, List.nil_append, pm_k5_c, pm_tl_n, pm_tl_s, i1, i2, i3, i4, i5, hus2]
  exact hT _ _ h2 ⟨_, R2⟩ (by omega) (by obtain ⟨f, hf⟩ := hf; exact ⟨f, (e2.trans e1).trans hf⟩)
theorem cs_write (X : CX p l s m b0 meth c D ct b g adV L xs) (hxo : xo ≤ 900) {us : Nat} (hus : us + 6 ≤ 7293033) {th i : Int32} {u5 u6 : Option Value} {h : pmH} (R : RZ th h) (hl : h.length = 125) (hf : LG h) (i1 : vp_in (i + 1) L) (i2 : vp_in (i + 2) L) (i3 : vp_in (i + 3) L) (i4 : vp_in (i + 4) L) (i5 : vp_in (i + 5) L)  (hT : ∀ (u5 u6 : Option Value) (h2 : pmH), (∃ th, RZ th h2) → h2.length = 125 → LG h2 → SE p l e s m b0 below meth c Qf D ct b g xo 1934 [some (.ref 1000001), some (.ref 0), some (.ref 113), some (.ref 124), some (.int i), u5, u6] [] h2 us) : SE p l e s m b0 below meth c Qf D ct b g xo 1814 [some (.ref 1000001), some (.ref 0), some (.ref 113), some (.ref 124), some (.int i), u5, u6] [] h us := by
  obtain ⟨bs, ws, A, K, o, S, -⟩ := R
  have c0 := S.C.o
  have r0 := lw_ird hl L xs
  have hus2 : us ≤ 7293033 := by omega
  refine law_run X (by omega) lk_1 ?_
  show KL1 _ _ _ _ _ _ _ _ _
  simp only [g_1814, g_1815, pm_1i_c, pm_2i_c, pm_1l_c, pm_2l_c, pm_1a_c, pm_ia_c, pm_iia_c, pm_va_c, pm_cp_c, pm_k0_c, pm_k1_c, pm_k2_c, pm_k3_c, pm_s1_c, pm_s2_c, pm_s3_c, pm_s4_c, pm_ri_c, pm_ra_c, pm_rn_c, pm_rk_i, pm_rk_z, pm_rk_a, pm_vk_i, pm_vk_z, pm_vk_a, pm_cti, pm_ctr, pm_ldi_z, pm_ldi_s, pm_lda_z, pm_lda_s, pm_cat_n, pm_cat_i, pm_cat_r, pm_cat_l, pm_obj, pm_arr, pm_opt, List.getElem?_cons_zero, List.getElem?_cons_succ, List.set_cons_zero, List.set_cons_succ, List.length_cons, List.length_nil, List.length_set, true_and, and_true, Nat.add_zero, Nat.zero_add, Nat.le_refl, Nat.reduceAdd, Nat.reduceLT, Nat.reduceLeDiff, Nat.zero_le, not_false_eq_true, not_true_eq_false, false_implies, implies_true, true_implies, Nat.zero_lt_succ, Nat.lt_add_one, pm_tl_v, List.cons_append, List.nil_append, pm_k5_c, pm_tl_n, pm_tl_s, i1, i2, i3, i4, i5, hus2, c0, r0, hl]
  refine PM_use (pr_write S hl) ?_
  rintro v h1 l1 ⟨y, rfl, e1, ⟨fs, hm⟩, P⟩
  have l1' : h1.length = 125 := by omega
  have r1 := lw_ird l1' L xs
  show KL1 _ _ _ _ _ _ _ _ _
  simp only [g_1818, g_1819, pm_1i_c, pm_2i_c, pm_1l_c, pm_2l_c, pm_1a_c, pm_ia_c, pm_iia_c, pm_va_c, pm_cp_c, pm_k0_c, pm_k1_c, pm_k2_c, pm_k3_c, pm_s1_c, pm_s2_c, pm_s3_c, pm_s4_c, pm_ri_c, pm_ra_c, pm_rn_c, pm_rk_i, pm_rk_z, pm_rk_a, pm_vk_i, pm_vk_z, pm_vk_a, pm_cti, pm_ctr, pm_ldi_z, pm_ldi_s, pm_lda_z, pm_lda_s, pm_cat_n, pm_cat_i, pm_cat_r, pm_cat_l, pm_obj, pm_arr, pm_opt, List.getElem?_cons_zero, List.getElem?_cons_succ, List.set_cons_zero, List.set_cons_succ, List.length_cons, List.length_nil, List.length_set, true_and, and_true, Nat.add_zero, Nat.zero_add, Nat.le_refl, Nat.reduceAdd, Nat.reduceLT, Nat.reduceLeDiff, Nat.zero_le, not_false_eq_true, not_true_eq_false, false_implies, implies_true, true_implies, Nat.zero_lt_succ, Nat.lt_add_one, pm_tl_v, List.cons_append, List.nil_append, pm_k5_c, pm_tl_n, pm_tl_s, i1, i2, i3, i4, i5, hus2, hm, r1, l1']
  refine PM_use P ?_
  rintro w h2 l2 ⟨rfl, R2, e2⟩
  show KL1 _ _ _ _ _ _ _ _ _
  simp only [g_1822, g_1825, g_1934, pm_1i_c, pm_2i_c, pm_1l_c, pm_2l_c, pm_1a_c, pm_ia_c, pm_iia_c, pm_va_c, pm_cp_c, pm_k0_c, pm_k1_c, pm_k2_c, pm_k3_c, pm_s1_c, pm_s2_c, pm_s3_c, pm_s4_c, pm_ri_c, pm_ra_c, pm_rn_c, pm_rk_i, pm_rk_z, pm_rk_a, pm_vk_i, pm_vk_z, pm_vk_a, pm_cti, pm_ctr, pm_ldi_z, pm_ldi_s, pm_lda_z, pm_lda_s, pm_cat_n, pm_cat_i, pm_cat_r, pm_cat_l, pm_obj, pm_arr, pm_opt, List.getElem?_cons_zero, List.getElem?_cons_succ, List.set_cons_zero, List.set_cons_succ, List.length_cons, List.length_nil, List.length_set, true_and, and_true, Nat.add_zero, Nat.zero_add, Nat.le_refl, Nat.reduceAdd, Nat.reduceLT, Nat.reduceLeDiff, Nat.zero_le, not_false_eq_true, not_true_eq_false, false_implies, implies_true, true_implies, Nat.zero_lt_succ, Nat.lt_add_one, pm_tl_v, List.cons_append, List.nil_append, pm_k5_c, pm_tl_n, pm_tl_s, i1, i2, i3, i4, i5, hus2]
  exact hT _ _ h2 ⟨_, R2⟩ (by omega) (by obtain ⟨f, hf⟩ := hf; exact ⟨f, (e2.trans e1).trans hf⟩)
theorem cs_octet (X : CX p l s m b0 meth c D ct b g adV L xs) (hxo : xo ≤ 900) {us : Nat} (hus : us + 6 ≤ 7293033) {th i : Int32} {u5 u6 : Option Value} {h : pmH} (R : RZ th h) (hl : h.length = 125) (hf : LG h) (i1 : vp_in (i + 1) L) (i2 : vp_in (i + 2) L) (i3 : vp_in (i + 3) L) (i4 : vp_in (i + 4) L) (i5 : vp_in (i + 5) L)  (hT : ∀ (u5 u6 : Option Value) (h2 : pmH), (∃ th, RZ th h2) → h2.length = 125 → LG h2 → SE p l e s m b0 below meth c Qf D ct b g xo 1934 [some (.ref 1000001), some (.ref 0), some (.ref 113), some (.ref 124), some (.int i), u5, u6] [] h2 us) : SE p l e s m b0 below meth c Qf D ct b g xo 1827 [some (.ref 1000001), some (.ref 0), some (.ref 113), some (.ref 124), some (.int i), u5, u6] [] h us := by
  obtain ⟨bs, ws, A, K, o, S, -⟩ := R
  have c0 := S.C.o
  have r0 := lw_ird hl L xs
  have hus2 : us ≤ 7293033 := by omega
  refine law_run X (by omega) lk_1 ?_
  show KL1 _ _ _ _ _ _ _ _ _
  simp only [g_1827, g_1828, g_1829, g_1831, g_1832, g_1833, g_1834, pm_1i_c, pm_2i_c, pm_1l_c, pm_2l_c, pm_1a_c, pm_ia_c, pm_iia_c, pm_va_c, pm_cp_c, pm_k0_c, pm_k1_c, pm_k2_c, pm_k3_c, pm_s1_c, pm_s2_c, pm_s3_c, pm_s4_c, pm_ri_c, pm_ra_c, pm_rn_c, pm_rk_i, pm_rk_z, pm_rk_a, pm_vk_i, pm_vk_z, pm_vk_a, pm_cti, pm_ctr, pm_ldi_z, pm_ldi_s, pm_lda_z, pm_lda_s, pm_cat_n, pm_cat_i, pm_cat_r, pm_cat_l, pm_obj, pm_arr, pm_opt, List.getElem?_cons_zero, List.getElem?_cons_succ, List.set_cons_zero, List.set_cons_succ, List.length_cons, List.length_nil, List.length_set, true_and, and_true, Nat.add_zero, Nat.zero_add, Nat.le_refl, Nat.reduceAdd, Nat.reduceLT, Nat.reduceLeDiff, Nat.zero_le, not_false_eq_true, not_true_eq_false, false_implies, implies_true, true_implies, Nat.zero_lt_succ, Nat.lt_add_one, pm_tl_v, List.cons_append, List.nil_append, pm_k5_c, pm_tl_n, pm_tl_s, i1, i2, i3, i4, i5, hus2, c0, r0, hl]
  refine PM_use (pr_octet S hl (xs ((i + 1).toNatClampNeg))) ?_
  rintro v h1 l1 ⟨y, rfl, e1, ⟨fs, hm⟩, P⟩
  have l1' : h1.length = 125 := by omega
  have r1 := lw_ird l1' L xs
  show KL1 _ _ _ _ _ _ _ _ _
  simp only [g_1837, g_1838, g_1839, g_1841, g_1842, g_1843, g_1844, pm_1i_c, pm_2i_c, pm_1l_c, pm_2l_c, pm_1a_c, pm_ia_c, pm_iia_c, pm_va_c, pm_cp_c, pm_k0_c, pm_k1_c, pm_k2_c, pm_k3_c, pm_s1_c, pm_s2_c, pm_s3_c, pm_s4_c, pm_ri_c, pm_ra_c, pm_rn_c, pm_rk_i, pm_rk_z, pm_rk_a, pm_vk_i, pm_vk_z, pm_vk_a, pm_cti, pm_ctr, pm_ldi_z, pm_ldi_s, pm_lda_z, pm_lda_s, pm_cat_n, pm_cat_i, pm_cat_r, pm_cat_l, pm_obj, pm_arr, pm_opt, List.getElem?_cons_zero, List.getElem?_cons_succ, List.set_cons_zero, List.set_cons_succ, List.length_cons, List.length_nil, List.length_set, true_and, and_true, Nat.add_zero, Nat.zero_add, Nat.le_refl, Nat.reduceAdd, Nat.reduceLT, Nat.reduceLeDiff, Nat.zero_le, not_false_eq_true, not_true_eq_false, false_implies, implies_true, true_implies, Nat.zero_lt_succ, Nat.lt_add_one, pm_tl_v, List.cons_append, List.nil_append, pm_k5_c, pm_tl_n, pm_tl_s, i1, i2, i3, i4, i5, hus2, hm, r1, l1']
  refine PM_use P ?_
  rintro w h2 l2 ⟨rfl, R2, e2⟩
  show KL1 _ _ _ _ _ _ _ _ _
  simp only [g_1847, g_1850, g_1934, pm_1i_c, pm_2i_c, pm_1l_c, pm_2l_c, pm_1a_c, pm_ia_c, pm_iia_c, pm_va_c, pm_cp_c, pm_k0_c, pm_k1_c, pm_k2_c, pm_k3_c, pm_s1_c, pm_s2_c, pm_s3_c, pm_s4_c, pm_ri_c, pm_ra_c, pm_rn_c, pm_rk_i, pm_rk_z, pm_rk_a, pm_vk_i, pm_vk_z, pm_vk_a, pm_cti, pm_ctr, pm_ldi_z, pm_ldi_s, pm_lda_z, pm_lda_s, pm_cat_n, pm_cat_i, pm_cat_r, pm_cat_l, pm_obj, pm_arr, pm_opt, List.getElem?_cons_zero, List.getElem?_cons_succ, List.set_cons_zero, List.set_cons_succ, List.length_cons, List.length_nil, List.length_set, true_and, and_true, Nat.add_zero, Nat.zero_add, Nat.le_refl, Nat.reduceAdd, Nat.reduceLT, Nat.reduceLeDiff, Nat.zero_le, not_false_eq_true, not_true_eq_false, false_implies, implies_true, true_implies, Nat.zero_lt_succ, Nat.lt_add_one, pm_tl_v, List.cons_append, List.nil_append, pm_k5_c, pm_tl_n, pm_tl_s, i1, i2, i3, i4, i5, hus2]
  exact hT _ _ h2 ⟨_, R2⟩ (by omega) (by obtain ⟨f, hf⟩ := hf; exact ⟨f, (e2.trans e1).trans hf⟩)
theorem cs_keep (X : CX p l s m b0 meth c D ct b g adV L xs) (hxo : xo ≤ 900) {us : Nat} (hus : us + 6 ≤ 7293033) {th i : Int32} {u5 u6 : Option Value} {h : pmH} (R : RZ th h) (hl : h.length = 125) (hf : LG h) (i1 : vp_in (i + 1) L) (i2 : vp_in (i + 2) L) (i3 : vp_in (i + 3) L) (i4 : vp_in (i + 4) L) (i5 : vp_in (i + 5) L)  (hT : ∀ (u5 u6 : Option Value) (h2 : pmH), (∃ th, RZ th h2) → h2.length = 125 → LG h2 → SE p l e s m b0 below meth c Qf D ct b g xo 1934 [some (.ref 1000001), some (.ref 0), some (.ref 113), some (.ref 124), some (.int i), u5, u6] [] h2 us) : SE p l e s m b0 below meth c Qf D ct b g xo 1852 [some (.ref 1000001), some (.ref 0), some (.ref 113), some (.ref 124), some (.int i), u5, u6] [] h us := by
  obtain ⟨bs, ws, A, K, o, S, -⟩ := R
  have c0 := S.C.o
  have r0 := lw_ird hl L xs
  have hus2 : us ≤ 7293033 := by omega
  refine law_run X (by omega) lk_1 ?_
  show KL1 _ _ _ _ _ _ _ _ _
  simp only [g_1852, g_1853, pm_1i_c, pm_2i_c, pm_1l_c, pm_2l_c, pm_1a_c, pm_ia_c, pm_iia_c, pm_va_c, pm_cp_c, pm_k0_c, pm_k1_c, pm_k2_c, pm_k3_c, pm_s1_c, pm_s2_c, pm_s3_c, pm_s4_c, pm_ri_c, pm_ra_c, pm_rn_c, pm_rk_i, pm_rk_z, pm_rk_a, pm_vk_i, pm_vk_z, pm_vk_a, pm_cti, pm_ctr, pm_ldi_z, pm_ldi_s, pm_lda_z, pm_lda_s, pm_cat_n, pm_cat_i, pm_cat_r, pm_cat_l, pm_obj, pm_arr, pm_opt, List.getElem?_cons_zero, List.getElem?_cons_succ, List.set_cons_zero, List.set_cons_succ, List.length_cons, List.length_nil, List.length_set, true_and, and_true, Nat.add_zero, Nat.zero_add, Nat.le_refl, Nat.reduceAdd, Nat.reduceLT, Nat.reduceLeDiff, Nat.zero_le, not_false_eq_true, not_true_eq_false, false_implies, implies_true, true_implies, Nat.zero_lt_succ, Nat.lt_add_one, pm_tl_v, List.cons_append, List.nil_append, pm_k5_c, pm_tl_n, pm_tl_s, i1, i2, i3, i4, i5, hus2, c0, r0, hl]
  refine PM_use (pr_keep S hl) ?_
  rintro v h1 l1 ⟨y, rfl, e1, ⟨fs, hm⟩, P⟩
  have l1' : h1.length = 125 := by omega
  have r1 := lw_ird l1' L xs
  show KL1 _ _ _ _ _ _ _ _ _
  simp only [g_1856, g_1857, pm_1i_c, pm_2i_c, pm_1l_c, pm_2l_c, pm_1a_c, pm_ia_c, pm_iia_c, pm_va_c, pm_cp_c, pm_k0_c, pm_k1_c, pm_k2_c, pm_k3_c, pm_s1_c, pm_s2_c, pm_s3_c, pm_s4_c, pm_ri_c, pm_ra_c, pm_rn_c, pm_rk_i, pm_rk_z, pm_rk_a, pm_vk_i, pm_vk_z, pm_vk_a, pm_cti, pm_ctr, pm_ldi_z, pm_ldi_s, pm_lda_z, pm_lda_s, pm_cat_n, pm_cat_i, pm_cat_r, pm_cat_l, pm_obj, pm_arr, pm_opt, List.getElem?_cons_zero, List.getElem?_cons_succ, List.set_cons_zero, List.set_cons_succ, List.length_cons, List.length_nil, List.length_set, true_and, and_true, Nat.add_zero, Nat.zero_add, Nat.le_refl, Nat.reduceAdd, Nat.reduceLT, Nat.reduceLeDiff, Nat.zero_le, not_false_eq_true, not_true_eq_false, false_implies, implies_true, true_implies, Nat.zero_lt_succ, Nat.lt_add_one, pm_tl_v, List.cons_append, List.nil_append, pm_k5_c, pm_tl_n, pm_tl_s, i1, i2, i3, i4, i5, hus2, hm, r1, l1']
  refine PM_use P ?_
  rintro w h2 l2 ⟨rfl, R2, e2⟩
  show KL1 _ _ _ _ _ _ _ _ _
  simp only [g_1860, g_1863, g_1934, pm_1i_c, pm_2i_c, pm_1l_c, pm_2l_c, pm_1a_c, pm_ia_c, pm_iia_c, pm_va_c, pm_cp_c, pm_k0_c, pm_k1_c, pm_k2_c, pm_k3_c, pm_s1_c, pm_s2_c, pm_s3_c, pm_s4_c, pm_ri_c, pm_ra_c, pm_rn_c, pm_rk_i, pm_rk_z, pm_rk_a, pm_vk_i, pm_vk_z, pm_vk_a, pm_cti, pm_ctr, pm_ldi_z, pm_ldi_s, pm_lda_z, pm_lda_s, pm_cat_n, pm_cat_i, pm_cat_r, pm_cat_l, pm_obj, pm_arr, pm_opt, List.getElem?_cons_zero, List.getElem?_cons_succ, List.set_cons_zero, List.set_cons_succ, List.length_cons, List.length_nil, List.length_set, true_and, and_true, Nat.add_zero, Nat.zero_add, Nat.le_refl, Nat.reduceAdd, Nat.reduceLT, Nat.reduceLeDiff, Nat.zero_le, not_false_eq_true, not_true_eq_false, false_implies, implies_true, true_implies, Nat.zero_lt_succ, Nat.lt_add_one, pm_tl_v, List.cons_append, List.nil_append, pm_k5_c, pm_tl_n, pm_tl_s, i1, i2, i3, i4, i5, hus2]
  exact hT _ _ h2 ⟨_, R2⟩ (by omega) (by obtain ⟨f, hf⟩ := hf; exact ⟨f, (e2.trans e1).trans hf⟩)
theorem ct_back (X : CX p l s m b0 meth c D ct b g adV L xs) (hxo : xo ≤ 900) {us : Nat} (hus : us + 6 ≤ 7293033) {th i : Int32} {u5 u6 : Option Value} {h : pmH} (R : RZ th h) (hl : h.length = 125) (hf : LG h) (i1 : vp_in (i + 1) L) (i2 : vp_in (i + 2) L) (i3 : vp_in (i + 3) L) (i4 : vp_in (i + 4) L) (i5 : vp_in (i + 5) L)  (hT : ∀ (u5 u6 : Option Value) (h2 : pmH), (∃ th, RZ th h2) → h2.length = 125 → LG h2 → SE p l e s m b0 below meth c Qf D ct b g (xo + 1) 1934 [some (.ref 1000001), some (.ref 0), some (.ref 113), some (.ref 124), some (.int i), u5, u6] [] h2 (us + 6)) : SE p l e s m b0 below meth c Qf D ct b g xo 1865 [some (.ref 1000001), some (.ref 0), some (.ref 113), some (.ref 124), some (.int i), u5, u6] [] h us := by
  obtain ⟨bs, ws, A, K, o, S, -⟩ := R
  have c0 := S.C.o
  have r0 := lw_ird hl L xs
  obtain ⟨f, hf⟩ := hf
  have hus2 : us ≤ 7293033 := by omega
  obtain ⟨Q, hW, hQ⟩ := tr_back S hl 
  refine law_run X (by omega) lk_1 ?_
  show KL1 _ _ _ _ _ _ _ _ _
  simp only [g_1865, g_1866, g_1867, pm_1i_c, pm_2i_c, pm_1l_c, pm_2l_c, pm_1a_c, pm_ia_c, pm_iia_c, pm_va_c, pm_cp_c, pm_k0_c, pm_k1_c, pm_k2_c, pm_k3_c, pm_s1_c, pm_s2_c, pm_s3_c, pm_s4_c, pm_ri_c, pm_ra_c, pm_rn_c, pm_rk_i, pm_rk_z, pm_rk_a, pm_vk_i, pm_vk_z, pm_vk_a, pm_cti, pm_ctr, pm_ldi_z, pm_ldi_s, pm_lda_z, pm_lda_s, pm_cat_n, pm_cat_i, pm_cat_r, pm_cat_l, pm_obj, pm_arr, pm_opt, List.getElem?_cons_zero, List.getElem?_cons_succ, List.set_cons_zero, List.set_cons_succ, List.length_cons, List.length_nil, List.length_set, true_and, and_true, Nat.add_zero, Nat.zero_add, Nat.le_refl, Nat.reduceAdd, Nat.reduceLT, Nat.reduceLeDiff, Nat.zero_le, not_false_eq_true, not_true_eq_false, false_implies, implies_true, true_implies, Nat.zero_lt_succ, Nat.lt_add_one, pm_tl_v, List.cons_append, List.nil_append, pm_k5_c, pm_tl_n, pm_tl_s, i1, i2, i3, i4, i5, hus2, c0, r0, hl]
  refine law_call X (idx := 225) (n := 2) (y := yL_back) (cc := cL_back) (maxL := 3) (hh := [(0, 8, 11, 84)]) (as := [.ref 0, .ref 124]) (by omega) hus hl (hp_back (d := 458) (f := f) X.2.2.2.2.2.2.2.2.1 X.2.2.2.2.2.2.1 c0 (fun v h1 z => (hQ v h1 z).1.trans hf) (fun v h1 z => by
    rcases (hQ v h1 z).2.2 with ⟨y, hy, -⟩ | ⟨e, he, -⟩
    · exact Or.inl ⟨y, hy⟩
    · exact Or.inr ⟨e, he⟩) (fun e h1 z => by
    rcases (hQ _ h1 z).2.2 with ⟨y, hy, -⟩ | ⟨e9, he, hE, -⟩
    · cases hy
    · cases he
      exact hE) hW) (pm_w_in (j := 6042) (by decide +kernel)) (pm_w_in (j := 6040) (by decide +kernel)) (pm_w_in (j := 6041) (by decide +kernel)) (pm_w_in (j := 1000) (by decide +kernel)) (by decide +kernel) (by decide) rfl (by decide +kernel) ?_
  have hus2 : us + 6 ≤ 7293033 := hus
  intro v h1 l1 hp
  rcases hp with ⟨y, h9, hq, rfl, rfl⟩ | ⟨ev, he, hq, rfl⟩
  · rcases hQ _ _ hq with ⟨e1, ⟨fs, hm⟩, ⟨y', hy, P⟩ | ⟨e', hy, -⟩⟩
    · cases hy
      have l9 : h9.length = 125 := by rw [List.length_set] at l1; exact l1
      suffices key : ∀ h1 : pmH, h1 = h9.set 124 (.inl (3, 1, .inr (.inl (vp_updL f 0 y.toInt64)))) → SE p l e s m b0 below meth c Qf D ct b g (xo + 1) 1870 [some (.ref 1000001), some (.ref 0), some (.ref 113), some (.ref 124), some (.int i), u5, u6] [.int 0] h1 (us + 6) from key _ rfl
      clear l1
      intro h1 hh1
      have f1 : ∀ i, i ≠ 124 → h1[i]? = h9[i]? := fun i hi => by rw [hh1]; exact List.getElem?_set_ne (fun z => hi z.symm)
      have f2 : h1[124]? = some (.inl (3, 1, .inr (.inl (vp_updL f 0 y.toInt64)))) := by rw [hh1]; exact List.getElem?_set_self (by omega)
      have l1 : h1.length = 125 := by rw [hh1, List.length_set]; exact l9
      clear hh1
      have r1 := lw_ird l1 L xs
      have hm1 := (f1 113 (by omega)).trans hm
      refine law_run X (by omega) lk_1 ?_
      show KL1 _ _ _ _ _ _ _ _ _
      simp only [g_1870, g_1872, g_1873, pm_1i_c, pm_2i_c, pm_1l_c, pm_2l_c, pm_1a_c, pm_ia_c, pm_iia_c, pm_va_c, pm_cp_c, pm_k0_c, pm_k1_c, pm_k2_c, pm_k3_c, pm_s1_c, pm_s2_c, pm_s3_c, pm_s4_c, pm_ri_c, pm_ra_c, pm_rn_c, pm_rk_i, pm_rk_z, pm_rk_a, pm_vk_i, pm_vk_z, pm_vk_a, pm_cti, pm_ctr, pm_ldi_z, pm_ldi_s, pm_lda_z, pm_lda_s, pm_cat_n, pm_cat_i, pm_cat_r, pm_cat_l, pm_obj, pm_arr, pm_opt, List.getElem?_cons_zero, List.getElem?_cons_succ, List.set_cons_zero, List.set_cons_succ, List.length_cons, List.length_nil, List.length_set, true_and, and_true, Nat.add_zero, Nat.zero_add, Nat.le_refl, Nat.reduceAdd, Nat.reduceLT, Nat.reduceLeDiff, Nat.zero_le, not_false_eq_true, not_true_eq_false, false_implies, implies_true, true_implies, Nat.zero_lt_succ, Nat.lt_add_one, pm_tl_v, List.cons_append, List.nil_append, pm_k5_c, pm_tl_n, pm_tl_s, i1, i2, i3, i4, i5, hus2, hm1, r1, l1]
      refine PM_use (P h1 f1) ?_
      rintro w h3 l3 ⟨rfl, R3, e3⟩
      have l3' : h3.length = 125 := by omega
      obtain ⟨o3, m3, t3⟩ := R3.len
      have m3' := m3
      unfold mO at m3'
      have f3 := e3.trans f2
      show KL1 _ _ _ _ _ _ _ _ _
      simp only [g_1876, g_1878, g_1879, pm_1i_c, pm_2i_c, pm_1l_c, pm_2l_c, pm_1a_c, pm_ia_c, pm_iia_c, pm_va_c, pm_cp_c, pm_k0_c, pm_k1_c, pm_k2_c, pm_k3_c, pm_s1_c, pm_s2_c, pm_s3_c, pm_s4_c, pm_ri_c, pm_ra_c, pm_rn_c, pm_rk_i, pm_rk_z, pm_rk_a, pm_vk_i, pm_vk_z, pm_vk_a, pm_cti, pm_ctr, pm_ldi_z, pm_ldi_s, pm_lda_z, pm_lda_s, pm_cat_n, pm_cat_i, pm_cat_r, pm_cat_l, pm_obj, pm_arr, pm_opt, List.getElem?_cons_zero, List.getElem?_cons_succ, List.set_cons_zero, List.set_cons_succ, List.length_cons, List.length_nil, List.length_set, true_and, and_true, Nat.add_zero, Nat.zero_add, Nat.le_refl, Nat.reduceAdd, Nat.reduceLT, Nat.reduceLeDiff, Nat.zero_le, not_false_eq_true, not_true_eq_false, false_implies, implies_true, true_implies, Nat.zero_lt_succ, Nat.lt_add_one, pm_tl_v, List.cons_append, List.nil_append, pm_k5_c, pm_tl_n, pm_tl_s, i1, i2, i3, i4, i5, hus2, m3', l3']
      refine PM_use (c_M_thrown m3 459) ?_
      rintro w9 h4 l4 ⟨rfl, rfl⟩
      show KL1 _ _ _ _ _ _ _ _ _
      simp only [g_1882, g_1884, g_1887, g_1889, g_1891, g_1894, g_1895, g_1896, g_1897, g_1899, g_1900, g_1901, g_1904, g_1906, g_1934, pm_1i_c, pm_2i_c, pm_1l_c, pm_2l_c, pm_1a_c, pm_ia_c, pm_iia_c, pm_va_c, pm_cp_c, pm_k0_c, pm_k1_c, pm_k2_c, pm_k3_c, pm_s1_c, pm_s2_c, pm_s3_c, pm_s4_c, pm_ri_c, pm_ra_c, pm_rn_c, pm_rk_i, pm_rk_z, pm_rk_a, pm_vk_i, pm_vk_z, pm_vk_a, pm_cti, pm_ctr, pm_ldi_z, pm_ldi_s, pm_lda_z, pm_lda_s, pm_cat_n, pm_cat_i, pm_cat_r, pm_cat_l, pm_obj, pm_arr, pm_opt, List.getElem?_cons_zero, List.getElem?_cons_succ, List.set_cons_zero, List.set_cons_succ, List.length_cons, List.length_nil, List.length_set, true_and, and_true, Nat.add_zero, Nat.zero_add, Nat.le_refl, Nat.reduceAdd, Nat.reduceLT, Nat.reduceLeDiff, Nat.zero_le, not_false_eq_true, not_true_eq_false, false_implies, implies_true, true_implies, Nat.zero_lt_succ, Nat.lt_add_one, pm_tl_v, List.cons_append, List.nil_append, pm_k5_c, pm_tl_n, pm_tl_s, i1, i2, i3, i4, i5, hus2, t3, f3, pm_arl, px_z0, px_in01, vp_updL_0, lg_cmp_s, eq_self]
      exact hT _ _ _ ⟨_, R3⟩ l3' ⟨_, f3⟩
    · cases hy
  · rcases hQ _ _ hq with ⟨e1, ⟨fs, hm⟩, ⟨y', hy, -⟩ | ⟨e', hy, hE, P⟩⟩
    · cases hy
    · cases hy
      have r1 := lw_ird l1 L xs
      have hk : ¬ (1 : Int32) = 0 := by decide
      refine law_run X (by omega) lk_1 ?_
      show KL1 _ _ _ _ _ _ _ _ _
      simp only [g_1870, g_1872, g_1873, pm_1i_c, pm_2i_c, pm_1l_c, pm_2l_c, pm_1a_c, pm_ia_c, pm_iia_c, pm_va_c, pm_cp_c, pm_k0_c, pm_k1_c, pm_k2_c, pm_k3_c, pm_s1_c, pm_s2_c, pm_s3_c, pm_s4_c, pm_ri_c, pm_ra_c, pm_rn_c, pm_rk_i, pm_rk_z, pm_rk_a, pm_vk_i, pm_vk_z, pm_vk_a, pm_cti, pm_ctr, pm_ldi_z, pm_ldi_s, pm_lda_z, pm_lda_s, pm_cat_n, pm_cat_i, pm_cat_r, pm_cat_l, pm_obj, pm_arr, pm_opt, List.getElem?_cons_zero, List.getElem?_cons_succ, List.set_cons_zero, List.set_cons_succ, List.length_cons, List.length_nil, List.length_set, true_and, and_true, Nat.add_zero, Nat.zero_add, Nat.le_refl, Nat.reduceAdd, Nat.reduceLT, Nat.reduceLeDiff, Nat.zero_le, not_false_eq_true, not_true_eq_false, false_implies, implies_true, true_implies, Nat.zero_lt_succ, Nat.lt_add_one, pm_tl_v, List.cons_append, List.nil_append, pm_k5_c, pm_tl_n, pm_tl_s, i1, i2, i3, i4, i5, hus2, hm, r1, l1]
      refine PM_use P ?_
      rintro w h3 l3 ⟨⟨zz, rfl⟩, R3, e3⟩
      have l3' : h3.length = 125 := by omega
      obtain ⟨o3, m3, t3⟩ := R3.len
      have m3' := m3
      unfold mO at m3'
      have f3 := (e3.trans e1).trans hf
      show KL1 _ _ _ _ _ _ _ _ _
      simp only [g_1876, g_1878, g_1879, pm_1i_c, pm_2i_c, pm_1l_c, pm_2l_c, pm_1a_c, pm_ia_c, pm_iia_c, pm_va_c, pm_cp_c, pm_k0_c, pm_k1_c, pm_k2_c, pm_k3_c, pm_s1_c, pm_s2_c, pm_s3_c, pm_s4_c, pm_ri_c, pm_ra_c, pm_rn_c, pm_rk_i, pm_rk_z, pm_rk_a, pm_vk_i, pm_vk_z, pm_vk_a, pm_cti, pm_ctr, pm_ldi_z, pm_ldi_s, pm_lda_z, pm_lda_s, pm_cat_n, pm_cat_i, pm_cat_r, pm_cat_l, pm_obj, pm_arr, pm_opt, List.getElem?_cons_zero, List.getElem?_cons_succ, List.set_cons_zero, List.set_cons_succ, List.length_cons, List.length_nil, List.length_set, true_and, and_true, Nat.add_zero, Nat.zero_add, Nat.le_refl, Nat.reduceAdd, Nat.reduceLT, Nat.reduceLeDiff, Nat.zero_le, not_false_eq_true, not_true_eq_false, false_implies, implies_true, true_implies, Nat.zero_lt_succ, Nat.lt_add_one, pm_tl_v, List.cons_append, List.nil_append, pm_k5_c, pm_tl_n, pm_tl_s, i1, i2, i3, i4, i5, hus2, m3', l3']
      refine PM_use (c_M_thrown m3 459) ?_
      rintro w9 h4 l4 ⟨rfl, rfl⟩
      show KL1 _ _ _ _ _ _ _ _ _
      simp only [g_1882, g_1884, g_1887, g_1889, g_1891, g_1894, g_1895, g_1896, g_1897, g_1899, g_1900, g_1901, g_1904, g_1906, g_1934, pm_1i_c, pm_2i_c, pm_1l_c, pm_2l_c, pm_1a_c, pm_ia_c, pm_iia_c, pm_va_c, pm_cp_c, pm_k0_c, pm_k1_c, pm_k2_c, pm_k3_c, pm_s1_c, pm_s2_c, pm_s3_c, pm_s4_c, pm_ri_c, pm_ra_c, pm_rn_c, pm_rk_i, pm_rk_z, pm_rk_a, pm_vk_i, pm_vk_z, pm_vk_a, pm_cti, pm_ctr, pm_ldi_z, pm_ldi_s, pm_lda_z, pm_lda_s, pm_cat_n, pm_cat_i, pm_cat_r, pm_cat_l, pm_obj, pm_arr, pm_opt, List.getElem?_cons_zero, List.getElem?_cons_succ, List.set_cons_zero, List.set_cons_succ, List.length_cons, List.length_nil, List.length_set, true_and, and_true, Nat.add_zero, Nat.zero_add, Nat.le_refl, Nat.reduceAdd, Nat.reduceLT, Nat.reduceLeDiff, Nat.zero_le, not_false_eq_true, not_true_eq_false, false_implies, implies_true, true_implies, Nat.zero_lt_succ, Nat.lt_add_one, pm_tl_v, List.cons_append, List.nil_append, pm_k5_c, pm_tl_n, pm_tl_s, i1, i2, i3, i4, i5, hus2, t3, hk]
      exact hT _ _ _ ⟨_, R3⟩ l3' ⟨_, f3⟩
theorem cs_count (X : CX p l s m b0 meth c D ct b g adV L xs) (hxo : xo ≤ 900) {us : Nat} (hus : us + 6 ≤ 7293033) {th i : Int32} {u5 u6 : Option Value} {h : pmH} (R : RZ th h) (hl : h.length = 125) (hf : LG h) (i1 : vp_in (i + 1) L) (i2 : vp_in (i + 2) L) (i3 : vp_in (i + 3) L) (i4 : vp_in (i + 4) L) (i5 : vp_in (i + 5) L)  (hT : ∀ (u5 u6 : Option Value) (h2 : pmH), (∃ th, RZ th h2) → h2.length = 125 → LG h2 → SE p l e s m b0 below meth c Qf D ct b g xo 1934 [some (.ref 1000001), some (.ref 0), some (.ref 113), some (.ref 124), some (.int i), u5, u6] [] h2 us) : SE p l e s m b0 below meth c Qf D ct b g xo 1909 [some (.ref 1000001), some (.ref 0), some (.ref 113), some (.ref 124), some (.int i), u5, u6] [] h us := by
  obtain ⟨bs, ws, A, K, o, S, -⟩ := R
  have c0 := S.C.o
  have r0 := lw_ird hl L xs
  have hus2 : us ≤ 7293033 := by omega
  refine law_run X (by omega) lk_1 ?_
  show KL1 _ _ _ _ _ _ _ _ _
  simp only [g_1909, g_1910, g_1911, g_1913, g_1914, g_1915, g_1916, pm_1i_c, pm_2i_c, pm_1l_c, pm_2l_c, pm_1a_c, pm_ia_c, pm_iia_c, pm_va_c, pm_cp_c, pm_k0_c, pm_k1_c, pm_k2_c, pm_k3_c, pm_s1_c, pm_s2_c, pm_s3_c, pm_s4_c, pm_ri_c, pm_ra_c, pm_rn_c, pm_rk_i, pm_rk_z, pm_rk_a, pm_vk_i, pm_vk_z, pm_vk_a, pm_cti, pm_ctr, pm_ldi_z, pm_ldi_s, pm_lda_z, pm_lda_s, pm_cat_n, pm_cat_i, pm_cat_r, pm_cat_l, pm_obj, pm_arr, pm_opt, List.getElem?_cons_zero, List.getElem?_cons_succ, List.set_cons_zero, List.set_cons_succ, List.length_cons, List.length_nil, List.length_set, true_and, and_true, Nat.add_zero, Nat.zero_add, Nat.le_refl, Nat.reduceAdd, Nat.reduceLT, Nat.reduceLeDiff, Nat.zero_le, not_false_eq_true, not_true_eq_false, false_implies, implies_true, true_implies, Nat.zero_lt_succ, Nat.lt_add_one, pm_tl_v, List.cons_append, List.nil_append, pm_k5_c, pm_tl_n, pm_tl_s, i1, i2, i3, i4, i5, hus2, c0, r0, hl]
  refine PM_use (pr_count S hl (xs ((i + 1).toNatClampNeg))) ?_
  rintro v h1 l1 ⟨y, rfl, e1, ⟨fs, hm⟩, P⟩
  have l1' : h1.length = 125 := by omega
  have r1 := lw_ird l1' L xs
  show KL1 _ _ _ _ _ _ _ _ _
  simp only [g_1919, g_1920, g_1921, g_1923, g_1924, g_1925, g_1926, pm_1i_c, pm_2i_c, pm_1l_c, pm_2l_c, pm_1a_c, pm_ia_c, pm_iia_c, pm_va_c, pm_cp_c, pm_k0_c, pm_k1_c, pm_k2_c, pm_k3_c, pm_s1_c, pm_s2_c, pm_s3_c, pm_s4_c, pm_ri_c, pm_ra_c, pm_rn_c, pm_rk_i, pm_rk_z, pm_rk_a, pm_vk_i, pm_vk_z, pm_vk_a, pm_cti, pm_ctr, pm_ldi_z, pm_ldi_s, pm_lda_z, pm_lda_s, pm_cat_n, pm_cat_i, pm_cat_r, pm_cat_l, pm_obj, pm_arr, pm_opt, List.getElem?_cons_zero, List.getElem?_cons_succ, List.set_cons_zero, List.set_cons_succ, List.length_cons, List.length_nil, List.length_set, true_and, and_true, Nat.add_zero, Nat.zero_add, Nat.le_refl, Nat.reduceAdd, Nat.reduceLT, Nat.reduceLeDiff, Nat.zero_le, not_false_eq_true, not_true_eq_false, false_implies, implies_true, true_implies, Nat.zero_lt_succ, Nat.lt_add_one, pm_tl_v, List.cons_append, List.nil_append, pm_k5_c, pm_tl_n, pm_tl_s, i1, i2, i3, i4, i5, hus2, hm, r1, l1']
  refine PM_use P ?_
  rintro w h2 l2 ⟨rfl, R2, e2⟩
  show KL1 _ _ _ _ _ _ _ _ _
  simp only [g_1929, g_1932, g_1934, pm_1i_c, pm_2i_c, pm_1l_c, pm_2l_c, pm_1a_c, pm_ia_c, pm_iia_c, pm_va_c, pm_cp_c, pm_k0_c, pm_k1_c, pm_k2_c, pm_k3_c, pm_s1_c, pm_s2_c, pm_s3_c, pm_s4_c, pm_ri_c, pm_ra_c, pm_rn_c, pm_rk_i, pm_rk_z, pm_rk_a, pm_vk_i, pm_vk_z, pm_vk_a, pm_cti, pm_ctr, pm_ldi_z, pm_ldi_s, pm_lda_z, pm_lda_s, pm_cat_n, pm_cat_i, pm_cat_r, pm_cat_l, pm_obj, pm_arr, pm_opt, List.getElem?_cons_zero, List.getElem?_cons_succ, List.set_cons_zero, List.set_cons_succ, List.length_cons, List.length_nil, List.length_set, true_and, and_true, Nat.add_zero, Nat.zero_add, Nat.le_refl, Nat.reduceAdd, Nat.reduceLT, Nat.reduceLeDiff, Nat.zero_le, not_false_eq_true, not_true_eq_false, false_implies, implies_true, true_implies, Nat.zero_lt_succ, Nat.lt_add_one, pm_tl_v, List.cons_append, List.nil_append, pm_k5_c, pm_tl_n, pm_tl_s, i1, i2, i3, i4, i5, hus2]
  exact hT _ _ h2 ⟨_, R2⟩ (by omega) (by obtain ⟨f, hf⟩ := hf; exact ⟨f, (e2.trans e1).trans hf⟩)
end LCb
