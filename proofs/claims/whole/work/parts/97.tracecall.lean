/-! AdmissionDeskModel: trace. -/
section TR
variable {h h' : pmH} {m : Nat} {o : Nat → Int32} {bs ws : List Int32} {A K : AD}
/-- what the end of the text makes of a place -/
theorem tr_end (hl : bs.length ≤ 400) (H : byts bs) {s : PS} {p : Nat} {fa : Int32} (X : Xm bs s p fa) : fbF (cuF bs 5).2.1 (nI bs.length) (neF (cuF bs 5).1 (-1) s).2 = (if fa = -1 then (if skp bs p < bs.length then nI (skp bs p) else -1) else fa) := by
  have KL := cuF_kl1 (dm := 5) hl
  have SL := cuF_sl0 (dm := 5) hl
  by_cases c : fa = -1
  · have S : sm_ bs 5 s p fa := by
      rcases X with x | x
      · exact x
      · exact absurd c x.2.1
    rw [if_pos c]
    have sf := S.ff.mpr c
    have R := S.rt c
    by_cases e : skp bs p < bs.length
    · rw [if_pos e]
      have nt : taB (cuF bs 5).1 (-1) s = false := by
        refine decide_eq_false (fun z => ?_)
        have z2 := z.2
        obtain ⟨v, hv, ev⟩ := byts_at H e
        cases cd : isD (bs.getD (skp bs p) (-1)) with
        | true =>
          obtain ⟨a1, a2, -⟩ := RT_num R e cd
          rw [a2] at z2
          split at z2
          · exact absurd z2 (by decide)
          · exact absurd z2 (by decide)
        | false =>
          cases cl : isL (bs.getD (skp bs p) (-1)) with
          | true =>
            obtain ⟨a1, a2, -⟩ := RT_word R e cd cl
            obtain ⟨w, w1, w2, w3, -⟩ := woG_big bs (skp bs p) (beR isL bs (skp bs p)) 11 0 (by omega)
            have w3 : woF bs (skp bs p) (beR isL bs (skp bs p)) = nI w := w3
            rw [a2, w3] at z2
            exact nI_ne1 (by omega) z2
          | false =>
            obtain ⟨a1, a2, -⟩ := RT_sign R e cd cl
            rw [a2, ev] at z2
            exact nI_ne1 (by omega) z2
      have e1 : (neF (cuF bs 5).1 (-1) s).2 = nI s.1 := by
        unfold neF faF
        rw [nt, if_neg (by decide), if_pos sf]
      rw [e1]
      exact RT_fb R KL (by omega)
    · rw [if_neg e]
      have se : skp bs p = bs.length := by
        have := (skp_le S.1).2
        omega
      have kt : taB (cuF bs 5).1 (-1) s = true := decide_eq_true ⟨sf, (RT_end R se).2⟩
      have e1 : (neF (cuF bs 5).1 (-1) s).2 = -1 := by
        unfold neF
        rw [kt, if_pos rfl]
        exact sf
      rw [e1]
      unfold fbF
      split
      · unfold rw_get
        rfl
      · rename_i z
        exact absurd (nI_pos (n := (cuF bs 5).2.1.length) (by omega)) (fun _ => z (by
          have := nI_toInt (n := (cuF bs 5).2.1.length) (by omega)
          rw [Int32.lt_iff_toInt_lt, this]
          show (-1 : Int) < _
          omega))
  · rw [if_neg c]
    have S := X.nd c (k := -1) (by decide)
    rcases S.2 with ⟨-, y, -⟩ | ⟨-, -, y⟩
    · exact absurd y c
    · exact y.symm
/-- how many of the first asks were hits -/
theorem hitS_t : ∀ (ks : List Int32) (A : AD) (k : Nat), k < ks.length → hitS (ks.take (k + 1)) A = hitS (ks.take k) A + hitN (fsF A (ks.take k)) (ks.getD k (-1))
  | [], _, k, hk => absurd hk (Nat.not_lt_zero _)
  | x :: ks, A, 0, _ => by
    show hitN A x + 0 = 0 + hitN A x
    omega
  | x :: ks, A, k + 1, hk => by
    have i := hitS_t ks (srvF A x) k (by rw [List.length_cons] at hk; omega)
    show hitN A x + hitS (ks.take (k + 1)) (srvF A x) = hitN A x + hitS (ks.take k) (srvF A x) + hitN (fsF (srvF A x) (ks.take k)) (ks.getD k (-1))
    omega
theorem mI_fs : ∀ (ks : List Int32) {A : AD}, mI A → kyL ks → mI (fsF A ks)
  | [], _, I, _ => I
  | x :: ks, A, I, hk => mI_fs ks (srvF_ok I (hk x List.mem_cons_self)) (fun y hy => hk y (List.mem_cons_of_mem _ hy))
set_option maxHeartbeats 4000000 in
theorem c_P_trace (C : mm_ h m o A K bs ws) (I : mI A) (hb : byts bs) (V : NV (cuF bs 5).1 (cuF bs 5).2.2) (d : Nat) : PM (d + 22) 208 [.ref m] h (fun v h' => if trV bs = -1 then (v = some (.int (nI (hitS (trS bs).2 A))) ∧ mq_ h m (fsF A (trS bs).2) K [] ws (o 0) 0 (-1) h') ∧ kyL (trS bs).2 else v = some (.int 0) ∧ mq_ h m A K [] ws (o 0) 1 (trV bs) h') := by
  have hl : bs.length ≤ 400 := by
    obtain ⟨f, -, t, -⟩ := C.tp
    exact t
  have H0 := C.ob
  unfold mO at H0
  obtain ⟨h1, e1, l1, F1, C1, H1⟩ := C.th 0
  refine en_X12_trace rfl ?_
  simp only [w_X12_trace_0, w_X12_trace_1, w_X12_trace_2, w_X12_trace_5, w_X12_trace_6, pm_1i_c, pm_2i_c, pm_1l_c, pm_2l_c, pm_1a_c, pm_ia_c, pm_iia_c, pm_va_c, pm_cp_c, pm_k0_c, pm_k1_c, pm_k2_c, pm_k3_c, pm_s1_c, pm_s2_c, pm_s3_c, pm_s4_c, pm_ri_c, pm_ra_c, pm_rn_c, pm_rk_i, pm_rk_z, pm_rk_a, pm_vk_i, pm_vk_z, pm_vk_a, pm_cti, pm_ctr, pm_ldi_z, pm_ldi_s, pm_lda_z, pm_lda_s, pm_cat_n, pm_cat_i, pm_cat_r, pm_cat_l, pm_obj, pm_arr, pm_opt, pm_ird, pm_aln, List.getElem?_cons_zero, List.getElem?_cons_succ, List.set_cons_zero, List.set_cons_succ, List.length_cons, List.length_nil, List.length_set, true_and, and_true, Nat.add_zero, Nat.zero_add, Nat.le_refl, Nat.reduceAdd, Nat.reduceLT, Nat.reduceLeDiff, Nat.zero_le, not_false_eq_true, not_true_eq_false, false_implies, implies_true, true_implies, Nat.zero_lt_succ, Nat.lt_add_one, H0, e1, H1, l1]
  refine PM_use (c_Y_begins C1 hb (d + 20)) ?_
  rintro v h2 l2 ⟨rfl, b, o', q0, q1, q2, q7, q12, P2, T, F2⟩
  have H2 := P2.c0
  show W_X12_trace _ _ _ _ _ _ _ _ _
  simp only [w_X12_trace_9, w_X12_trace_10, pm_1i_c, pm_2i_c, pm_1l_c, pm_2l_c, pm_1a_c, pm_ia_c, pm_iia_c, pm_va_c, pm_cp_c, pm_k0_c, pm_k1_c, pm_k2_c, pm_k3_c, pm_s1_c, pm_s2_c, pm_s3_c, pm_s4_c, pm_ri_c, pm_ra_c, pm_rn_c, pm_rk_i, pm_rk_z, pm_rk_a, pm_vk_i, pm_vk_z, pm_vk_a, pm_cti, pm_ctr, pm_ldi_z, pm_ldi_s, pm_lda_z, pm_lda_s, pm_cat_n, pm_cat_i, pm_cat_r, pm_cat_l, pm_obj, pm_arr, pm_opt, pm_ird, pm_aln, List.getElem?_cons_zero, List.getElem?_cons_succ, List.set_cons_zero, List.set_cons_succ, List.length_cons, List.length_nil, List.length_set, true_and, and_true, Nat.add_zero, Nat.zero_add, Nat.le_refl, Nat.reduceAdd, Nat.reduceLT, Nat.reduceLeDiff, Nat.zero_le, not_false_eq_true, not_true_eq_false, false_implies, implies_true, true_implies, Nat.zero_lt_succ, Nat.lt_add_one, pm_tl_n, pm_tl_s, sc_uL, H2, l2, l1]
  obtain ⟨Z, hZ⟩ : ∃ Z, Z = trS bs := ⟨_, rfl⟩
  have J := c_Z_XE T V (d + 1) 6 (by omega) h2 ((0, -1), []) 0 b (-1) [] P2 ⟨Nat.zero_le _, Or.inl ⟨rfl, rfl, RT_0 hl⟩⟩ rfl rfl (Nat.zero_le _)
  rw [show d + 1 + 2 * 6 + 8 = d + 21 by omega, show XE (cuF bs 5).1 (cuF bs 5).2.2 6 ((0, -1), []) = Z from hZ.symm, show 6 - 6 = 0 from rfl] at J
  refine PM_use (J) ?_
  rintro v h3 l3 ⟨rfl, p, b3, fa, ks, P3, X3, k5, y3⟩
  have H3 := P3.c0
  have hV : trV bs = (if fa = -1 then (if skp bs p < bs.length then nI (skp bs p) else -1) else fa) := by
    unfold trV
    rw [← hZ]
    exact tr_end hl hb X3
  show W_X12_trace _ _ _ _ _ _ _ _ _
  simp only [w_X12_trace_13, w_X12_trace_14, pm_1i_c, pm_2i_c, pm_1l_c, pm_2l_c, pm_1a_c, pm_ia_c, pm_iia_c, pm_va_c, pm_cp_c, pm_k0_c, pm_k1_c, pm_k2_c, pm_k3_c, pm_s1_c, pm_s2_c, pm_s3_c, pm_s4_c, pm_ri_c, pm_ra_c, pm_rn_c, pm_rk_i, pm_rk_z, pm_rk_a, pm_vk_i, pm_vk_z, pm_vk_a, pm_cti, pm_ctr, pm_ldi_z, pm_ldi_s, pm_lda_z, pm_lda_s, pm_cat_n, pm_cat_i, pm_cat_r, pm_cat_l, pm_obj, pm_arr, pm_opt, pm_ird, pm_aln, List.getElem?_cons_zero, List.getElem?_cons_succ, List.set_cons_zero, List.set_cons_succ, List.length_cons, List.length_nil, List.length_set, true_and, and_true, Nat.add_zero, Nat.zero_add, Nat.le_refl, Nat.reduceAdd, Nat.reduceLT, Nat.reduceLeDiff, Nat.zero_le, not_false_eq_true, not_true_eq_false, false_implies, implies_true, true_implies, Nat.zero_lt_succ, Nat.lt_add_one, pm_tl_n, pm_tl_s, sc_uL, H3, l3, l2, l1]
  refine PM_use (c_Y_blanks P3 T X3.pl (d + 19)) ?_
  rintro v h4 l4 ⟨rfl, P4⟩
  have H4 := P4.c0
  have l4' : h4.length = h.length := l4.trans (l3.trans (l2.trans l1))
  have kp := skp_le (bs := bs) X3.pl
  -- behind the reading
  have tail : ∀ (X : Int32) (g : pmH), X = trV bs → (X = -1 → fa = -1) → pr_ h2 g m o' bs (skp bs p) (skp bs p) 0 0 X [] ks → g.length = h.length → W_X12_trace (d + 21) (h.length + 0) 0 (fun v h' => if trV bs = -1 then (v = some (.int (nI (hitS (trS bs).2 A))) ∧ mq_ h m (fsF A (trS bs).2) K [] ws (o 0) 0 (-1) h') ∧ kyL (trS bs).2 else v = some (.int 0) ∧ mq_ h m A K [] ws (o 0) 1 (trV bs) h') 43 [some (.ref m), none, none, none] [] g 0 := by
    intro X g hX hX2 P lg
    have H := P.c0
    obtain ⟨g1, E, lg1, Pg⟩ := P.u7 X
    rw [List.length_nil] at E
    have Hg := Pg.c0
    have lg1' : g1.length = h.length := lg1.trans lg
    rw [show (upd o' 7 X) 7 = X from rfl, show (upd o' 7 X) 0 = o' 0 from rfl, show (upd o' 7 X) 1 = o' 1 from rfl, show (upd o' 7 X) 2 = o' 2 from rfl, show (upd o' 7 X) 12 = o' 12 from rfl] at Hg
    obtain ⟨Cg, Fg⟩ := Pg.mm C1 F2 q0 q2 q12
    have Fh := F1.tr Fg
    simp only [w_X12_trace_43, w_X12_trace_44, w_X12_trace_45, w_X12_trace_48, w_X12_trace_51, w_X12_trace_52, w_X12_trace_53, pm_1i_c, pm_2i_c, pm_1l_c, pm_2l_c, pm_1a_c, pm_ia_c, pm_iia_c, pm_va_c, pm_cp_c, pm_k0_c, pm_k1_c, pm_k2_c, pm_k3_c, pm_s1_c, pm_s2_c, pm_s3_c, pm_s4_c, pm_ri_c, pm_ra_c, pm_rn_c, pm_rk_i, pm_rk_z, pm_rk_a, pm_vk_i, pm_vk_z, pm_vk_a, pm_cti, pm_ctr, pm_ldi_z, pm_ldi_s, pm_lda_z, pm_lda_s, pm_cat_n, pm_cat_i, pm_cat_r, pm_cat_l, pm_obj, pm_arr, pm_opt, pm_ird, pm_aln, List.getElem?_cons_zero, List.getElem?_cons_succ, List.set_cons_zero, List.set_cons_succ, List.length_cons, List.length_nil, List.length_set, true_and, and_true, Nat.add_zero, Nat.zero_add, Nat.le_refl, Nat.reduceAdd, Nat.reduceLT, Nat.reduceLeDiff, Nat.zero_le, not_false_eq_true, not_true_eq_false, false_implies, implies_true, true_implies, Nat.zero_lt_succ, Nat.lt_add_one, H, lg, E, Hg, lg1']
    refine PM_use (c_Y_hasFailed Pg (d + 20)) ?_
    rintro v g2 l2 ⟨rfl, rfl⟩
    show W_X12_trace _ _ _ _ _ _ _ _ _
    simp only [w_X12_trace_56, w_X12_trace_57, pm_1i_c, pm_2i_c, pm_1l_c, pm_2l_c, pm_1a_c, pm_ia_c, pm_iia_c, pm_va_c, pm_cp_c, pm_k0_c, pm_k1_c, pm_k2_c, pm_k3_c, pm_s1_c, pm_s2_c, pm_s3_c, pm_s4_c, pm_ri_c, pm_ra_c, pm_rn_c, pm_rk_i, pm_rk_z, pm_rk_a, pm_vk_i, pm_vk_z, pm_vk_a, pm_cti, pm_ctr, pm_ldi_z, pm_ldi_s, pm_lda_z, pm_lda_s, pm_cat_n, pm_cat_i, pm_cat_r, pm_cat_l, pm_obj, pm_arr, pm_opt, pm_ird, pm_aln, List.getElem?_cons_zero, List.getElem?_cons_succ, List.set_cons_zero, List.set_cons_succ, List.length_cons, List.length_nil, List.length_set, true_and, and_true, Nat.add_zero, Nat.zero_add, Nat.le_refl, Nat.reduceAdd, Nat.reduceLT, Nat.reduceLeDiff, Nat.zero_le, not_false_eq_true, not_true_eq_false, false_implies, implies_true, true_implies, Nat.zero_lt_succ, Nat.lt_add_one, pm_tl_n, pm_tl_s, sc_uL, Hg, lg1']
    rw [← hX]
    by_cases c : X = -1
    · simp only [if_pos c]
      refine PM_use (c_P_throwsIf0 Cg 1 (d + 20)) ?_
      rintro v g3 l3 ⟨rfl, rfl⟩
      obtain ⟨tf, t1, t2⟩ := Pg.2.2.1
      have hf := hX2 c
      obtain ⟨-, y4, y5⟩ := y3 hf
      have kyz : kyL Z.2 := y5 (fun x hx => by cases hx)
      have ek : ks = Z.2 := y4
      have kyk : kyL ks := by
        rw [ek]
        exact kyz
      have loop : ∀ z k, ks.length - k = z → k ≤ ks.length → ∀ (gg : pmH), md_ gg m (rdO (upd o' 7 X) (skp bs p) (skp bs p) bs.length X 0 0 0 ks.length) (fsF A (ks.take k)) → pil gg m → frm g3 gg m → gg.length = h.length → W_X12_trace (d + 21) (h.length + 0) 0 (fun v h' => (v = some (.int (nI (hitS (trS bs).2 A))) ∧ mq_ h m (fsF A (trS bs).2) K [] ws (o 0) 0 (-1) h') ∧ kyL (trS bs).2) 74 [some (.ref m), some (.int (nI ks.length)), some (.int (nI (hitS (ks.take k) A))), some (.int (nI k))] [] gg 0 := by
        intro z
        induction z with
        | zero =>
          intro k hz hk gg M Pl Fr lgg
          have : k = ks.length := by omega
          subst this
          rw [List.take_length] at M ⊢
          obtain ⟨C9, F9⟩ := Cg.ue M Pl Fr
          rw [w_X12_trace_74]
          simp only [w_X12_trace_75, w_X12_trace_76, w_X12_trace_106, w_X12_trace_107, pm_1i_c, pm_2i_c, pm_1l_c, pm_2l_c, pm_1a_c, pm_ia_c, pm_iia_c, pm_va_c, pm_cp_c, pm_k0_c, pm_k1_c, pm_k2_c, pm_k3_c, pm_s1_c, pm_s2_c, pm_s3_c, pm_s4_c, pm_ri_c, pm_ra_c, pm_rn_c, pm_rk_i, pm_rk_z, pm_rk_a, pm_vk_i, pm_vk_z, pm_vk_a, pm_cti, pm_ctr, pm_ldi_z, pm_ldi_s, pm_lda_z, pm_lda_s, pm_cat_n, pm_cat_i, pm_cat_r, pm_cat_l, pm_obj, pm_arr, pm_opt, pm_ird, pm_aln, List.getElem?_cons_zero, List.getElem?_cons_succ, List.set_cons_zero, List.set_cons_succ, List.length_cons, List.length_nil, List.length_set, true_and, and_true, Nat.add_zero, Nat.zero_add, Nat.le_refl, Nat.reduceAdd, Nat.reduceLT, Nat.reduceLeDiff, Nat.zero_le, not_false_eq_true, not_true_eq_false, false_implies, implies_true, true_implies, Nat.zero_lt_succ, Nat.lt_add_one, lgg, Int32.lt_irrefl, not_false_eq_true]
          rw [← hZ, ← ek]
          exact ⟨⟨rfl, ⟨⟨_, C9, q0, q1, c⟩, Fh.tr F9⟩⟩, kyk⟩
        | succ z ih =>
          intro k hz hk gg M Pl Fr lgg
          have Hm := M.1
          unfold mO at Hm
          have Ht := (Fr (m + 8) (by omega) (by omega)).trans t1
          have v1 : nI k < nI ks.length := nI_lt (by omega) (by omega)
          have v2 : vp_in (nI k) 501 := vp_in_nI (by omega) (by omega)
          have v3 : (nI k).toNatClampNeg = k := nI_clamp (by omega)
          have v4 := t2 k (by omega)
          have hkey : ∃ n, n < 100000 ∧ ks.getD k (-1) = nI n := by
            rw [List.getD_eq_getElem?_getD, List.getElem?_eq_getElem (by omega)]
            exact kyk _ (List.getElem_mem (by omega))
          have mk : mI (fsF A (ks.take k)) := mI_fs _ I (fun x hx => kyk x (List.mem_of_mem_take hx))
          have tk := take_foldA (f := srvF) (s := A) (cs := ks) (k := k) (by omega)
          have tk : fsF A (ks.take (k + 1)) = srvF (fsF A (ks.take k)) (ks.getD k (-1)) := tk
          have th := hitS_t ks A k (by omega)
          rw [w_X12_trace_74]
          simp only [w_X12_trace_75, w_X12_trace_76, w_X12_trace_79, w_X12_trace_80, w_X12_trace_81, w_X12_trace_82, w_X12_trace_85, w_X12_trace_86, w_X12_trace_87, pm_1i_c, pm_2i_c, pm_1l_c, pm_2l_c, pm_1a_c, pm_ia_c, pm_iia_c, pm_va_c, pm_cp_c, pm_k0_c, pm_k1_c, pm_k2_c, pm_k3_c, pm_s1_c, pm_s2_c, pm_s3_c, pm_s4_c, pm_ri_c, pm_ra_c, pm_rn_c, pm_rk_i, pm_rk_z, pm_rk_a, pm_vk_i, pm_vk_z, pm_vk_a, pm_cti, pm_ctr, pm_ldi_z, pm_ldi_s, pm_lda_z, pm_lda_s, pm_cat_n, pm_cat_i, pm_cat_r, pm_cat_l, pm_obj, pm_arr, pm_opt, pm_ird, pm_aln, List.getElem?_cons_zero, List.getElem?_cons_succ, List.set_cons_zero, List.set_cons_succ, List.length_cons, List.length_nil, List.length_set, true_and, and_true, Nat.add_zero, Nat.zero_add, Nat.le_refl, Nat.reduceAdd, Nat.reduceLT, Nat.reduceLeDiff, Nat.zero_le, not_false_eq_true, not_true_eq_false, false_implies, implies_true, true_implies, Nat.zero_lt_succ, Nat.lt_add_one, Hm, Ht, v1, v2, v3, v4, lgg]
          refine PM_use (c_M_asks M Pl mk hkey (d + 12)) ?_
          rintro v g4 l4 ⟨rfl, K1, K2, K3⟩
          rw [← tk] at K1
          have l4' : g4.length = h.length := l4.trans lgg
          by_cases cp : partN (fsF A (ks.take k)) (ks.getD k (-1)) = 0
          · have en : hitN (fsF A (ks.take k)) (ks.getD k (-1)) = 0 := if_pos cp
            have e0 : nI (partN (fsF A (ks.take k)) (ks.getD k (-1))) = 0 := by
              rw [cp]
              rfl
            have ez : nI (hitS (ks.take k) A) + 0 = nI (hitS (ks.take (k + 1)) A) := by
              rw [th, en]
              exact Int32.add_zero _
            show W_X12_trace _ _ _ _ _ _ _ _ _
            simp only [w_X12_trace_90, w_X12_trace_97, w_X12_trace_98, w_X12_trace_99, w_X12_trace_100, w_X12_trace_103, pm_1i_c, pm_2i_c, pm_1l_c, pm_2l_c, pm_1a_c, pm_ia_c, pm_iia_c, pm_va_c, pm_cp_c, pm_k0_c, pm_k1_c, pm_k2_c, pm_k3_c, pm_s1_c, pm_s2_c, pm_s3_c, pm_s4_c, pm_ri_c, pm_ra_c, pm_rn_c, pm_rk_i, pm_rk_z, pm_rk_a, pm_vk_i, pm_vk_z, pm_vk_a, pm_cti, pm_ctr, pm_ldi_z, pm_ldi_s, pm_lda_z, pm_lda_s, pm_cat_n, pm_cat_i, pm_cat_r, pm_cat_l, pm_obj, pm_arr, pm_opt, pm_ird, pm_aln, List.getElem?_cons_zero, List.getElem?_cons_succ, List.set_cons_zero, List.set_cons_succ, List.length_cons, List.length_nil, List.length_set, true_and, and_true, Nat.add_zero, Nat.zero_add, Nat.le_refl, Nat.reduceAdd, Nat.reduceLT, Nat.reduceLeDiff, Nat.zero_le, not_false_eq_true, not_true_eq_false, false_implies, implies_true, true_implies, Nat.zero_lt_succ, Nat.lt_add_one, pm_tl_n, pm_tl_s, sc_uL, l4', e0, ez, nI_1]
            exact ih (k + 1) (by omega) (by omega) g4 K1 K2 (fun i a b => (K3 i a b).trans (Fr i a b)) l4'
          · have en : hitN (fsF A (ks.take k)) (ks.getD k (-1)) = 1 := if_neg cp
            have pn : partN (fsF A (ks.take k)) (ks.getD k (-1)) ≤ 3 := by
              unfold partN
              split
              · omega
              · split
                · omega
                · split <;> omega
            have e0 : ¬ nI (partN (fsF A (ks.take k)) (ks.getD k (-1))) = 0 := fun y => cp ((nI_inj (b := 0) (by omega) (by omega)).mp y)
            have ez : nI (hitS (ks.take k) A + 1) = nI (hitS (ks.take (k + 1)) A) := by rw [th, en]
            show W_X12_trace _ _ _ _ _ _ _ _ _
            simp only [w_X12_trace_90, w_X12_trace_93, w_X12_trace_94, w_X12_trace_98, w_X12_trace_99, w_X12_trace_100, w_X12_trace_103, pm_1i_c, pm_2i_c, pm_1l_c, pm_2l_c, pm_1a_c, pm_ia_c, pm_iia_c, pm_va_c, pm_cp_c, pm_k0_c, pm_k1_c, pm_k2_c, pm_k3_c, pm_s1_c, pm_s2_c, pm_s3_c, pm_s4_c, pm_ri_c, pm_ra_c, pm_rn_c, pm_rk_i, pm_rk_z, pm_rk_a, pm_vk_i, pm_vk_z, pm_vk_a, pm_cti, pm_ctr, pm_ldi_z, pm_ldi_s, pm_lda_z, pm_lda_s, pm_cat_n, pm_cat_i, pm_cat_r, pm_cat_l, pm_obj, pm_arr, pm_opt, pm_ird, pm_aln, List.getElem?_cons_zero, List.getElem?_cons_succ, List.set_cons_zero, List.set_cons_succ, List.length_cons, List.length_nil, List.length_set, true_and, and_true, Nat.add_zero, Nat.zero_add, Nat.le_refl, Nat.reduceAdd, Nat.reduceLT, Nat.reduceLeDiff, Nat.zero_le, not_false_eq_true, not_true_eq_false, false_implies, implies_true, true_implies, Nat.zero_lt_succ, Nat.lt_add_one, pm_tl_n, pm_tl_s, sc_uL, l4', e0, nI_1, ez]
            exact ih (k + 1) (by omega) (by omega) g4 K1 K2 (fun i a b => (K3 i a b).trans (Fr i a b)) l4'
      show W_X12_trace _ _ _ _ _ _ _ _ _
      simp only [w_X12_trace_60, w_X12_trace_65, w_X12_trace_66, w_X12_trace_69, w_X12_trace_70, w_X12_trace_71, w_X12_trace_72, w_X12_trace_73, pm_1i_c, pm_2i_c, pm_1l_c, pm_2l_c, pm_1a_c, pm_ia_c, pm_iia_c, pm_va_c, pm_cp_c, pm_k0_c, pm_k1_c, pm_k2_c, pm_k3_c, pm_s1_c, pm_s2_c, pm_s3_c, pm_s4_c, pm_ri_c, pm_ra_c, pm_rn_c, pm_rk_i, pm_rk_z, pm_rk_a, pm_vk_i, pm_vk_z, pm_vk_a, pm_cti, pm_ctr, pm_ldi_z, pm_ldi_s, pm_lda_z, pm_lda_s, pm_cat_n, pm_cat_i, pm_cat_r, pm_cat_l, pm_obj, pm_arr, pm_opt, pm_ird, pm_aln, List.getElem?_cons_zero, List.getElem?_cons_succ, List.set_cons_zero, List.set_cons_succ, List.length_cons, List.length_nil, List.length_set, true_and, and_true, Nat.add_zero, Nat.zero_add, Nat.le_refl, Nat.reduceAdd, Nat.reduceLT, Nat.reduceLeDiff, Nat.zero_le, not_false_eq_true, not_true_eq_false, false_implies, implies_true, true_implies, Nat.zero_lt_succ, Nat.lt_add_one, pm_tl_n, pm_tl_s, sc_uL, Hg, lg1']
      exact loop _ 0 rfl (Nat.zero_le _) g3 Cg.md Cg.p (fun _ _ _ => rfl) lg1'
    · simp only [if_neg c]
      refine PM_use (c_P_throwsIf1 Cg 1 (d + 20)) ?_
      rintro v g3 l3 ⟨rfl, C3, F3⟩
      show W_X12_trace _ _ _ _ _ _ _ _ _
      simp only [w_X12_trace_60, w_X12_trace_63, w_X12_trace_64, pm_1i_c, pm_2i_c, pm_1l_c, pm_2l_c, pm_1a_c, pm_ia_c, pm_iia_c, pm_va_c, pm_cp_c, pm_k0_c, pm_k1_c, pm_k2_c, pm_k3_c, pm_s1_c, pm_s2_c, pm_s3_c, pm_s4_c, pm_ri_c, pm_ra_c, pm_rn_c, pm_rk_i, pm_rk_z, pm_rk_a, pm_vk_i, pm_vk_z, pm_vk_a, pm_cti, pm_ctr, pm_ldi_z, pm_ldi_s, pm_lda_z, pm_lda_s, pm_cat_n, pm_cat_i, pm_cat_r, pm_cat_l, pm_obj, pm_arr, pm_opt, pm_ird, pm_aln, List.getElem?_cons_zero, List.getElem?_cons_succ, List.set_cons_zero, List.set_cons_succ, List.length_cons, List.length_nil, List.length_set, true_and, and_true, Nat.add_zero, Nat.zero_add, Nat.le_refl, Nat.reduceAdd, Nat.reduceLT, Nat.reduceLeDiff, Nat.zero_le, not_false_eq_true, not_true_eq_false, false_implies, implies_true, true_implies, Nat.zero_lt_succ, Nat.lt_add_one, pm_tl_n, pm_tl_s, sc_uL, l3, lg1', show ¬ (1 : Int32) = 0 by decide]
      exact ⟨⟨_, C3, q0, rfl, rfl⟩, Fh.tr F3⟩
  show W_X12_trace _ _ _ _ _ _ _ _ _
  simp only [w_X12_trace_17, w_X12_trace_18, pm_1i_c, pm_2i_c, pm_1l_c, pm_2l_c, pm_1a_c, pm_ia_c, pm_iia_c, pm_va_c, pm_cp_c, pm_k0_c, pm_k1_c, pm_k2_c, pm_k3_c, pm_s1_c, pm_s2_c, pm_s3_c, pm_s4_c, pm_ri_c, pm_ra_c, pm_rn_c, pm_rk_i, pm_rk_z, pm_rk_a, pm_vk_i, pm_vk_z, pm_vk_a, pm_cti, pm_ctr, pm_ldi_z, pm_ldi_s, pm_lda_z, pm_lda_s, pm_cat_n, pm_cat_i, pm_cat_r, pm_cat_l, pm_obj, pm_arr, pm_opt, pm_ird, pm_aln, List.getElem?_cons_zero, List.getElem?_cons_succ, List.set_cons_zero, List.set_cons_succ, List.length_cons, List.length_nil, List.length_set, true_and, and_true, Nat.add_zero, Nat.zero_add, Nat.le_refl, Nat.reduceAdd, Nat.reduceLT, Nat.reduceLeDiff, Nat.zero_le, not_false_eq_true, not_true_eq_false, false_implies, implies_true, true_implies, Nat.zero_lt_succ, Nat.lt_add_one, pm_tl_n, pm_tl_s, sc_uL, H4, l4']
  refine PM_use (c_Y_hasFailed P4 (d + 20)) ?_
  rintro v h5 l5 ⟨rfl, rfl⟩
  by_cases c : fa = -1
  · simp only [if_pos c]
    rw [if_pos c] at hV
    by_cases c2 : skp bs p < bs.length
    · have c2' : nI (skp bs p) < nI bs.length := nI_lt c2 (by omega)
      rw [if_pos c2] at hV
      show W_X12_trace _ _ _ _ _ _ _ _ _
      simp only [w_X12_trace_21, w_X12_trace_24, w_X12_trace_25, w_X12_trace_28, w_X12_trace_29, w_X12_trace_32, w_X12_trace_35, w_X12_trace_36, w_X12_trace_37, w_X12_trace_40, pm_1i_c, pm_2i_c, pm_1l_c, pm_2l_c, pm_1a_c, pm_ia_c, pm_iia_c, pm_va_c, pm_cp_c, pm_k0_c, pm_k1_c, pm_k2_c, pm_k3_c, pm_s1_c, pm_s2_c, pm_s3_c, pm_s4_c, pm_ri_c, pm_ra_c, pm_rn_c, pm_rk_i, pm_rk_z, pm_rk_a, pm_vk_i, pm_vk_z, pm_vk_a, pm_cti, pm_ctr, pm_ldi_z, pm_ldi_s, pm_lda_z, pm_lda_s, pm_cat_n, pm_cat_i, pm_cat_r, pm_cat_l, pm_obj, pm_arr, pm_opt, pm_ird, pm_aln, List.getElem?_cons_zero, List.getElem?_cons_succ, List.set_cons_zero, List.set_cons_succ, List.length_cons, List.length_nil, List.length_set, true_and, and_true, Nat.add_zero, Nat.zero_add, Nat.le_refl, Nat.reduceAdd, Nat.reduceLT, Nat.reduceLeDiff, Nat.zero_le, not_false_eq_true, not_true_eq_false, false_implies, implies_true, true_implies, Nat.zero_lt_succ, Nat.lt_add_one, pm_tl_n, pm_tl_s, sc_uL, H4, l4', c2']
      refine PM_use (c_Y_failsAt P4 (nI (skp bs p)) (d + 20)) ?_
      rintro v h6 l6 ⟨rfl, P6⟩
      rw [if_pos c] at P6
      show W_X12_trace _ _ _ _ _ _ _ _ _
      exact tail _ h6 hV.symm (fun _ => c) P6 (l6.trans l4')
    · have c2' : ¬ nI (skp bs p) < nI bs.length := nI_nlt (by omega) (by omega)
      rw [if_neg c2] at hV
      show W_X12_trace _ _ _ _ _ _ _ _ _
      simp only [w_X12_trace_21, w_X12_trace_24, w_X12_trace_25, w_X12_trace_28, w_X12_trace_29, w_X12_trace_32, pm_1i_c, pm_2i_c, pm_1l_c, pm_2l_c, pm_1a_c, pm_ia_c, pm_iia_c, pm_va_c, pm_cp_c, pm_k0_c, pm_k1_c, pm_k2_c, pm_k3_c, pm_s1_c, pm_s2_c, pm_s3_c, pm_s4_c, pm_ri_c, pm_ra_c, pm_rn_c, pm_rk_i, pm_rk_z, pm_rk_a, pm_vk_i, pm_vk_z, pm_vk_a, pm_cti, pm_ctr, pm_ldi_z, pm_ldi_s, pm_lda_z, pm_lda_s, pm_cat_n, pm_cat_i, pm_cat_r, pm_cat_l, pm_obj, pm_arr, pm_opt, pm_ird, pm_aln, List.getElem?_cons_zero, List.getElem?_cons_succ, List.set_cons_zero, List.set_cons_succ, List.length_cons, List.length_nil, List.length_set, true_and, and_true, Nat.add_zero, Nat.zero_add, Nat.le_refl, Nat.reduceAdd, Nat.reduceLT, Nat.reduceLeDiff, Nat.zero_le, not_false_eq_true, not_true_eq_false, false_implies, implies_true, true_implies, Nat.zero_lt_succ, Nat.lt_add_one, pm_tl_n, pm_tl_s, sc_uL, H4, l4', c2']
      rw [c] at P4
      exact tail _ h5 hV.symm (fun _ => c) P4 l4'
  · simp only [if_neg c]
    rw [if_neg c] at hV
    show W_X12_trace _ _ _ _ _ _ _ _ _
    simp only [w_X12_trace_21, pm_1i_c, pm_2i_c, pm_1l_c, pm_2l_c, pm_1a_c, pm_ia_c, pm_iia_c, pm_va_c, pm_cp_c, pm_k0_c, pm_k1_c, pm_k2_c, pm_k3_c, pm_s1_c, pm_s2_c, pm_s3_c, pm_s4_c, pm_ri_c, pm_ra_c, pm_rn_c, pm_rk_i, pm_rk_z, pm_rk_a, pm_vk_i, pm_vk_z, pm_vk_a, pm_cti, pm_ctr, pm_ldi_z, pm_ldi_s, pm_lda_z, pm_lda_s, pm_cat_n, pm_cat_i, pm_cat_r, pm_cat_l, pm_obj, pm_arr, pm_opt, pm_ird, pm_aln, List.getElem?_cons_zero, List.getElem?_cons_succ, List.set_cons_zero, List.set_cons_succ, List.length_cons, List.length_nil, List.length_set, true_and, and_true, Nat.add_zero, Nat.zero_add, Nat.le_refl, Nat.reduceAdd, Nat.reduceLT, Nat.reduceLeDiff, Nat.zero_le, not_false_eq_true, not_true_eq_false, false_implies, implies_true, true_implies, Nat.zero_lt_succ, Nat.lt_add_one, pm_tl_n, pm_tl_s, sc_uL, H4, l4', show ¬ (1 : Int32) = 0 by decide]
    exact tail _ h5 hV.symm (fun z => z) P4 l4'
end TR
