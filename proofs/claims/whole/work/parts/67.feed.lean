/-! AdmissionDeskModel: feed: bytes, signed here, unsigned there. -/
section MV
variable {h h' : pmH} {m : Nat} {o : Nat → Int32} {A A' K K' B : AD} {bs ws bs' ws' : List Int32} {ik ft : Int32}
theorem sg_int {b : Nat} (hb : b < 256) : (sgB (nI b)).toInt = if b < 128 then (b : Int) else (b : Int) - 256 := by
  unfold sgB
  by_cases c : b < 128
  · have c' : nI b < 128 := nI_lt (b := 128) c (by omega)
    rw [if_pos c', if_pos c, nI_toInt (by omega)]
  · have c' : ¬ nI b < 128 := nI_nlt (b := 128) (by omega) (by omega)
    rw [if_neg c', if_neg c, show (256 : Int32) = nI 256 from rfl, pk_sub_toInt (by omega) (by omega)]
    omega
theorem byt_i (X : Nat) (hX : X < 2 ^ 32) (t : Int) (ht : t = if 2 * X < 2 ^ 32 then (X : Int) else (X : Int) - 2 ^ 32) {k : Nat} (hk : k = 0 ∨ k = 8 ∨ k = 16 ∨ k = 24) : Int.bmod (t >>> k) 256 = if X / 2 ^ k % 256 < 128 then ((X / 2 ^ k % 256 : Nat) : Int) else ((X / 2 ^ k % 256 : Nat) : Int) - 256 := by
  rw [Int.shiftRight_eq_div_pow, Int.bmod_def]
  have t1 : t = X ∨ t = X - 4294967296 := by
    rw [ht]
    split
    · exact Or.inl rfl
    · exact Or.inr rfl
  rcases hk with rfl | rfl | rfl | rfl
  · have e : ((2 ^ 0 : Nat) : Int) = 1 := rfl
    have e2 : 2 ^ 0 = 1 := rfl
    rw [e2]
    have : t % 256 = ((X / 1 % 256 : Nat) : Int) := by omega
    split <;> split <;> omega
  · have e2 : 2 ^ 8 = 256 := rfl
    rw [e2]
    have : t / ((256 : Nat) : Int) % 256 = ((X / 256 % 256 : Nat) : Int) := by omega
    split <;> split <;> omega
  · have e2 : 2 ^ 16 = 65536 := rfl
    rw [e2]
    have : t / ((65536 : Nat) : Int) % 256 = ((X / 65536 % 256 : Nat) : Int) := by omega
    split <;> split <;> omega
  · have e2 : 2 ^ 24 = 16777216 := rfl
    rw [e2]
    have : t / ((16777216 : Nat) : Int) % 256 = ((X / 16777216 % 256 : Nat) : Int) := by omega
    split <;> split <;> omega
theorem byt_sh (x : Int32) {s : Int32} {k : Nat} (hk : k = 0 ∨ k = 8 ∨ k = 16 ∨ k = 24) (hs : s = nI k) : (x >>> (s &&& 31)).toInt8.toInt32 = sgB (usB x s) := by
  have h1 : ((s &&& 31).toBitVec.smod 32).toNat = k := by
    rw [hs]
    rcases hk with rfl | rfl | rfl | rfl <;> decide
  have h2 : ((s.toUInt32 &&& Int32.toUInt32 31).toBitVec % 32).toNat = k := by
    rw [hs]
    rcases hk with rfl | rfl | rfl | rfl <;> decide
  have eu : usB x s = nI (x.toBitVec.toNat / 2 ^ k % 256) := by
    unfold usB
    rw [pk_and _ 8 (by decide), pk_ushr x s k h2]
  refine Int32.toInt_inj.mp ?_
  rw [eu, sg_int (Nat.mod_lt _ (by omega)), Int8.toInt_toInt32, Int32.toInt_toInt8, pk_shr x _ k h1]
  refine byt_i x.toBitVec.toNat x.toBitVec.isLt x.toInt ?_ hk
  have e : x.toInt = x.toBitVec.toInt := rfl
  rw [e, BitVec.toInt_eq_toNat_cond]
  rfl
theorem usB_b (x s : Int32) : ∃ b, b < 256 ∧ usB x s = nI b := by
  unfold usB
  obtain ⟨j, j1, j2⟩ := pk_andE ((x.toUInt32 >>> (s.toUInt32 &&& Int32.toUInt32 31)).toInt32) (m := 255) 8 (by decide)
  exact ⟨j, j1, j2⟩
/-- the twenty bytes -/
def by5 (x1 x2 x3 x4 x5 : Int32) : List Int32 := byS x1 ++ (byS x2 ++ (byS x3 ++ (byS x4 ++ byS x5)))
def fiv (x1 x2 x3 x4 x5 : Int32) (q : Nat) : Int32 := if q = 0 then x1 else if q = 1 then x2 else if q = 2 then x3 else if q = 3 then x4 else x5
theorem by5_at (x1 x2 x3 x4 x5 : Int32) {q r : Nat} (hq : q < 5) (hr : r < 4) : (by5 x1 x2 x3 x4 x5).getD (4 * q + r) (-1) = usB (fiv x1 x2 x3 x4 x5 q) (nI (24 - 8 * r)) := by
  have hq' : q = 0 ∨ q = 1 ∨ q = 2 ∨ q = 3 ∨ q = 4 := by omega
  have hr' : r = 0 ∨ r = 1 ∨ r = 2 ∨ r = 3 := by omega
  rcases hq' with rfl | rfl | rfl | rfl | rfl <;> rcases hr' with rfl | rfl | rfl | rfl <;> rfl
/-- the tape at another -/
theorem mm_.tp2 (C : mm_ h m o A K bs ws) (o' : Nat → Int32) (M : mO h' m o') (e0 : o' 0 = o 0) (e12 : o' 12 = o 12) {f5 ft_ : Nat → Int32} (F5 : h'[m + 5]? = some (.inl (0, 5, .inl f5))) (Ft : h'[m + 4]? = some (.inl (1, 400, .inl ft_))) (hl : bs'.length ≤ 400) (e2 : o' 2 = nI bs'.length) (hb : ∀ k, k < bs'.length → ft_ k = sgB (bs'.getD k (-1))) (F : ∀ i, i ≠ m → i ≠ m + 4 → i ≠ m + 5 → h'[i]? = h[i]?) : mm_ h' m o' A K bs' ws ∧ frM h h' m := by
  refine ⟨⟨M, ?_, ?_, ?_, ⟨ft_, Ft, hl, e2, hb⟩, ⟨f5, F5⟩, ?_, ?_, ?_, ?_, ?_⟩, fun i hi => F i (by omega) (by omega) (by omega)⟩
  · obtain ⟨f, h1, h2⟩ := C.n
    exact ⟨f, (F _ (by omega) (by omega) (by omega)).trans h1, h2⟩
  · obtain ⟨f, h1, h2⟩ := C.k
    exact ⟨f, (F _ (by omega) (by omega) (by omega)).trans h1, by rw [e0]; exact h2⟩
  · obtain ⟨f, h1⟩ := C.as
    exact ⟨f, (F _ (by omega) (by omega) (by omega)).trans h1⟩
  · obtain ⟨f, h1⟩ := C.cd
    exact ⟨f, (F _ (by omega) (by omega) (by omega)).trans h1⟩
  · exact C.p.keep (F _ (by omega) (by omega) (by omega))
  · obtain ⟨f, h1⟩ := C.td
    exact ⟨f, (F _ (by omega) (by omega) (by omega)).trans h1⟩
  · obtain ⟨f, h1⟩ := C.rw
    exact ⟨f, (F _ (by omega) (by omega) (by omega)).trans h1⟩
  · obtain ⟨f, h1, h2⟩ := C.tx
    exact ⟨f, (F _ (by omega) (by omega) (by omega)).trans h1, by rw [e12]; exact h2⟩
set_option maxHeartbeats 1000000 in
theorem c_P_feed (C : mm_ h m o A K bs ws) (x1 x2 x3 x4 x5 : Int32) (d : Nat) : PM (d + 1) 151 [.ref m, .int x1, .int x2, .int x3, .int x4, .int x5] h (fun v h' => if 400 < bs.length + 20 then rq_ h m A K bs ws (o 0) (o 7) true (-1) v h' else rq_ h m A K (bs ++ by5 x1 x2 x3 x4 x5) ws (o 0) (o 7) true (nI (bs.length + 20)) v h') := by
  obtain ⟨tf, t1, t2, t3, t4⟩ := C.tp
  have H0 := C.ob
  unfold mO at H0
  obtain ⟨h1, e1, l1, F1, C1, H1⟩ := C.th 0
  obtain ⟨tf', t1', -, -, t4'⟩ := C1.tp
  obtain ⟨vf, v1⟩ := C1.fv
  rw [t3] at H0 e1 H1
  have e20 : nI bs.length + 20 = nI (bs.length + 20) := nI_add bs.length 20
  refine en_X12_feed rfl rfl rfl rfl rfl rfl ?_
  by_cases c : 400 < bs.length + 20
  · have c' : (400 : Int32) < nI (bs.length + 20) := nI_lt (a := 400) c (by omega)
    simp only [if_pos c]
    simp only [w_X12_feed_0, w_X12_feed_1, w_X12_feed_2, w_X12_feed_5, w_X12_feed_6, w_X12_feed_9, w_X12_feed_11, w_X12_feed_12, w_X12_feed_15, w_X12_feed_18, w_X12_feed_19, pm_1i_c, pm_2i_c, pm_1l_c, pm_2l_c, pm_1a_c, pm_ia_c, pm_iia_c, pm_va_c, pm_cp_c, pm_k0_c, pm_k1_c, pm_k2_c, pm_k3_c, pm_s1_c, pm_s2_c, pm_s3_c, pm_s4_c, pm_ri_c, pm_ra_c, pm_rn_c, pm_rk_i, pm_rk_z, pm_rk_a, pm_vk_i, pm_vk_z, pm_vk_a, pm_cti, pm_ctr, pm_ldi_z, pm_ldi_s, pm_lda_z, pm_lda_s, pm_cat_n, pm_cat_i, pm_cat_r, pm_cat_l, pm_obj, pm_arr, pm_opt, pm_ird, pm_aln, List.getElem?_cons_zero, List.getElem?_cons_succ, List.set_cons_zero, List.set_cons_succ, List.length_cons, List.length_nil, List.length_set, true_and, and_true, Nat.add_zero, Nat.zero_add, Nat.le_refl, Nat.reduceAdd, Nat.reduceLT, Nat.reduceLeDiff, Nat.zero_le, not_false_eq_true, not_true_eq_false, false_implies, implies_true, true_implies, Nat.zero_lt_succ, Nat.lt_add_one, H0, e1, H1, l1, e20, c']
    exact rq_T (C1.q F1)
  · have c' : ¬ (400 : Int32) < nI (bs.length + 20) := nI_nlt (b := bs.length + 20) (a := 400) (by omega) (by omega)
    simp only [if_neg c]
    have w0 : vp_in 0 5 := vp_in_nI (n := 0) (by omega) (by omega)
    have w1 : vp_in 1 5 := vp_in_nI (n := 1) (by omega) (by omega)
    have w2 : vp_in 2 5 := vp_in_nI (n := 2) (by omega) (by omega)
    have w3 : vp_in 3 5 := vp_in_nI (n := 3) (by omega) (by omega)
    have w4 : vp_in 4 5 := vp_in_nI (n := 4) (by omega) (by omega)
    have y0 : (0 : Int32).toNatClampNeg = 0 := rfl
    have y1 : (1 : Int32).toNatClampNeg = 1 := rfl
    have y2 : (2 : Int32).toNatClampNeg = 2 := rfl
    have y3 : (3 : Int32).toNatClampNeg = 3 := rfl
    have y4 : (4 : Int32).toNatClampNeg = 4 := rfl
    have nm : ∀ (l : pmH) (q : pmC), (l.set (m + 5) q)[m]? = l[m]? := fun _ _ => hset_n (by omega)
    simp only [w_X12_feed_0, w_X12_feed_1, w_X12_feed_2, w_X12_feed_5, w_X12_feed_6, w_X12_feed_9, w_X12_feed_11, w_X12_feed_12, w_X12_feed_15, w_X12_feed_20, w_X12_feed_21, w_X12_feed_24, w_X12_feed_25, w_X12_feed_26, w_X12_feed_27, w_X12_feed_28, w_X12_feed_31, w_X12_feed_32, w_X12_feed_33, w_X12_feed_34, w_X12_feed_35, w_X12_feed_38, w_X12_feed_39, w_X12_feed_40, w_X12_feed_41, w_X12_feed_42, w_X12_feed_45, w_X12_feed_46, w_X12_feed_48, w_X12_feed_49, w_X12_feed_50, w_X12_feed_53, w_X12_feed_54, w_X12_feed_56, w_X12_feed_57, w_X12_feed_58, pm_1i_c, pm_2i_c, pm_1l_c, pm_2l_c, pm_1a_c, pm_ia_c, pm_iia_c, pm_va_c, pm_cp_c, pm_k0_c, pm_k1_c, pm_k2_c, pm_k3_c, pm_s1_c, pm_s2_c, pm_s3_c, pm_s4_c, pm_ri_c, pm_ra_c, pm_rn_c, pm_rk_i, pm_rk_z, pm_rk_a, pm_vk_i, pm_vk_z, pm_vk_a, pm_cti, pm_ctr, pm_ldi_z, pm_ldi_s, pm_lda_z, pm_lda_s, pm_cat_n, pm_cat_i, pm_cat_r, pm_cat_l, pm_obj, pm_arr, pm_opt, pm_ird, pm_aln, List.getElem?_cons_zero, List.getElem?_cons_succ, List.set_cons_zero, List.set_cons_succ, List.length_cons, List.length_nil, List.length_set, true_and, and_true, Nat.add_zero, Nat.zero_add, Nat.le_refl, Nat.reduceAdd, Nat.reduceLT, Nat.reduceLeDiff, Nat.zero_le, not_false_eq_true, not_true_eq_false, false_implies, implies_true, true_implies, Nat.zero_lt_succ, Nat.lt_add_one, H0, e1, H1, l1, e20, c', v1, w0, w1, w2, w3, w4, y0, y1, y2, y3, y4, nm, hset_s, Option.map_some, List.set_set]
    obtain ⟨g5, hg5⟩ : ∃ g5, g5 = upd (upd (upd (upd (upd vf 0 x1) 1 x2) 2 x3) 3 x4) 4 x5 := ⟨_, rfl⟩
    rw [← hg5]
    have g5q : ∀ q, q < 5 → g5 q = fiv x1 x2 x3 x4 x5 q := fun q hq => by
      rw [hg5]
      have hq' : q = 0 ∨ q = 1 ∨ q = 2 ∨ q = 3 ∨ q = 4 := by omega
      rcases hq' with rfl | rfl | rfl | rfl | rfl <;> rfl
    have len5 : (by5 x1 x2 x3 x4 x5).length = 20 := rfl
    have loop : ∀ z j, 20 - j = z → j ≤ 20 → ∀ (g : pmH) (gt : Nat → Int32), g[m + 4]? = some (.inl (1, 400, .inl gt)) → g[m + 5]? = some (.inl (0, 5, .inl g5)) → (∀ k, k < bs.length → gt k = sgB (bs.getD k (-1))) → (∀ k, k < j → gt (bs.length + k) = sgB ((by5 x1 x2 x3 x4 x5).getD k (-1))) → (∀ i, i ≠ m + 4 → i ≠ m + 5 → g[i]? = h1[i]?) → g.length = h.length → W_X12_feed d h.length 0 (fun v h' => rq_ h m A K (bs ++ by5 x1 x2 x3 x4 x5) ws (o 0) (o 7) true (nI (bs.length + 20)) v h') 60 [some (.ref m), some (.int x1), some (.int x2), some (.int x3), some (.int x4), some (.int x5), some (.int (nI j))] [] g 0 := by
      intro z
      induction z with
      | zero =>
        intro j hz hj g gt q1 q2 q3 q4 q5 q6
        have : j = 20 := by omega
        subst this
        have hm : g[m]? = h1[m]? := q5 m (by omega) (by omega)
        have e9 : (g.set m (.inr (12, [.ref (m + 1), .ref (m + 2), .ref (m + 3), .int (o 0), .int 0, .ref (m + 4), .int (nI (bs.length + 20)), .ref (m + 5), .int (o 3), .int (o 4), .int (o 5), .int (o 6), .int (o 7), .int (o 8), .int (o 9), .int (o 10), .ref (m + 6), .ref (m + 7), .ref (m + 8), .int (o 11), .ref (m + 9), .ref (m + 10), .int (o 12)])))[m]? = some (.inr (12, [.ref (m + 1), .ref (m + 2), .ref (m + 3), .int (o 0), .int 0, .ref (m + 4), .int (nI (bs.length + 20)), .ref (m + 5), .int (o 3), .int (o 4), .int (o 5), .int (o 6), .int (o 7), .int (o 8), .int (o 9), .int (o 10), .ref (m + 6), .ref (m + 7), .ref (m + 8), .int (o 11), .ref (m + 9), .ref (m + 10), .int (o 12)])) := by
          rw [hset_s, hm, H1]
          rfl
        have lb : (bs ++ by5 x1 x2 x3 x4 x5).length = bs.length + 20 := by rw [List.length_append, len5]
        obtain ⟨C2, F2⟩ := C1.tp2 (bs' := bs ++ by5 x1 x2 x3 x4 x5) (upd (upd o 1 0) 2 (nI (bs.length + 20))) e9 rfl rfl ((hset_n (by omega)).trans q2) ((hset_n (by omega)).trans q1) (by omega) (by rw [lb]; rfl) (fun k hk => by
          rw [lb] at hk
          rw [List.getD_eq_getElem?_getD, List.getElem?_append]
          by_cases ck : k < bs.length
          · rw [if_pos ck, q3 k ck, List.getD_eq_getElem?_getD]
          · rw [if_neg ck]
            have := q4 (k - bs.length) (by omega)
            rw [show bs.length + (k - bs.length) = k by omega] at this
            rw [this, List.getD_eq_getElem?_getD]) (fun i a b c => (hset_n (Ne.symm a)).trans (q5 i b c))
        rw [w_X12_feed_60]
        simp only [w_X12_feed_62, w_X12_feed_64, w_X12_feed_106, w_X12_feed_107, w_X12_feed_108, w_X12_feed_111, w_X12_feed_113, w_X12_feed_114, w_X12_feed_117, w_X12_feed_118, w_X12_feed_121, pm_1i_c, pm_2i_c, pm_1l_c, pm_2l_c, pm_1a_c, pm_ia_c, pm_iia_c, pm_va_c, pm_cp_c, pm_k0_c, pm_k1_c, pm_k2_c, pm_k3_c, pm_s1_c, pm_s2_c, pm_s3_c, pm_s4_c, pm_ri_c, pm_ra_c, pm_rn_c, pm_rk_i, pm_rk_z, pm_rk_a, pm_vk_i, pm_vk_z, pm_vk_a, pm_cti, pm_ctr, pm_ldi_z, pm_ldi_s, pm_lda_z, pm_lda_s, pm_cat_n, pm_cat_i, pm_cat_r, pm_cat_l, pm_obj, pm_arr, pm_opt, pm_ird, pm_aln, List.getElem?_cons_zero, List.getElem?_cons_succ, List.set_cons_zero, List.set_cons_succ, List.length_cons, List.length_nil, List.length_set, true_and, and_true, Nat.add_zero, Nat.zero_add, Nat.le_refl, Nat.reduceAdd, Nat.reduceLT, Nat.reduceLeDiff, Nat.zero_le, not_false_eq_true, not_true_eq_false, false_implies, implies_true, true_implies, Nat.zero_lt_succ, Nat.lt_add_one, show ¬ nI 20 < 20 by decide, hm, H1, e20, hset_s, Option.map_some, q6]
        exact rq_T ⟨⟨_, C2, rfl, rfl, rfl⟩, F1.tr F2⟩
      | succ z ih =>
        intro j hz hj g gt q1 q2 q3 q4 q5 q6
        have hm : g[m]? = h1[m]? := q5 m (by omega) (by omega)
        obtain ⟨q, r, hr, ej⟩ : ∃ q r, r < 4 ∧ j = 4 * q + r := ⟨j / 4, j % 4, Nat.mod_lt _ (by omega), by omega⟩
        have hq : q < 5 := by omega
        have e4 : nI j < 20 := nI_lt (b := 20) (by omega) (by omega)
        have nj : nI bs.length + nI j = nI (bs.length + j) := nI_add _ _
        have vj : vp_in (nI (bs.length + j)) 400 := vp_in_nI (by omega) (by omega)
        have cj : (nI (bs.length + j)).toNatClampNeg = bs.length + j := nI_clamp (by omega)
        have dj : nI j / 4 = nI q := by
          rw [show (4 : Int32) = nI 4 from rfl, pk_div (by omega) (by omega) (by omega)]
          congr 1
          omega
        have vq : vp_in (nI q) 5 := vp_in_nI hq (by omega)
        have cq : (nI q).toNatClampNeg = q := nI_clamp (by omega)
        have rj : nI j - nI q * 4 = nI r := by
          rw [show (4 : Int32) = nI 4 from rfl, pk_mul, pk_sub (by omega)]
          congr 1
          omega
        have sj : (24 : Int32) - 8 * nI r = nI (24 - 8 * r) := by
          rw [show (8 : Int32) = nI 8 from rfl, pk_mul, show (24 : Int32) = nI 24 from rfl, pk_sub (by omega)]
        have by_ := byt_sh (fiv x1 x2 x3 x4 x5 q) (s := nI (24 - 8 * r)) (k := 24 - 8 * r) (by omega) rfl
        have f4 : ¬ (4 : Int32) = 0 := by decide
        have vb : vp_nar .byte (fiv x1 x2 x3 x4 x5 q >>> (nI (24 - 8 * r) &&& 31)).toInt8.toInt32 = sgB ((by5 x1 x2 x3 x4 x5).getD j (-1)) := by
          rw [pk_vb, by_, ej, by5_at x1 x2 x3 x4 x5 hq hr]
        rw [w_X12_feed_60]
        simp only [w_X12_feed_62, w_X12_feed_64, w_X12_feed_67, w_X12_feed_68, w_X12_feed_71, w_X12_feed_72, w_X12_feed_75, w_X12_feed_77, w_X12_feed_78, w_X12_feed_79, w_X12_feed_82, w_X12_feed_84, w_X12_feed_85, w_X12_feed_86, w_X12_feed_87, w_X12_feed_89, w_X12_feed_91, w_X12_feed_93, w_X12_feed_94, w_X12_feed_95, w_X12_feed_96, w_X12_feed_97, w_X12_feed_98, w_X12_feed_99, w_X12_feed_100, w_X12_feed_103, pm_1i_c, pm_2i_c, pm_1l_c, pm_2l_c, pm_1a_c, pm_ia_c, pm_iia_c, pm_va_c, pm_cp_c, pm_k0_c, pm_k1_c, pm_k2_c, pm_k3_c, pm_s1_c, pm_s2_c, pm_s3_c, pm_s4_c, pm_ri_c, pm_ra_c, pm_rn_c, pm_rk_i, pm_rk_z, pm_rk_a, pm_vk_i, pm_vk_z, pm_vk_a, pm_cti, pm_ctr, pm_ldi_z, pm_ldi_s, pm_lda_z, pm_lda_s, pm_cat_n, pm_cat_i, pm_cat_r, pm_cat_l, pm_obj, pm_arr, pm_opt, pm_ird, pm_aln, List.getElem?_cons_zero, List.getElem?_cons_succ, List.set_cons_zero, List.set_cons_succ, List.length_cons, List.length_nil, List.length_set, true_and, and_true, Nat.add_zero, Nat.zero_add, Nat.le_refl, Nat.reduceAdd, Nat.reduceLT, Nat.reduceLeDiff, Nat.zero_le, not_false_eq_true, not_true_eq_false, false_implies, implies_true, true_implies, Nat.zero_lt_succ, Nat.lt_add_one, e4, hm, H1, q2, nj, dj, f4, vq, cq, g5q q hq, rj, sj, q1, vj, cj, vb, if_true, true_or, nI_1]
        refine ih (j + 1) (by omega) (by omega) _ _ (by rw [hset_s, q1]; rfl) (by rw [hset_n (by omega)]; exact q2) (fun k hk => by rw [upd_n (by omega)]; exact q3 k hk) (fun k hk => ?_) (fun i a b => by rw [hset_n (Ne.symm a)]; exact q5 i a b) (by rw [List.length_set]; exact q6)
        by_cases ck : k = j
        · rw [ck, upd_e]
        · rw [upd_n (by omega)]
          exact q4 k (by omega)
    exact loop 20 0 rfl (by omega) _ tf' (by rw [hset_n (by omega)]; exact t1') (by rw [hset_s, v1]; rfl) t4' (fun k hk => by omega) (fun i a b => hset_n (Ne.symm b)) (by rw [List.length_set]; exact l1)
end MV
