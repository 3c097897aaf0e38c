/-! What the sketch doesn't see; the climb; an ask of the model. -/
section MJ
variable {h h' : pmH} {m : Nat} {o : Nat → Int32} {A B A' : AD}
theorem plA_cg (e : sc B 13 = sc A 13) (k : Int32) (r : Nat) : plA B k r = plA A k r := by
  unfold plA
  rw [e]
theorem cix_cg (e : sc B 13 = sc A 13) (k : Int32) (r : Nat) : cix B k r = cix A k r := by
  unfold cix
  rw [plA_cg e]
theorem notd_cg (e : sc B 14 = sc A 14) (en : nt B = nt A) (k : Int32) : notd B k = notd A k := by
  unfold notd
  rw [e, en]
theorem estL_cg (e : sc B 13 = sc A 13) (ec : cn B = cn A) (k : Int32) : ∀ r, estL B k r = estL A k r
  | 0 => rfl
  | r + 1 => by
    unfold estL
    rw [estL_cg e ec k r, cix_cg e, ec]
theorem raiC_cg (e : sc B 13 = sc A 13) (ec : cn B = cn A) (k : Int32) : ∀ r, raiC B k r = raiC A k r
  | 0 => by
    unfold raiC
    rw [ec]
  | r + 1 => by
    unfold raiC
    rw [raiC_cg e ec k r, cix_cg e]
theorem estF_cg (e : sc B 13 = sc A 13) (e2 : sc B 14 = sc A 14) (ec : cn B = cn A) (en : nt B = nt A) (k : Int32) : estF B k = estF A k := by
  unfold estF
  rw [notd_cg e2 en, estL_cg e ec]
theorem halF_uS {i : Nat} (h0 : i ≠ 0) (h1 : i ≠ 1) (v : Int32) : halF (uS A i v) = uS (halF A) i v := by
  unfold halF
  rw [sc_ne (A := A) (i := i) (x := v) (Ne.symm h0), sc_ne (A := A) (i := i) (x := v) (Ne.symm h1)]
  rw [uS_c (A := uS (uN (uC A fun k => cn A k / 2) fun _ => 0) 0 (sc A 0 / 2)) (Ne.symm h1), uS_c (A := uN (uC A fun k => cn A k / 2) fun _ => 0) (Ne.symm h0)]
  rfl
theorem addF1_uS {i : Nat} (h0 : i ≠ 0) (h13 : i ≠ 13) (h14 : i ≠ 14) (v : Int32) (key : Int32) : addF1 (uS A i v) key = uS (addF1 A key) i v := by
  unfold addF1
  rw [sc_ne (A := A) (i := i) (x := v) (Ne.symm h14), notd_cg (A := A) (B := uS A i v) (sc_ne (Ne.symm h14)) rfl, raiC_cg (A := A) (B := uS A i v) (sc_ne (Ne.symm h13)) rfl, sc_ne (A := A) (i := i) (x := v) (Ne.symm h0)]
  by_cases c : sc A 14 = 1 ∧ notd A key = false
  · rw [if_pos c, if_pos c]
    rfl
  · rw [if_neg c, if_neg c, uS_c (A := uC A (raiC A key 4).1) (Ne.symm h0)]
    rfl
theorem addF_uS {i : Nat} (h0 : i ≠ 0) (h1 : i ≠ 1) (h11 : i ≠ 11) (h13 : i ≠ 13) (h14 : i ≠ 14) (v : Int32) (key : Int32) : addF (uS A i v) key = uS (addF A key) i v := by
  unfold addF
  rw [addF1_uS h0 h13 h14, sc_ne (A := addF1 A key) (i := i) (x := v) (Ne.symm h0), sc_ne (A := addF1 A key) (i := i) (x := v) (Ne.symm h11)]
  by_cases c : sc (addF1 A key) 0 < sc (addF1 A key) 11
  · rw [if_pos c, if_pos c]
  · rw [if_neg c, if_neg c, halF_uS h0 h1]
theorem addF1_uL {p : Nat} (l : List Int32) (key : Int32) : addF1 (uL A p l) key = uL (addF1 A key) p l := by
  unfold addF1
  rw [notd_cg (A := A) (B := uL A p l) rfl rfl, raiC_cg (A := A) (B := uL A p l) rfl rfl]
  by_cases c : sc A 14 = 1 ∧ notd A key = false
  · have c' : sc (uL A p l) 14 = 1 ∧ notd A key = false := c
    rw [if_pos c, if_pos c']
    rfl
  · have c' : ¬ (sc (uL A p l) 14 = 1 ∧ notd A key = false) := c
    rw [if_neg c, if_neg c']
    rfl
theorem addF_uL {p : Nat} (l : List Int32) (key : Int32) : addF (uL A p l) key = uL (addF A key) p l := by
  unfold addF
  rw [addF1_uL]
  by_cases c : sc (addF1 A key) 0 < sc (addF1 A key) 11
  · have c' : sc (uL (addF1 A key) p l) 0 < sc (uL (addF1 A key) p l) 11 := c
    rw [if_pos c, if_pos c']
  · have c' : ¬ sc (uL (addF1 A key) p l) 0 < sc (uL (addF1 A key) p l) 11 := c
    rw [if_neg c, if_neg c']
    rfl
theorem addF_li (key : Int32) : li (addF A key) = li A := (skEq_addF A key).1
theorem addF_sc (key : Int32) {i : Nat} (a : i ≠ 0) (b : i ≠ 1) (c : i ≠ 11) (d : i ≠ 13) (e : i ≠ 14) : sc (addF A key) i = sc A i := (skEq_addF A key).2.2 i a b c d e
theorem addF_lw (key : Int32) : lw (addF A key) = lw A := (skEq_addF A key).2.1
/-- the model's order of an ask's first steps -/
def msA (A : AD) (key : Int32) : AD := addF (cmG (remF (uS A 2 (sc A 2 + 1)) key) key) key
theorem msA_no {key : Int32} (hk : key ∉ li A 4) : msA A key = srA A key := by
  unfold msA srA cmG
  have : key ∉ li (remF (uS A 2 (sc A 2 + 1)) key) 4 := hk
  rw [if_neg this]
  unfold remF
  rw [addF_uL, addF_uS (by omega) (by omega) (by omega) (by omega) (by omega), addF_sc key (by omega) (by omega) (by omega) (by omega) (by omega)]
  have e : li (uS (addF A key) 2 (sc A 2 + 1)) 5 = li (uS A 2 (sc A 2 + 1)) 5 := by
    show li (addF A key) 5 = li A 5
    rw [addF_li]
  rw [e]
theorem msA_clr (key : Int32) : clrF (msA A key) = cmG (clrF (srA A key)) key := by
  by_cases hk : key ∈ li A 4
  · have h1 : key ∈ li (remF (uS A 2 (sc A 2 + 1)) key) 4 := hk
    have h2 : key ∈ li (clrF (srA A key)) 4 := by
      show key ∈ li (addF A key) 4
      rw [addF_li]
      exact hk
    unfold msA cmG
    rw [if_pos h1, if_pos h2]
    unfold srA remF
    rw [addF_uS (by omega) (by omega) (by omega) (by omega) (by omega), addF_uL, addF_uL, addF_uS (by omega) (by omega) (by omega) (by omega) (by omega), addF_sc key (i := 2) (by omega) (by omega) (by omega) (by omega) (by omega)]
    have e5 : li (uS (addF A key) 2 (sc A 2 + 1)) 5 = li (uS A 2 (sc A 2 + 1)) 5 := by
      show li (addF A key) 5 = li A 5
      rw [addF_li]
    have e4 : li (clrF (uL (uS (addF A key) 2 (sc A 2 + 1)) 5 (hisF (li (uS (addF A key) 2 (sc A 2 + 1)) 5) key))) 4 = li (uL (uS A 2 (sc A 2 + 1)) 5 (hisF (li (uS A 2 (sc A 2 + 1)) 5) key)) 4 := by
      show li (addF A key) 4 = li A 4
      rw [addF_li]
    have s5 : sc (clrF (uL (uS (addF A key) 2 (sc A 2 + 1)) 5 (hisF (li (uS (addF A key) 2 (sc A 2 + 1)) 5) key))) 5 = sc (uL (uS A 2 (sc A 2 + 1)) 5 (hisF (li (uS A 2 (sc A 2 + 1)) 5) key)) 5 := by
      show sc (addF A key) 5 = sc A 5
      exact addF_sc key (by omega) (by omega) (by omega) (by omega) (by omega)
    rw [e4, s5, e5]
    unfold clrF
    rw [uS_c (i := 5) (j := 19) (by omega), uS_c (i := 5) (j := 20) (by omega), uS_c (i := 5) (j := 21) (by omega), uS_c (i := 5) (j := 22) (by omega)]
    rfl
  · have h2 : key ∉ li (clrF (srA A key)) 4 := by
      show key ∉ li (addF A key) 4
      rw [addF_li]
      exact hk
    rw [msA_no hk]
    unfold cmG
    rw [if_neg h2]
theorem mdI_mm (v : Int32) : (if 1 < (if v < 99 then v else 99) then (if v < 99 then v else 99) else 1) = if v < 1 then 1 else if 99 < v then 99 else v := by
  have n1 : (1 : Int32).toInt = 1 := rfl
  have n99 : (99 : Int32).toInt = 99 := rfl
  by_cases a : v < 1
  · have a' := Int32.lt_iff_toInt_lt.mp a
    have b : v < 99 := Int32.lt_iff_toInt_lt.mpr (by omega)
    have c : ¬ 1 < v := fun z => by
      have := Int32.lt_iff_toInt_lt.mp z
      omega
    rw [if_pos b, if_neg c, if_pos a]
  · have a' : ¬ v.toInt < 1 := fun z => a (Int32.lt_iff_toInt_lt.mpr (by omega))
    by_cases b : 99 < v
    · have b' := Int32.lt_iff_toInt_lt.mp b
      have c : ¬ v < 99 := fun z => by
        have := Int32.lt_iff_toInt_lt.mp z
        omega
      rw [if_neg c, if_pos (by decide), if_neg a, if_pos b]
    · have b' : ¬ 99 < v.toInt := fun z => b (Int32.lt_iff_toInt_lt.mpr (by omega))
      rw [if_neg a, if_neg b]
      by_cases c : v < 99
      · rw [if_pos c]
        by_cases d : 1 < v
        · rw [if_pos d]
        · have d' : ¬ 1 < v.toInt := fun z => d (Int32.lt_iff_toInt_lt.mpr (by omega))
          rw [if_neg d]
          exact Int32.toInt_inj.mp (by omega)
      · have c' : ¬ v.toInt < 99 := fun z => c (Int32.lt_iff_toInt_lt.mpr (by omega))
        rw [if_neg c, if_pos (by decide)]
        exact Int32.toInt_inj.mp (by omega)
theorem mdI_ok (x s : Int32) : ∃ n, 1 ≤ n ∧ n ≤ 99 ∧ mdI x s = nI n := by
  unfold mdI
  generalize x + s = v
  by_cases a : v < 1
  · rw [if_pos a]
    exact ⟨1, by omega, by omega, rfl⟩
  · rw [if_neg a]
    by_cases b : 99 < v
    · rw [if_pos b]
      exact ⟨99, by omega, by omega, rfl⟩
    · rw [if_neg b]
      have n1 : (1 : Int32).toInt = 1 := rfl
      have n99 : (99 : Int32).toInt = 99 := rfl
      have a' : ¬ v.toInt < 1 := fun z => a (Int32.lt_iff_toInt_lt.mpr (by omega))
      have b' : ¬ 99 < v.toInt := fun z => b (Int32.lt_iff_toInt_lt.mpr (by omega))
      have n0 : ¬ v < 0 := fun z => by
        have := Int32.lt_iff_toInt_lt.mp z
        have : (0 : Int32).toInt = 0 := rfl
        omega
      obtain ⟨j, hj, rfl⟩ := nI_of n0
      rw [nI_toInt hj] at a' b'
      exact ⟨j, by omega, by omega, rfl⟩
theorem shV.mk {r d k : Nat} (h8 : sc A 8 = nI r) (a1 : 1 ≤ r) (a2 : r ≤ 64) (h9 : sc A 9 = nI d) (b1 : 1 ≤ d) (b2 : d ≤ 99) (h10 : sc A 10 = nI k) (c1 : k ≤ 99) : shV A := by
  have e1 : rN A = r := by unfold rN; rw [h8, nI_clamp (by omega)]
  have e2 : dN A = d := by unfold dN; rw [h9, nI_clamp (by omega)]
  have e3 : kN A = k := by unfold kN; rw [h10, nI_clamp (by omega)]
  unfold shV
  rw [e1, e2, e3]
  exact ⟨⟨h8, a1, a2⟩, ⟨h9, b1, b2⟩, h10, c1⟩
theorem srC1_17 {b : Int32} : sc (srC1 A b) 17 = sc A 17 + b := by
  unfold srC1
  rw [sc_uS, if_pos rfl]
theorem srC1_n {b : Int32} {i : Nat} (h6 : i ≠ 16) (h7 : i ≠ 17) : sc (srC1 A b) i = sc A i := by
  unfold srC1
  rw [sc_ne h7, sc_ne h6]
theorem srC2_15 : sc (srC2 A) 15 = if sc A 17 < sc A 18 then - sc A 15 else sc A 15 := by
  unfold srC2
  rw [sc_ne (by omega), sc_ne (by omega), sc_ne (by omega), sc_uS, if_pos rfl]
theorem srC2_16 : sc (srC2 A) 16 = 0 := by
  unfold srC2
  rw [sc_ne (by omega), sc_ne (by omega), sc_uS, if_pos rfl]
theorem srC2_17 : sc (srC2 A) 17 = 0 := by
  unfold srC2
  rw [sc_ne (by omega), sc_uS, if_pos rfl]
theorem srC2_18 : sc (srC2 A) 18 = sc A 17 := by
  unfold srC2
  rw [sc_uS, if_pos rfl]
theorem srC2_n {i : Nat} (h : i < 15 ∨ 18 < i) : sc (srC2 A) i = sc A i := by
  unfold srC2
  rw [sc_ne (by omega), sc_ne (by omega), sc_ne (by omega), sc_ne (by omega)]
theorem srC3_9 : sc (srC3 A) 9 = mdI (sc A 9) (5 * sc A 15) := by
  unfold srC3
  rw [sc_uS, if_pos rfl]
theorem srC3_n {i : Nat} (h : i ≠ 9) : sc (srC3 A) i = sc A i := by
  unfold srC3
  rw [sc_ne h]
theorem srC_sc {b w : Int32} (hw : w = if sc A 17 + b < sc A 18 then - sc A 15 else sc A 15) (e : ∀ i, i < 24 → sc B i = sc (uS (srC1 A b) 15 w) i) : ∀ i, i < 24 → sc (srC3 (srC2 (srC1 A b))) i = sc (uS (uS (uS (uS B 9 (mdI (sc A 9) (5 * w))) 18 (sc A 17 + b)) 17 0) 16 0) i := by
  intro i hi
  have ei := e i hi
  by_cases c16 : i = 16
  · subst c16
    rw [srC3_n (by omega), srC2_16, sc_uS, if_pos rfl]
  by_cases c17 : i = 17
  · subst c17
    rw [srC3_n (by omega), srC2_17, sc_ne (by omega), sc_uS, if_pos rfl]
  by_cases c18 : i = 18
  · subst c18
    rw [srC3_n (by omega), srC2_18, srC1_17, sc_ne (by omega), sc_ne (by omega), sc_uS, if_pos rfl]
  by_cases c9 : i = 9
  · subst c9
    rw [srC3_9, srC2_n (by omega), srC1_n (by omega) (by omega), srC2_15, srC1_17, srC1_n (by omega) (by omega), srC1_n (by omega) (by omega), ← hw, sc_ne (by omega), sc_ne (by omega), sc_ne (by omega), sc_uS, if_pos rfl]
  by_cases c15 : i = 15
  · subst c15
    rw [srC3_n (by omega), srC2_15, srC1_17, srC1_n (by omega) (by omega), srC1_n (by omega) (by omega), ← hw, sc_ne (by omega), sc_ne (by omega), sc_ne (by omega), sc_ne (by omega), ei, sc_uS, if_pos rfl]
  rw [srC3_n c9, srC2_n (by omega), srC1_n c16 c17, sc_ne c16, sc_ne c17, sc_ne c18, sc_ne c9, ei, sc_ne c15, srC1_n c16 c17]
theorem srC_li {b : Int32} : li (srC3 (srC2 (srC1 A b))) = li A := by
  unfold srC3 srC2 srC1
  funext j
  simp only [li_uS]
theorem srC_cn {b : Int32} : cn (srC3 (srC2 (srC1 A b))) = cn A := by
  unfold srC3 srC2 srC1
  simp only [cn_uS]
theorem srC_nt {b : Int32} : nt (srC3 (srC2 (srC1 A b))) = nt A := by
  unfold srC3 srC2 srC1
  simp only [nt_uS]
theorem srC_lw {b : Int32} : lw (srC3 (srC2 (srC1 A b))) = lw A := by
  unfold srC3 srC2 srC1
  simp only [lw_uS]
theorem srC_ad {b w v1 v2 v3 v4 : Int32} (hw : w = if sc A 17 + b < sc A 18 then - sc A 15 else sc A 15) (E : adE (uS (srC1 A b) 15 w) B) (e1 : v1 = mdI (sc A 9) (5 * w)) (e2 : v2 = sc A 17 + b) (e3 : v3 = 0) (e4 : v4 = 0) : adE (uS (uS (uS (uS B 9 v1) 18 v2) 17 v3) 16 v4) (srC3 (srC2 (srC1 A b))) := by
  subst e1 e2 e3 e4
  obtain ⟨q1, q2, q3, q4, q5⟩ := E
  have l1 : li (uS (srC1 A b) 15 w) = li A := by
    unfold srC1
    funext j
    simp only [li_uS]
  have c1 : cn (uS (srC1 A b) 15 w) = cn A := by
    unfold srC1
    simp only [cn_uS]
  have n1 : nt (uS (srC1 A b) 15 w) = nt A := by
    unfold srC1
    simp only [nt_uS]
  have w1 : lw (uS (srC1 A b) 15 w) = lw A := by
    unfold srC1
    simp only [lw_uS]
  rw [l1] at q2
  rw [c1] at q3
  rw [n1] at q4
  rw [w1] at q5
  refine ⟨srC_sc hw q1, fun p h1 h2 => ?_, fun k hk => ?_, fun k hk => ?_, ?_⟩
  · rw [srC_li, li_uS, li_uS, li_uS, li_uS, q2 p h1 h2]
  · rw [srC_cn, cn_uS, cn_uS, cn_uS, cn_uS, q3 k hk]
  · rw [srC_nt, nt_uS, nt_uS, nt_uS, nt_uS, q4 k hk]
  · rw [srC_lw, lw_uS, lw_uS, lw_uS, lw_uS, sc_ne (by omega), sc_ne (by omega), sc_ne (by omega), sc_ne (by omega), q1 23 (by omega)]
    rcases q5 with q | q
    · exact Or.inl q
    · exact Or.inr fun f => (q f).symm
theorem shV_srC3 (V : shV A) : shV (srC3 A) := by
  obtain ⟨n, n1, n2, n3⟩ := mdI_ok (sc A 9) (5 * sc A 15)
  obtain ⟨⟨a0, a1, a2⟩, -, c0, c1⟩ := V
  exact shV.mk (A := srC3 A) a0 a1 a2 n3 n1 n2 c0 c1
set_option maxHeartbeats 1000000 in
theorem c_M_climbs (H : md_ h m o A) (W : wdV A) (V : shV A) (ht : tot A ≤ 64) {per : Nat} (hp : sc A 12 = nI per) (hp2 : per ≤ 1000) {b : Int32} (hb : b = 0 ∨ b = 1) (d : Nat) : PM (d + 6) 204 [.ref m, .int b] h (fun v h' => v = none ∧ md_ h' m o (srC A b) ∧ fr1 h h' (m + 1)) := by
  have Hb := H
  obtain ⟨H0, f, H1, R⟩ := H
  have H0' := H0
  unfold mO at H0'
  have s12 : f 1682 = nI per := (R.s (i := 12) (by omega)).trans hp
  have s16 : f 1686 = sc A 16 := R.s (i := 16) (by omega)
  have eC : srC A b = if nI per < 1 then A else if sc A 16 + 1 < nI per then srC1 A b else fitF (srC3 (srC2 (srC1 A b))) := by
    unfold srC
    rw [hp]
  rw [eC]
  refine en_X12_climbs rfl rfl ?_
  by_cases z : per = 0
  · subst z
    have e0 : nI 0 = 0 := rfl
    rw [if_pos (by decide)]
    simp only [w_X12_climbs_0, w_X12_climbs_1, w_X12_climbs_4, w_X12_climbs_7, w_X12_climbs_8, w_X12_climbs_11, pm_1i_c, pm_2i_c, pm_1l_c, pm_2l_c, pm_1a_c, pm_ia_c, pm_iia_c, pm_va_c, pm_cp_c, pm_k0_c, pm_k1_c, pm_k2_c, pm_k3_c, pm_s1_c, pm_s2_c, pm_s3_c, pm_s4_c, pm_ri_c, pm_ra_c, pm_rn_c, pm_rk_i, pm_rk_z, pm_rk_a, pm_vk_i, pm_vk_z, pm_vk_a, pm_cti, pm_ctr, pm_ldi_z, pm_ldi_s, pm_lda_z, pm_lda_s, pm_cat_n, pm_cat_i, pm_cat_r, pm_cat_l, pm_obj, pm_arr, pm_opt, pm_ird, pm_aln, List.getElem?_cons_zero, List.getElem?_cons_succ, List.set_cons_zero, List.set_cons_succ, List.length_cons, List.length_nil, List.length_set, true_and, and_true, Nat.add_zero, Nat.zero_add, Nat.le_refl, Nat.reduceAdd, Nat.reduceLT, Nat.reduceLeDiff, Nat.zero_le, not_false_eq_true, not_true_eq_false, false_implies, implies_true, true_implies, Nat.zero_lt_succ, Nat.lt_add_one, H0', H1, ix_1682, vi_1682, s12, e0]
    exact ⟨Hb, fr1.rf⟩
  · have z1 : ¬ nI per < 1 := nI_nlt (b := 1) (by omega) (by omega)
    have z2 : ¬ nI per = 0 := nI_ne0 (by omega) (by omega)
    rw [if_neg z1]
    obtain ⟨g1, e1, l1, F1, M0, f1, M1, MR⟩ := md_.st H0 H1 R (i := 16) (by omega) (k := 1686) rfl (sc A 16 + 1)
    have M0' := M0
    unfold mO at M0'
    have s17 : f1 1687 = sc A 17 := MR.s (i := 17) (by omega)
    obtain ⟨g2, e2, l2, F2, N0, f2, N1, NR⟩ := md_.st M0 M1 MR (i := 17) (by omega) (k := 1687) rfl (sc A 17 + b)
    have N0' := N0
    unfold mO at N0'
    have t16 : f2 1686 = sc A 16 + 1 := NR.s (i := 16) (by omega)
    have t12 : f2 1682 = nI per := (NR.s (i := 12) (by omega)).trans hp
    have t17 : f2 1687 = sc A 17 + b := NR.s (i := 17) (by omega)
    have t18 : f2 1688 = sc A 18 := NR.s (i := 18) (by omega)
    have t15 : f2 1685 = sc A 15 := NR.s (i := 15) (by omega)
    have t9 : f2 1679 = sc A 9 := NR.s (i := 9) (by omega)
    have MB : md_ g2 m o (srC1 A b) := ⟨N0, f2, N1, NR⟩
    have fr : fr1 h g2 (m + 1) := F1.tr F2
    have first : W_X12_climbs (d + 5) (h.length + 0) 0 (fun v h' => v = none ∧ md_ h' m o (if sc A 16 + 1 < nI per then srC1 A b else fitF (srC3 (srC2 (srC1 A b)))) ∧ fr1 h h' (m + 1)) 44 [some (.ref m), some (.int b)] [] g2 0 := by
      by_cases c : sc A 16 + 1 < nI per
      · rw [if_pos c]
        simp only [w_X12_climbs_44, w_X12_climbs_45, w_X12_climbs_48, w_X12_climbs_51, w_X12_climbs_52, w_X12_climbs_53, w_X12_climbs_56, w_X12_climbs_59, w_X12_climbs_60, w_X12_climbs_63, pm_1i_c, pm_2i_c, pm_1l_c, pm_2l_c, pm_1a_c, pm_ia_c, pm_iia_c, pm_va_c, pm_cp_c, pm_k0_c, pm_k1_c, pm_k2_c, pm_k3_c, pm_s1_c, pm_s2_c, pm_s3_c, pm_s4_c, pm_ri_c, pm_ra_c, pm_rn_c, pm_rk_i, pm_rk_z, pm_rk_a, pm_vk_i, pm_vk_z, pm_vk_a, pm_cti, pm_ctr, pm_ldi_z, pm_ldi_s, pm_lda_z, pm_lda_s, pm_cat_n, pm_cat_i, pm_cat_r, pm_cat_l, pm_obj, pm_arr, pm_opt, pm_ird, pm_aln, List.getElem?_cons_zero, List.getElem?_cons_succ, List.set_cons_zero, List.set_cons_succ, List.length_cons, List.length_nil, List.length_set, true_and, and_true, Nat.add_zero, Nat.zero_add, Nat.le_refl, Nat.reduceAdd, Nat.reduceLT, Nat.reduceLeDiff, Nat.zero_le, not_false_eq_true, not_true_eq_false, false_implies, implies_true, true_implies, Nat.zero_lt_succ, Nat.lt_add_one, N0', N1, ix_1682, vi_1682, ix_1686, vi_1686, t16, t12, c, l1, l2]
        exact ⟨MB, fr⟩
      · rw [if_neg c]
        -- behind the way: B is the desk with the way as it shall be
        have tail : ∀ (g : pmH) (B : AD) (f : Nat → Int32), mO g m o → g[m + 1]? = some (.inl (0, 2195, .inl f)) → rep f B → g.length = h.length → fr1 h g (m + 1) → adE (uS (srC1 A b) 15 (if sc A 17 + b < sc A 18 then - sc A 15 else sc A 15)) B → W_X12_climbs (d + 5) (h.length + 0) 0 (fun v h' => v = none ∧ md_ h' m o (fitF (srC3 (srC2 (srC1 A b)))) ∧ fr1 h h' (m + 1)) 100 [some (.ref m), some (.int b)] [] g 0 := by
          intro g B f G0 G1 GR lg fg E
          have G0' := G0
          unfold mO at G0'
          obtain ⟨k1, E1, L1, X1, P0, p1, P1, PR⟩ := md_.st G0 G1 GR (i := 9) (by omega) (k := 1679) rfl (mdI (sc B 9) (5 * sc B 15))
          have P0' := P0
          unfold mO at P0'
          have b9 : f 1679 = sc B 9 := GR.s (i := 9) (by omega)
          have b15 : f 1685 = sc B 15 := GR.s (i := 15) (by omega)
          have c17 : p1 1687 = sc B 17 := PR.s (i := 17) (by omega)
          obtain ⟨k2, E2, L2, X2, Q0, p2, Q1, QR⟩ := md_.st P0 P1 PR (i := 18) (by omega) (k := 1688) rfl (sc B 17)
          have Q0' := Q0
          unfold mO at Q0'
          obtain ⟨k3, E3, L3, X3, U0, p3, U1, UR⟩ := md_.st Q0 Q1 QR (i := 17) (by omega) (k := 1687) rfl 0
          have U0' := U0
          unfold mO at U0'
          obtain ⟨k4, E4, L4, X4, Y0, p4, Y1, YR⟩ := md_.st U0 U1 UR (i := 16) (by omega) (k := 1686) rfl 0
          have Y0' := Y0
          unfold mO at Y0'
          have mm := mdI_mm (sc B 9 + 5 * sc B 15)
          have em : (if sc B 9 + 5 * sc B 15 < 1 then 1 else if 99 < sc B 9 + 5 * sc B 15 then 99 else sc B 9 + 5 * sc B 15) = mdI (sc B 9) (5 * sc B 15) := rfl
          rw [em] at mm
          have YY : md_ k4 m o (srC3 (srC2 (srC1 A b))) := by
            have e : ∀ i, i < 24 → sc B i = sc (uS (srC1 A b) 15 (if sc A 17 + b < sc A 18 then - sc A 15 else sc A 15)) i := E.1
            have y9 : sc B 9 = sc A 9 := by rw [e 9 (by omega), sc_ne (by omega), srC1_n (by omega) (by omega)]
            have y15 : sc B 15 = (if sc A 17 + b < sc A 18 then - sc A 15 else sc A 15) := by rw [e 15 (by omega), sc_uS, if_pos rfl]
            have y17 : sc B 17 = sc A 17 + b := by rw [e 17 (by omega), sc_ne (by omega), srC1_17]
            exact md_.ext (A := uS (uS (uS (uS B 9 (mdI (sc B 9) (5 * sc B 15))) 18 (sc B 17)) 17 0) 16 0) ⟨Y0, p4, Y1, YR⟩ (srC_ad rfl E (by rw [y9, y15]) y17 rfl rfl)
          simp only [w_X12_climbs_100, w_X12_climbs_101, w_X12_climbs_104, w_X12_climbs_107, w_X12_climbs_108, w_X12_climbs_110, w_X12_climbs_111, w_X12_climbs_114, w_X12_climbs_117, w_X12_climbs_118, w_X12_climbs_119, w_X12_climbs_120, w_X12_climbs_123, w_X12_climbs_126, w_X12_climbs_127, w_X12_climbs_128, w_X12_climbs_129, w_X12_climbs_132, w_X12_climbs_135, w_X12_climbs_136, w_X12_climbs_137, w_X12_climbs_140, w_X12_climbs_143, w_X12_climbs_144, w_X12_climbs_147, w_X12_climbs_150, w_X12_climbs_151, w_X12_climbs_152, w_X12_climbs_153, w_X12_climbs_156, w_X12_climbs_159, w_X12_climbs_160, w_X12_climbs_161, w_X12_climbs_162, w_X12_climbs_165, w_X12_climbs_168, w_X12_climbs_169, w_X12_climbs_170, w_X12_climbs_171, pm_1i_c, pm_2i_c, pm_1l_c, pm_2l_c, pm_1a_c, pm_ia_c, pm_iia_c, pm_va_c, pm_cp_c, pm_k0_c, pm_k1_c, pm_k2_c, pm_k3_c, pm_s1_c, pm_s2_c, pm_s3_c, pm_s4_c, pm_ri_c, pm_ra_c, pm_rn_c, pm_rk_i, pm_rk_z, pm_rk_a, pm_vk_i, pm_vk_z, pm_vk_a, pm_cti, pm_ctr, pm_ldi_z, pm_ldi_s, pm_lda_z, pm_lda_s, pm_cat_n, pm_cat_i, pm_cat_r, pm_cat_l, pm_obj, pm_arr, pm_opt, pm_ird, pm_aln, List.getElem?_cons_zero, List.getElem?_cons_succ, List.set_cons_zero, List.set_cons_succ, List.length_cons, List.length_nil, List.length_set, true_and, and_true, Nat.add_zero, Nat.zero_add, Nat.le_refl, Nat.reduceAdd, Nat.reduceLT, Nat.reduceLeDiff, Nat.zero_le, not_false_eq_true, not_true_eq_false, false_implies, implies_true, true_implies, Nat.zero_lt_succ, Nat.lt_add_one, G0', G1, ix_1679, vi_1679, ix_1685, vi_1685, b9, b15, mm, E1, P0', P1, ix_1687, vi_1687, ix_1688, vi_1688, c17, E2, Q0', Q1, E3, U0', U1, ix_1686, vi_1686, E4, Y0', lg, L1, L2, L3, L4]
          refine PM_use (c_M_fits YY W (shV_srC3 (A := srC2 (srC1 A b)) V) ht d) ?_
          rintro x k5 L5 ⟨rfl, Z1, Z2⟩
          show W_X12_climbs _ _ _ _ _ _ _ _ _
          simp only [w_X12_climbs_174, pm_1i_c, pm_2i_c, pm_1l_c, pm_2l_c, pm_1a_c, pm_ia_c, pm_iia_c, pm_va_c, pm_cp_c, pm_k0_c, pm_k1_c, pm_k2_c, pm_k3_c, pm_s1_c, pm_s2_c, pm_s3_c, pm_s4_c, pm_ri_c, pm_ra_c, pm_rn_c, pm_rk_i, pm_rk_z, pm_rk_a, pm_vk_i, pm_vk_z, pm_vk_a, pm_cti, pm_ctr, pm_ldi_z, pm_ldi_s, pm_lda_z, pm_lda_s, pm_cat_n, pm_cat_i, pm_cat_r, pm_cat_l, pm_obj, pm_arr, pm_opt, pm_ird, pm_aln, List.getElem?_cons_zero, List.getElem?_cons_succ, List.set_cons_zero, List.set_cons_succ, List.length_cons, List.length_nil, List.length_set, true_and, and_true, Nat.add_zero, Nat.zero_add, Nat.le_refl, Nat.reduceAdd, Nat.reduceLT, Nat.reduceLeDiff, Nat.zero_le, not_false_eq_true, not_true_eq_false, false_implies, implies_true, true_implies, Nat.zero_lt_succ, Nat.lt_add_one, pm_tl_n, pm_tl_s, sc_uL, lg, L1, L2, L3, L4, L5]
          exact ⟨Z1, ((((fg.tr X1).tr X2).tr X3).tr X4).tr Z2⟩
        by_cases w : sc A 17 + b < sc A 18
        · obtain ⟨k1, E1, L1, X1, P0, p1, P1, PR⟩ := md_.st N0 N1 NR (i := 15) (by omega) (k := 1685) rfl (- sc A 15)
          simp only [w_X12_climbs_44, w_X12_climbs_45, w_X12_climbs_48, w_X12_climbs_51, w_X12_climbs_52, w_X12_climbs_53, w_X12_climbs_56, w_X12_climbs_59, w_X12_climbs_60, w_X12_climbs_63, w_X12_climbs_64, w_X12_climbs_65, w_X12_climbs_68, w_X12_climbs_71, w_X12_climbs_72, w_X12_climbs_73, w_X12_climbs_76, w_X12_climbs_79, w_X12_climbs_80, w_X12_climbs_83, w_X12_climbs_84, w_X12_climbs_87, w_X12_climbs_90, w_X12_climbs_91, w_X12_climbs_94, w_X12_climbs_97, w_X12_climbs_98, w_X12_climbs_99, pm_1i_c, pm_2i_c, pm_1l_c, pm_2l_c, pm_1a_c, pm_ia_c, pm_iia_c, pm_va_c, pm_cp_c, pm_k0_c, pm_k1_c, pm_k2_c, pm_k3_c, pm_s1_c, pm_s2_c, pm_s3_c, pm_s4_c, pm_ri_c, pm_ra_c, pm_rn_c, pm_rk_i, pm_rk_z, pm_rk_a, pm_vk_i, pm_vk_z, pm_vk_a, pm_cti, pm_ctr, pm_ldi_z, pm_ldi_s, pm_lda_z, pm_lda_s, pm_cat_n, pm_cat_i, pm_cat_r, pm_cat_l, pm_obj, pm_arr, pm_opt, pm_ird, pm_aln, List.getElem?_cons_zero, List.getElem?_cons_succ, List.set_cons_zero, List.set_cons_succ, List.length_cons, List.length_nil, List.length_set, true_and, and_true, Nat.add_zero, Nat.zero_add, Nat.le_refl, Nat.reduceAdd, Nat.reduceLT, Nat.reduceLeDiff, Nat.zero_le, not_false_eq_true, not_true_eq_false, false_implies, implies_true, true_implies, Nat.zero_lt_succ, Nat.lt_add_one, N0', N1, ix_1682, vi_1682, ix_1686, vi_1686, ix_1687, vi_1687, ix_1688, vi_1688, ix_1685, vi_1685, t15, t16, t12, t17, t18, c, w, E1, l1, l2]
          refine tail k1 _ p1 P0 P1 PR (by omega) (fr.tr X1) ?_
          rw [if_pos w]
          exact ⟨fun _ _ => rfl, fun _ _ _ => rfl, fun _ _ => rfl, fun _ _ => rfl, Or.inr fun _ => rfl⟩
        · simp only [w_X12_climbs_44, w_X12_climbs_45, w_X12_climbs_48, w_X12_climbs_51, w_X12_climbs_52, w_X12_climbs_53, w_X12_climbs_56, w_X12_climbs_59, w_X12_climbs_60, w_X12_climbs_63, w_X12_climbs_64, w_X12_climbs_65, w_X12_climbs_68, w_X12_climbs_71, w_X12_climbs_72, w_X12_climbs_73, w_X12_climbs_76, w_X12_climbs_79, w_X12_climbs_80, pm_1i_c, pm_2i_c, pm_1l_c, pm_2l_c, pm_1a_c, pm_ia_c, pm_iia_c, pm_va_c, pm_cp_c, pm_k0_c, pm_k1_c, pm_k2_c, pm_k3_c, pm_s1_c, pm_s2_c, pm_s3_c, pm_s4_c, pm_ri_c, pm_ra_c, pm_rn_c, pm_rk_i, pm_rk_z, pm_rk_a, pm_vk_i, pm_vk_z, pm_vk_a, pm_cti, pm_ctr, pm_ldi_z, pm_ldi_s, pm_lda_z, pm_lda_s, pm_cat_n, pm_cat_i, pm_cat_r, pm_cat_l, pm_obj, pm_arr, pm_opt, pm_ird, pm_aln, List.getElem?_cons_zero, List.getElem?_cons_succ, List.set_cons_zero, List.set_cons_succ, List.length_cons, List.length_nil, List.length_set, true_and, and_true, Nat.add_zero, Nat.zero_add, Nat.le_refl, Nat.reduceAdd, Nat.reduceLT, Nat.reduceLeDiff, Nat.zero_le, not_false_eq_true, not_true_eq_false, false_implies, implies_true, true_implies, Nat.zero_lt_succ, Nat.lt_add_one, N0', N1, ix_1682, vi_1682, ix_1686, vi_1686, ix_1687, vi_1687, ix_1688, vi_1688, t16, t12, t17, t18, c, w, l1, l2]
          refine tail g2 _ f2 N0 N1 NR (by omega) fr ?_
          rw [if_neg w]
          exact ⟨all24 rfl rfl rfl rfl rfl rfl rfl rfl rfl rfl rfl rfl rfl rfl rfl rfl rfl rfl rfl rfl rfl rfl rfl rfl, fun _ _ _ => rfl, fun _ _ => rfl, fun _ _ => rfl, Or.inr fun _ => rfl⟩
    rcases hb with rfl | rfl
    · simp only [w_X12_climbs_0, w_X12_climbs_1, w_X12_climbs_4, w_X12_climbs_7, w_X12_climbs_8, w_X12_climbs_12, w_X12_climbs_13, w_X12_climbs_16, w_X12_climbs_19, w_X12_climbs_20, w_X12_climbs_21, w_X12_climbs_22, w_X12_climbs_23, w_X12_climbs_24, w_X12_climbs_25, w_X12_climbs_28, w_X12_climbs_31, w_X12_climbs_32, w_X12_climbs_33, w_X12_climbs_34, w_X12_climbs_37, w_X12_climbs_38, w_X12_climbs_41, w_X12_climbs_42, w_X12_climbs_43, pm_1i_c, pm_2i_c, pm_1l_c, pm_2l_c, pm_1a_c, pm_ia_c, pm_iia_c, pm_va_c, pm_cp_c, pm_k0_c, pm_k1_c, pm_k2_c, pm_k3_c, pm_s1_c, pm_s2_c, pm_s3_c, pm_s4_c, pm_ri_c, pm_ra_c, pm_rn_c, pm_rk_i, pm_rk_z, pm_rk_a, pm_vk_i, pm_vk_z, pm_vk_a, pm_cti, pm_ctr, pm_ldi_z, pm_ldi_s, pm_lda_z, pm_lda_s, pm_cat_n, pm_cat_i, pm_cat_r, pm_cat_l, pm_obj, pm_arr, pm_opt, pm_ird, pm_aln, List.getElem?_cons_zero, List.getElem?_cons_succ, List.set_cons_zero, List.set_cons_succ, List.length_cons, List.length_nil, List.length_set, true_and, and_true, Nat.add_zero, Nat.zero_add, Nat.le_refl, Nat.reduceAdd, Nat.reduceLT, Nat.reduceLeDiff, Nat.zero_le, not_false_eq_true, not_true_eq_false, false_implies, implies_true, true_implies, Nat.zero_lt_succ, Nat.lt_add_one, H0', H1, ix_1682, vi_1682, s12, z2, ix_1686, vi_1686, s16, e1, M0', M1, ix_1687, vi_1687, s17, e2]
      exact first
    · simp only [w_X12_climbs_0, w_X12_climbs_1, w_X12_climbs_4, w_X12_climbs_7, w_X12_climbs_8, w_X12_climbs_12, w_X12_climbs_13, w_X12_climbs_16, w_X12_climbs_19, w_X12_climbs_20, w_X12_climbs_21, w_X12_climbs_22, w_X12_climbs_23, w_X12_climbs_24, w_X12_climbs_25, w_X12_climbs_28, w_X12_climbs_31, w_X12_climbs_32, w_X12_climbs_33, w_X12_climbs_34, w_X12_climbs_37, w_X12_climbs_38, w_X12_climbs_41, w_X12_climbs_42, w_X12_climbs_43, pm_1i_c, pm_2i_c, pm_1l_c, pm_2l_c, pm_1a_c, pm_ia_c, pm_iia_c, pm_va_c, pm_cp_c, pm_k0_c, pm_k1_c, pm_k2_c, pm_k3_c, pm_s1_c, pm_s2_c, pm_s3_c, pm_s4_c, pm_ri_c, pm_ra_c, pm_rn_c, pm_rk_i, pm_rk_z, pm_rk_a, pm_vk_i, pm_vk_z, pm_vk_a, pm_cti, pm_ctr, pm_ldi_z, pm_ldi_s, pm_lda_z, pm_lda_s, pm_cat_n, pm_cat_i, pm_cat_r, pm_cat_l, pm_obj, pm_arr, pm_opt, pm_ird, pm_aln, List.getElem?_cons_zero, List.getElem?_cons_succ, List.set_cons_zero, List.set_cons_succ, List.length_cons, List.length_nil, List.length_set, true_and, and_true, Nat.add_zero, Nat.zero_add, Nat.le_refl, Nat.reduceAdd, Nat.reduceLT, Nat.reduceLeDiff, Nat.zero_le, not_false_eq_true, not_true_eq_false, false_implies, implies_true, true_implies, Nat.zero_lt_succ, Nat.lt_add_one, H0', H1, ix_1682, vi_1682, s12, z2, ix_1686, vi_1686, s16, e1, M0', M1, ix_1687, vi_1687, s17, e2, show ¬ (1 : Int32) = 0 by decide]
      exact first
end MJ
