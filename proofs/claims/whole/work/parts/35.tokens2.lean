/-! Tokens: the object. -/
abbrev TS : Type := List Int32 × List Int32 × List Int32
def tk_ (h : pmH) (Tk : Nat) (t : TS) (tb : Int32) (ix : Nat) (ft : Int32) : Prop := h[Tk]? = some (.inr (9, [.ref (Tk + 1), .ref (Tk + 3), .ref (Tk + 5), .int tb, .int (nI ix), .int ft])) ∧ rw_ h (Tk + 1) 400 t.1 ∧ rw_ h (Tk + 3) 400 t.2.1 ∧ rw_ h (Tk + 5) 400 t.2.2
/-- one token more: its kind, its number, its start -/
def tkA (t : TS) (k n s : Int32) : TS := (t.1 ++ [k], t.2.1 ++ [s], t.2.2 ++ [n])
def coF (bs : List Int32) (dm : Int32) (k : Nat) (t : TS) : Nat × TS :=
  let x := bs.getD k (-1)
  if x = 9 ∨ x = 10 ∨ x = 32 then (k + 1, t) else
  if isD x = true then
    (beR isD bs k, if dm < nI (beR isD bs k - k) then tkA t 268 0 (nI k) else tkA t 267 (nuF bs k (beR isD bs k)) (nI k)) else
  if isL x = true then (beR isL bs k, tkA t (woF bs k (beR isL bs k)) 0 (nI k)) else
  (k + 1, tkA t x 0 (nI k))
def cuG (bs : List Int32) (dm : Int32) : Nat → Nat → TS → TS
  | 0, _, t => t
  | f + 1, k, t => if k < bs.length then cuG bs dm f (coF bs dm k t).1 (coF bs dm k t).2 else t
theorem cuG_s (bs : List Int32) (dm : Int32) (f k : Nat) (t : TS) : cuG bs dm (f + 1) k t = if k < bs.length then cuG bs dm f (coF bs dm k t).1 (coF bs dm k t).2 else t := rfl
def cuF (bs : List Int32) (dm : Int32) : TS := cuG bs dm 400 0 ([], [], [])
def frT (h h' : pmH) (Tk : Nat) : Prop := ∀ i, i < Tk ∨ Tk + 7 ≤ i → h'[i]? = h[i]?
theorem frT.rf {h : pmH} {Tk : Nat} : frT h h Tk := fun _ _ => rfl
theorem frT.tr {h h1 h2 : pmH} {Tk : Nat} (x : frT h h1 Tk) (y : frT h1 h2 Tk) : frT h h2 Tk := fun i p => (y i p).trans (x i p)
abbrev PS : Type := Nat × Int32
def taB (K : List Int32) (k : Int32) (s : PS) : Bool := decide (s.2 = -1 ∧ K.getD s.1 (-1) = k)
def taF (K : List Int32) (k : Int32) (s : PS) : PS := if taB K k s = true then (s.1 + 1, s.2) else s
def faF (t : Int32) (s : PS) : PS := if s.2 = -1 then (s.1, t) else s
def neF (K : List Int32) (k : Int32) (s : PS) : PS := if taB K k s = true then (s.1 + 1, s.2) else faF (nI s.1) s
def nnV (K N : List Int32) (s : PS) : Int32 := if taB K 267 s = true then N.getD s.1 (-1) else 0
def kiF (K : List Int32) (s : PS) : Int32 := if s.2 = -1 then K.getD s.1 (-1) else 268
def fbF (S : List Int32) (tb ft : Int32) : Int32 := if ft < nI S.length then rw_get S ft else tb
section TL
variable {h h' : pmH} {Tk P : Nat} {t : TS} {tb : Int32} {ix : Nat} {ft : Int32} {bs X : List Int32}
theorem tk_.uk (T : tk_ h Tk t tb ix ft) (K : rw_ h' (Tk + 1) 400 X) (f : fr2 h h' (Tk + 1)) : tk_ h' Tk (X, t.2.1, t.2.2) tb ix ft ∧ frT h h' Tk := ⟨⟨(f _ (by omega) (by omega)).trans T.1, K, T.2.2.1.kept (f _ (by omega) (by omega)) (f _ (by omega) (by omega)), T.2.2.2.kept (f _ (by omega) (by omega)) (f _ (by omega) (by omega))⟩, fun i hi => f i (by omega) (by omega)⟩
theorem tk_.us (T : tk_ h Tk t tb ix ft) (K : rw_ h' (Tk + 3) 400 X) (f : fr2 h h' (Tk + 3)) : tk_ h' Tk (t.1, X, t.2.2) tb ix ft ∧ frT h h' Tk := ⟨⟨(f _ (by omega) (by omega)).trans T.1, T.2.1.kept (f _ (by omega) (by omega)) (f _ (by omega) (by omega)), K, T.2.2.2.kept (f _ (by omega) (by omega)) (f _ (by omega) (by omega))⟩, fun i hi => f i (by omega) (by omega)⟩
theorem tk_.un (T : tk_ h Tk t tb ix ft) (K : rw_ h' (Tk + 5) 400 X) (f : fr2 h h' (Tk + 5)) : tk_ h' Tk (t.1, t.2.1, X) tb ix ft ∧ frT h h' Tk := ⟨⟨(f _ (by omega) (by omega)).trans T.1, T.2.1.kept (f _ (by omega) (by omega)) (f _ (by omega) (by omega)), T.2.2.1.kept (f _ (by omega) (by omega)) (f _ (by omega) (by omega)), K⟩, fun i hi => f i (by omega) (by omega)⟩
theorem tk_.uo (T : tk_ h Tk t tb ix ft) (tb' : Int32) (ix' : Nat) (ft' : Int32) : ∃ h1, h.set Tk (.inr (9, [.ref (Tk + 1), .ref (Tk + 3), .ref (Tk + 5), .int tb', .int (nI ix'), .int ft'])) = h1 ∧ h1.length = h.length ∧ frT h h1 Tk ∧ tk_ h1 Tk t tb' ix' ft' := by
  refine ⟨_, rfl, List.length_set, fun i hi => hset_n (by omega), ?_, T.2.1.kept (hset_n (by omega)) (hset_n (by omega)), T.2.2.1.kept (hset_n (by omega)) (hset_n (by omega)), T.2.2.2.kept (hset_n (by omega)) (hset_n (by omega))⟩
  rw [hset_s, T.1]
  rfl
theorem frT_k (f : fr2 h h' P) (a : Tk ≤ P) (b : P + 1 < Tk + 7) : frT h h' Tk := fun i hi => f i (by omega) (by omega)
theorem beR_le (p : Int32 → Bool) {k : Nat} (hk : k < bs.length) : k ≤ beR p bs k ∧ beR p bs k ≤ bs.length := by
  have := beG_le p bs (bs.length - k) k
  unfold beR
  omega
theorem beR_lt (p : Int32 → Bool) {k : Nat} (hk : k < bs.length) (hp : p (bs.getD k (-1)) = true) : k < beR p bs k := by
  obtain ⟨f, hf⟩ : ∃ f, bs.length - k = f + 1 := ⟨bs.length - k - 1, by omega⟩
  have := beG_le p bs f (k + 1)
  have e : beR p bs k = beG p bs f (k + 1) := by
    unfold beR
    rw [hf]
    exact if_pos hp
  omega
theorem coF_in {dm : Int32} {k : Nat} (hk : k < bs.length) : k < (coF bs dm k t).1 ∧ (coF bs dm k t).1 ≤ bs.length := by
  unfold coF
  dsimp only
  split
  · exact ⟨Nat.lt_succ_self _, hk⟩
  · split
    · rename_i c
      exact ⟨beR_lt isD hk c, (beR_le isD hk).2⟩
    · split
      · rename_i c
        exact ⟨beR_lt isL hk c, (beR_le isL hk).2⟩
      · exact ⟨Nat.lt_succ_self _, hk⟩
set_option maxHeartbeats 2000000 in
theorem c_T_cutOne (T : tk_ h Tk t tb ix ft) (R : rw_ h P 400 bs) (nd : P + 1 < Tk ∨ Tk + 6 < P) {k : Nat} (hk : k < bs.length) (hK : t.1.length ≤ k) (hS : t.2.1.length ≤ k) (hN : t.2.2.length ≤ k) (dm : Int32) (d : Nat) : PM (d + 4) 97 [.ref Tk, .ref P, .int (nI k), .int dm] h (fun v h' => v = some (.int (nI (coF bs dm k t).1)) ∧ tk_ h' Tk (coF bs dm k t).2 tb ix ft ∧ frT h h' Tk) := by
  refine en_X9_cutOne rfl rfl rfl rfl ?_
  have ro := R.o
  have len := R.le
  -- behind kind and number: the start, and the end
  have fin : ∀ (hh : pmH) (b : Nat) (x n : Int32) (x4 x6 : Option Value), tk_ hh Tk (t.1 ++ [x], t.2.1, t.2.2 ++ [n]) tb ix ft → hh.length = h.length → frT h hh Tk → (coF bs dm k t) = (b, tkA t x n (nI k)) → W_X9_cutOne (d + 3) (h.length + 0) 0 (fun v h' => v = some (.int (nI (coF bs dm k t).1)) ∧ tk_ h' Tk (coF bs dm k t).2 tb ix ft ∧ frT h h' Tk) 171 [some (.ref Tk), some (.ref P), some (.int (nI k)), some (.int dm), x4, some (.int (nI b)), x6] [] hh 0 := by
    intro hh b x n x4 x6 T1 q1 q2 e
    have to := T1.1
    have so := T1.2.2.1.o
    simp only [w_X9_cutOne_171, w_X9_cutOne_172, w_X9_cutOne_175, w_X9_cutOne_176, w_X9_cutOne_179, w_X9_cutOne_181, pm_1i_c, pm_2i_c, pm_1l_c, pm_2l_c, pm_1a_c, pm_ia_c, pm_iia_c, pm_va_c, pm_cp_c, pm_k0_c, pm_k1_c, pm_k2_c, pm_k3_c, pm_s1_c, pm_s2_c, pm_s3_c, pm_s4_c, pm_ri_c, pm_ra_c, pm_rn_c, pm_rk_i, pm_rk_z, pm_rk_a, pm_vk_i, pm_vk_z, pm_vk_a, pm_cti, pm_ctr, pm_ldi_z, pm_ldi_s, pm_lda_z, pm_lda_s, pm_cat_n, pm_cat_i, pm_cat_r, pm_cat_l, pm_obj, pm_arr, pm_opt, pm_ird, pm_aln, List.getElem?_cons_zero, List.getElem?_cons_succ, List.set_cons_zero, List.set_cons_succ, List.length_cons, List.length_nil, List.length_set, true_and, and_true, Nat.add_zero, Nat.zero_add, Nat.le_refl, Nat.reduceAdd, Nat.reduceLT, Nat.reduceLeDiff, Nat.zero_le, not_false_eq_true, not_true_eq_false, false_implies, implies_true, true_implies, Nat.zero_lt_succ, Nat.lt_add_one, to, so, q1]
    refine PM_use (c_Row_append T1.2.2.1 (nI k) (d + 2)) ?_
    rintro v h1 l1 ⟨rfl, K1, K2⟩
    rw [if_pos (by show t.2.1.length < 400; omega)] at K1
    obtain ⟨T2, f2⟩ := T1.us K1 K2
    show W_X9_cutOne _ _ _ _ _ _ _ _ _
    simp only [w_X9_cutOne_179, w_X9_cutOne_181, pm_1i_c, pm_2i_c, pm_1l_c, pm_2l_c, pm_1a_c, pm_ia_c, pm_iia_c, pm_va_c, pm_cp_c, pm_k0_c, pm_k1_c, pm_k2_c, pm_k3_c, pm_s1_c, pm_s2_c, pm_s3_c, pm_s4_c, pm_ri_c, pm_ra_c, pm_rn_c, pm_rk_i, pm_rk_z, pm_rk_a, pm_vk_i, pm_vk_z, pm_vk_a, pm_cti, pm_ctr, pm_ldi_z, pm_ldi_s, pm_lda_z, pm_lda_s, pm_cat_n, pm_cat_i, pm_cat_r, pm_cat_l, pm_obj, pm_arr, pm_opt, pm_ird, pm_aln, List.getElem?_cons_zero, List.getElem?_cons_succ, List.set_cons_zero, List.set_cons_succ, List.length_cons, List.length_nil, List.length_set, true_and, and_true, Nat.add_zero, Nat.zero_add, Nat.le_refl, Nat.reduceAdd, Nat.reduceLT, Nat.reduceLeDiff, Nat.zero_le, not_false_eq_true, not_true_eq_false, false_implies, implies_true, true_implies, Nat.zero_lt_succ, Nat.lt_add_one, pm_tl_n, pm_tl_s, sc_uL, l1, q1]
    rw [e]
    exact ⟨rfl, T2, q2.tr f2⟩
  have to := T.1
  have e9 : ∀ x, bs.getD k (-1) = x → bs.getD k (-1) = x := fun _ z => z
  have hcof : ∀ (c : ¬ (bs.getD k (-1) = 9 ∨ bs.getD k (-1) = 10 ∨ bs.getD k (-1) = 32)), coF bs dm k t = if isD (bs.getD k (-1)) = true then (beR isD bs k, if dm < nI (beR isD bs k - k) then tkA t 268 0 (nI k) else tkA t 267 (nuF bs k (beR isD bs k)) (nI k)) else if isL (bs.getD k (-1)) = true then (beR isL bs k, tkA t (woF bs k (beR isL bs k)) 0 (nI k)) else (k + 1, tkA t (bs.getD k (-1)) 0 (nI k)) := fun c => if_neg c
  simp only [w_X9_cutOne_0, w_X9_cutOne_1, w_X9_cutOne_2, pm_1i_c, pm_2i_c, pm_1l_c, pm_2l_c, pm_1a_c, pm_ia_c, pm_iia_c, pm_va_c, pm_cp_c, pm_k0_c, pm_k1_c, pm_k2_c, pm_k3_c, pm_s1_c, pm_s2_c, pm_s3_c, pm_s4_c, pm_ri_c, pm_ra_c, pm_rn_c, pm_rk_i, pm_rk_z, pm_rk_a, pm_vk_i, pm_vk_z, pm_vk_a, pm_cti, pm_ctr, pm_ldi_z, pm_ldi_s, pm_lda_z, pm_lda_s, pm_cat_n, pm_cat_i, pm_cat_r, pm_cat_l, pm_obj, pm_arr, pm_opt, pm_ird, pm_aln, List.getElem?_cons_zero, List.getElem?_cons_succ, List.set_cons_zero, List.set_cons_succ, List.length_cons, List.length_nil, List.length_set, true_and, and_true, Nat.add_zero, Nat.zero_add, Nat.le_refl, Nat.reduceAdd, Nat.reduceLT, Nat.reduceLeDiff, Nat.zero_le, not_false_eq_true, not_true_eq_false, false_implies, implies_true, true_implies, Nat.zero_lt_succ, Nat.lt_add_one, ro]
  refine PM_use (c_Row_get R (nI k) (d + 2)) ?_
  rintro v h1 l1 ⟨rfl, rfl⟩
  rw [rw_getN (by omega)]
  by_cases c : bs.getD k (-1) = 9 ∨ bs.getD k (-1) = 10 ∨ bs.getD k (-1) = 32
  · have e : coF bs dm k t = (k + 1, t) := if_pos c
    rw [e]
    show W_X9_cutOne _ _ _ _ _ _ _ _ _
    simp only [w_X9_cutOne_5, w_X9_cutOne_7, w_X9_cutOne_9, w_X9_cutOne_11, w_X9_cutOne_14, w_X9_cutOne_16, w_X9_cutOne_18, w_X9_cutOne_21, w_X9_cutOne_23, w_X9_cutOne_25, w_X9_cutOne_28, w_X9_cutOne_29, w_X9_cutOne_30, w_X9_cutOne_31, pm_1i_c, pm_2i_c, pm_1l_c, pm_2l_c, pm_1a_c, pm_ia_c, pm_iia_c, pm_va_c, pm_cp_c, pm_k0_c, pm_k1_c, pm_k2_c, pm_k3_c, pm_s1_c, pm_s2_c, pm_s3_c, pm_s4_c, pm_ri_c, pm_ra_c, pm_rn_c, pm_rk_i, pm_rk_z, pm_rk_a, pm_vk_i, pm_vk_z, pm_vk_a, pm_cti, pm_ctr, pm_ldi_z, pm_ldi_s, pm_lda_z, pm_lda_s, pm_cat_n, pm_cat_i, pm_cat_r, pm_cat_l, pm_obj, pm_arr, pm_opt, pm_ird, pm_aln, List.getElem?_cons_zero, List.getElem?_cons_succ, List.set_cons_zero, List.set_cons_succ, List.length_cons, List.length_nil, List.length_set, true_and, and_true, Nat.add_zero, Nat.zero_add, Nat.le_refl, Nat.reduceAdd, Nat.reduceLT, Nat.reduceLeDiff, Nat.zero_le, not_false_eq_true, not_true_eq_false, false_implies, implies_true, true_implies, Nat.zero_lt_succ, Nat.lt_add_one, pm_tl_n, pm_tl_s, sc_uL, nI_1]
    refine ⟨fun _ => ⟨T, frT.rf⟩, fun c1 => ⟨fun _ => ⟨T, frT.rf⟩, fun c2 => ⟨fun c3 => ?_, fun _ => ⟨T, frT.rf⟩⟩⟩⟩
    exact absurd c (fun z => z.elim c1 (fun y => y.elim c2 c3))
  · have e := hcof c
    have n1 : ¬ bs.getD k (-1) = 9 := fun z => c (Or.inl z)
    have n2 : ¬ bs.getD k (-1) = 10 := fun z => c (Or.inr (Or.inl z))
    have n3 : ¬ bs.getD k (-1) = 32 := fun z => c (Or.inr (Or.inr z))
    have be := beR_le (bs := bs) isD hk
    have bl := beR_le (bs := bs) isL hk
    show W_X9_cutOne _ _ _ _ _ _ _ _ _
    simp only [w_X9_cutOne_5, w_X9_cutOne_7, w_X9_cutOne_9, w_X9_cutOne_11, w_X9_cutOne_14, w_X9_cutOne_16, w_X9_cutOne_18, w_X9_cutOne_21, w_X9_cutOne_23, w_X9_cutOne_25, w_X9_cutOne_28, w_X9_cutOne_29, w_X9_cutOne_30, w_X9_cutOne_31, w_X9_cutOne_32, w_X9_cutOne_33, w_X9_cutOne_34, w_X9_cutOne_35, w_X9_cutOne_37, w_X9_cutOne_39, pm_1i_c, pm_2i_c, pm_1l_c, pm_2l_c, pm_1a_c, pm_ia_c, pm_iia_c, pm_va_c, pm_cp_c, pm_k0_c, pm_k1_c, pm_k2_c, pm_k3_c, pm_s1_c, pm_s2_c, pm_s3_c, pm_s4_c, pm_ri_c, pm_ra_c, pm_rn_c, pm_rk_i, pm_rk_z, pm_rk_a, pm_vk_i, pm_vk_z, pm_vk_a, pm_cti, pm_ctr, pm_ldi_z, pm_ldi_s, pm_lda_z, pm_lda_s, pm_cat_n, pm_cat_i, pm_cat_r, pm_cat_l, pm_obj, pm_arr, pm_opt, pm_ird, pm_aln, List.getElem?_cons_zero, List.getElem?_cons_succ, List.set_cons_zero, List.set_cons_succ, List.length_cons, List.length_nil, List.length_set, true_and, and_true, Nat.add_zero, Nat.zero_add, Nat.le_refl, Nat.reduceAdd, Nat.reduceLT, Nat.reduceLeDiff, Nat.zero_le, not_false_eq_true, not_true_eq_false, false_implies, implies_true, true_implies, Nat.zero_lt_succ, Nat.lt_add_one, pm_tl_n, pm_tl_s, sc_uL, n1, n2, n3, nI_1]
    refine PM_use (c_T_isDigit (bs.getD k (-1)) (d + 2)) ?_
    rintro v h1 l1 ⟨rfl, rfl⟩
    rcases Bool.eq_false_or_eq_true (isD (bs.getD k (-1))) with cd | cd
    · rw [if_pos cd] at e
      simp only [cd, if_true]
      show W_X9_cutOne _ _ _ _ _ _ _ _ _
      simp only [w_X9_cutOne_42, w_X9_cutOne_45, w_X9_cutOne_46, w_X9_cutOne_47, pm_1i_c, pm_2i_c, pm_1l_c, pm_2l_c, pm_1a_c, pm_ia_c, pm_iia_c, pm_va_c, pm_cp_c, pm_k0_c, pm_k1_c, pm_k2_c, pm_k3_c, pm_s1_c, pm_s2_c, pm_s3_c, pm_s4_c, pm_ri_c, pm_ra_c, pm_rn_c, pm_rk_i, pm_rk_z, pm_rk_a, pm_vk_i, pm_vk_z, pm_vk_a, pm_cti, pm_ctr, pm_ldi_z, pm_ldi_s, pm_lda_z, pm_lda_s, pm_cat_n, pm_cat_i, pm_cat_r, pm_cat_l, pm_obj, pm_arr, pm_opt, pm_ird, pm_aln, List.getElem?_cons_zero, List.getElem?_cons_succ, List.set_cons_zero, List.set_cons_succ, List.length_cons, List.length_nil, List.length_set, true_and, and_true, Nat.add_zero, Nat.zero_add, Nat.le_refl, Nat.reduceAdd, Nat.reduceLT, Nat.reduceLeDiff, Nat.zero_le, not_false_eq_true, not_true_eq_false, false_implies, implies_true, true_implies, Nat.zero_lt_succ, Nat.lt_add_one, pm_tl_n, pm_tl_s, sc_uL, show ¬ (1 : Int32) = 0 by decide]
      refine PM_use (c_T_behindDigits R (a := k) (by omega) (d + 1)) ?_
      rintro v h1 l1 ⟨rfl, rfl⟩
      have ko := T.2.1.o
      by_cases cm : dm < nI (beR isD bs k - k)
      · rw [if_pos cm] at e
        show W_X9_cutOne _ _ _ _ _ _ _ _ _
        simp only [w_X9_cutOne_50, w_X9_cutOne_52, w_X9_cutOne_54, w_X9_cutOne_55, w_X9_cutOne_56, w_X9_cutOne_57, w_X9_cutOne_60, w_X9_cutOne_61, w_X9_cutOne_64, w_X9_cutOne_65, w_X9_cutOne_67, w_X9_cutOne_68, w_X9_cutOne_71, w_X9_cutOne_73, w_X9_cutOne_76, w_X9_cutOne_79, w_X9_cutOne_82, w_X9_cutOne_85, pm_1i_c, pm_2i_c, pm_1l_c, pm_2l_c, pm_1a_c, pm_ia_c, pm_iia_c, pm_va_c, pm_cp_c, pm_k0_c, pm_k1_c, pm_k2_c, pm_k3_c, pm_s1_c, pm_s2_c, pm_s3_c, pm_s4_c, pm_ri_c, pm_ra_c, pm_rn_c, pm_rk_i, pm_rk_z, pm_rk_a, pm_vk_i, pm_vk_z, pm_vk_a, pm_cti, pm_ctr, pm_ldi_z, pm_ldi_s, pm_lda_z, pm_lda_s, pm_cat_n, pm_cat_i, pm_cat_r, pm_cat_l, pm_obj, pm_arr, pm_opt, pm_ird, pm_aln, List.getElem?_cons_zero, List.getElem?_cons_succ, List.set_cons_zero, List.set_cons_succ, List.length_cons, List.length_nil, List.length_set, true_and, and_true, Nat.add_zero, Nat.zero_add, Nat.le_refl, Nat.reduceAdd, Nat.reduceLT, Nat.reduceLeDiff, Nat.zero_le, not_false_eq_true, not_true_eq_false, false_implies, implies_true, true_implies, Nat.zero_lt_succ, Nat.lt_add_one, pm_tl_n, pm_tl_s, sc_uL, pk_sub be.1, cm, to, ko]
        refine PM_use (c_Row_append T.2.1 268 (d + 2)) ?_
        rintro v h2 l2 ⟨rfl, K1, K2⟩
        rw [if_pos (by omega)] at K1
        obtain ⟨T2, f2⟩ := T.uk K1 K2
        have to2 := T2.1
        have no2 := T2.2.2.2.o
        show W_X9_cutOne _ _ _ _ _ _ _ _ _
        simp only [w_X9_cutOne_88, w_X9_cutOne_89, w_X9_cutOne_92, w_X9_cutOne_94, w_X9_cutOne_107, w_X9_cutOne_108, pm_1i_c, pm_2i_c, pm_1l_c, pm_2l_c, pm_1a_c, pm_ia_c, pm_iia_c, pm_va_c, pm_cp_c, pm_k0_c, pm_k1_c, pm_k2_c, pm_k3_c, pm_s1_c, pm_s2_c, pm_s3_c, pm_s4_c, pm_ri_c, pm_ra_c, pm_rn_c, pm_rk_i, pm_rk_z, pm_rk_a, pm_vk_i, pm_vk_z, pm_vk_a, pm_cti, pm_ctr, pm_ldi_z, pm_ldi_s, pm_lda_z, pm_lda_s, pm_cat_n, pm_cat_i, pm_cat_r, pm_cat_l, pm_obj, pm_arr, pm_opt, pm_ird, pm_aln, List.getElem?_cons_zero, List.getElem?_cons_succ, List.set_cons_zero, List.set_cons_succ, List.length_cons, List.length_nil, List.length_set, true_and, and_true, Nat.add_zero, Nat.zero_add, Nat.le_refl, Nat.reduceAdd, Nat.reduceLT, Nat.reduceLeDiff, Nat.zero_le, not_false_eq_true, not_true_eq_false, false_implies, implies_true, true_implies, Nat.zero_lt_succ, Nat.lt_add_one, pm_tl_n, pm_tl_s, sc_uL, to2, no2, l2]
        refine PM_use (c_Row_append T2.2.2.2 0 (d + 2)) ?_
        rintro v h3 l3 ⟨rfl, K3, K4⟩
        rw [if_pos (by show t.2.2.length < 400; omega)] at K3
        obtain ⟨T3, f3⟩ := T2.un K3 K4
        show W_X9_cutOne _ _ _ _ _ _ _ _ _
        simp only [w_X9_cutOne_111, pm_1i_c, pm_2i_c, pm_1l_c, pm_2l_c, pm_1a_c, pm_ia_c, pm_iia_c, pm_va_c, pm_cp_c, pm_k0_c, pm_k1_c, pm_k2_c, pm_k3_c, pm_s1_c, pm_s2_c, pm_s3_c, pm_s4_c, pm_ri_c, pm_ra_c, pm_rn_c, pm_rk_i, pm_rk_z, pm_rk_a, pm_vk_i, pm_vk_z, pm_vk_a, pm_cti, pm_ctr, pm_ldi_z, pm_ldi_s, pm_lda_z, pm_lda_s, pm_cat_n, pm_cat_i, pm_cat_r, pm_cat_l, pm_obj, pm_arr, pm_opt, pm_ird, pm_aln, List.getElem?_cons_zero, List.getElem?_cons_succ, List.set_cons_zero, List.set_cons_succ, List.length_cons, List.length_nil, List.length_set, true_and, and_true, Nat.add_zero, Nat.zero_add, Nat.le_refl, Nat.reduceAdd, Nat.reduceLT, Nat.reduceLeDiff, Nat.zero_le, not_false_eq_true, not_true_eq_false, false_implies, implies_true, true_implies, Nat.zero_lt_succ, Nat.lt_add_one, pm_tl_n, pm_tl_s, sc_uL]
        exact fin h3 _ _ _ _ _ T3 (by rw [l3, l2]; rfl) (f2.tr f3) e
      · rw [if_neg cm] at e
        show W_X9_cutOne _ _ _ _ _ _ _ _ _
        simp only [w_X9_cutOne_50, w_X9_cutOne_52, w_X9_cutOne_54, w_X9_cutOne_55, w_X9_cutOne_56, w_X9_cutOne_57, w_X9_cutOne_60, w_X9_cutOne_61, w_X9_cutOne_64, w_X9_cutOne_65, w_X9_cutOne_67, w_X9_cutOne_68, w_X9_cutOne_71, w_X9_cutOne_73, w_X9_cutOne_76, w_X9_cutOne_79, w_X9_cutOne_82, w_X9_cutOne_85, pm_1i_c, pm_2i_c, pm_1l_c, pm_2l_c, pm_1a_c, pm_ia_c, pm_iia_c, pm_va_c, pm_cp_c, pm_k0_c, pm_k1_c, pm_k2_c, pm_k3_c, pm_s1_c, pm_s2_c, pm_s3_c, pm_s4_c, pm_ri_c, pm_ra_c, pm_rn_c, pm_rk_i, pm_rk_z, pm_rk_a, pm_vk_i, pm_vk_z, pm_vk_a, pm_cti, pm_ctr, pm_ldi_z, pm_ldi_s, pm_lda_z, pm_lda_s, pm_cat_n, pm_cat_i, pm_cat_r, pm_cat_l, pm_obj, pm_arr, pm_opt, pm_ird, pm_aln, List.getElem?_cons_zero, List.getElem?_cons_succ, List.set_cons_zero, List.set_cons_succ, List.length_cons, List.length_nil, List.length_set, true_and, and_true, Nat.add_zero, Nat.zero_add, Nat.le_refl, Nat.reduceAdd, Nat.reduceLT, Nat.reduceLeDiff, Nat.zero_le, not_false_eq_true, not_true_eq_false, false_implies, implies_true, true_implies, Nat.zero_lt_succ, Nat.lt_add_one, pm_tl_n, pm_tl_s, sc_uL, pk_sub be.1, cm, to, ko, show ¬ (1 : Int32) = 0 by decide]
        refine PM_use (c_Row_append T.2.1 267 (d + 2)) ?_
        rintro v h2 l2 ⟨rfl, K1, K2⟩
        rw [if_pos (by omega)] at K1
        obtain ⟨T2, f2⟩ := T.uk K1 K2
        have R2 : rw_ h2 P 400 bs := R.kept (K2 _ (by omega) (by omega)) (K2 _ (by omega) (by omega))
        have to2 := T2.1
        have no2 := T2.2.2.2.o
        show W_X9_cutOne _ _ _ _ _ _ _ _ _
        simp only [w_X9_cutOne_88, w_X9_cutOne_89, w_X9_cutOne_92, w_X9_cutOne_94, w_X9_cutOne_97, w_X9_cutOne_98, w_X9_cutOne_99, w_X9_cutOne_101, pm_1i_c, pm_2i_c, pm_1l_c, pm_2l_c, pm_1a_c, pm_ia_c, pm_iia_c, pm_va_c, pm_cp_c, pm_k0_c, pm_k1_c, pm_k2_c, pm_k3_c, pm_s1_c, pm_s2_c, pm_s3_c, pm_s4_c, pm_ri_c, pm_ra_c, pm_rn_c, pm_rk_i, pm_rk_z, pm_rk_a, pm_vk_i, pm_vk_z, pm_vk_a, pm_cti, pm_ctr, pm_ldi_z, pm_ldi_s, pm_lda_z, pm_lda_s, pm_cat_n, pm_cat_i, pm_cat_r, pm_cat_l, pm_obj, pm_arr, pm_opt, pm_ird, pm_aln, List.getElem?_cons_zero, List.getElem?_cons_succ, List.set_cons_zero, List.set_cons_succ, List.length_cons, List.length_nil, List.length_set, true_and, and_true, Nat.add_zero, Nat.zero_add, Nat.le_refl, Nat.reduceAdd, Nat.reduceLT, Nat.reduceLeDiff, Nat.zero_le, not_false_eq_true, not_true_eq_false, false_implies, implies_true, true_implies, Nat.zero_lt_succ, Nat.lt_add_one, pm_tl_n, pm_tl_s, sc_uL, to2, no2, l2, show ¬ (1 : Int32) = 0 by decide]
        refine PM_use (c_T_numberOf R2 (a := k) (b := beR isD bs k) be.1 (by omega) (d + 1)) ?_
        rintro v h3 l3 ⟨rfl, rfl⟩
        show W_X9_cutOne _ _ _ _ _ _ _ _ _
        simp only [w_X9_cutOne_104, w_X9_cutOne_108, pm_1i_c, pm_2i_c, pm_1l_c, pm_2l_c, pm_1a_c, pm_ia_c, pm_iia_c, pm_va_c, pm_cp_c, pm_k0_c, pm_k1_c, pm_k2_c, pm_k3_c, pm_s1_c, pm_s2_c, pm_s3_c, pm_s4_c, pm_ri_c, pm_ra_c, pm_rn_c, pm_rk_i, pm_rk_z, pm_rk_a, pm_vk_i, pm_vk_z, pm_vk_a, pm_cti, pm_ctr, pm_ldi_z, pm_ldi_s, pm_lda_z, pm_lda_s, pm_cat_n, pm_cat_i, pm_cat_r, pm_cat_l, pm_obj, pm_arr, pm_opt, pm_ird, pm_aln, List.getElem?_cons_zero, List.getElem?_cons_succ, List.set_cons_zero, List.set_cons_succ, List.length_cons, List.length_nil, List.length_set, true_and, and_true, Nat.add_zero, Nat.zero_add, Nat.le_refl, Nat.reduceAdd, Nat.reduceLT, Nat.reduceLeDiff, Nat.zero_le, not_false_eq_true, not_true_eq_false, false_implies, implies_true, true_implies, Nat.zero_lt_succ, Nat.lt_add_one, pm_tl_n, pm_tl_s, sc_uL, to2, no2, l2]
        refine PM_use (c_Row_append T2.2.2.2 (nuF bs k (beR isD bs k)) (d + 2)) ?_
        rintro v h3 l3 ⟨rfl, K3, K4⟩
        rw [if_pos (by show t.2.2.length < 400; omega)] at K3
        obtain ⟨T3, f3⟩ := T2.un K3 K4
        show W_X9_cutOne _ _ _ _ _ _ _ _ _
        simp only [w_X9_cutOne_111, pm_1i_c, pm_2i_c, pm_1l_c, pm_2l_c, pm_1a_c, pm_ia_c, pm_iia_c, pm_va_c, pm_cp_c, pm_k0_c, pm_k1_c, pm_k2_c, pm_k3_c, pm_s1_c, pm_s2_c, pm_s3_c, pm_s4_c, pm_ri_c, pm_ra_c, pm_rn_c, pm_rk_i, pm_rk_z, pm_rk_a, pm_vk_i, pm_vk_z, pm_vk_a, pm_cti, pm_ctr, pm_ldi_z, pm_ldi_s, pm_lda_z, pm_lda_s, pm_cat_n, pm_cat_i, pm_cat_r, pm_cat_l, pm_obj, pm_arr, pm_opt, pm_ird, pm_aln, List.getElem?_cons_zero, List.getElem?_cons_succ, List.set_cons_zero, List.set_cons_succ, List.length_cons, List.length_nil, List.length_set, true_and, and_true, Nat.add_zero, Nat.zero_add, Nat.le_refl, Nat.reduceAdd, Nat.reduceLT, Nat.reduceLeDiff, Nat.zero_le, not_false_eq_true, not_true_eq_false, false_implies, implies_true, true_implies, Nat.zero_lt_succ, Nat.lt_add_one, pm_tl_n, pm_tl_s, sc_uL]
        exact fin h3 _ _ _ _ _ T3 (by rw [l3, l2]; rfl) (f2.tr f3) e
    · rw [if_neg (by rw [cd]; decide)] at e
      simp only [cd, Bool.false_eq_true, if_false]
      show W_X9_cutOne _ _ _ _ _ _ _ _ _
      simp only [w_X9_cutOne_42, w_X9_cutOne_114, w_X9_cutOne_116, pm_1i_c, pm_2i_c, pm_1l_c, pm_2l_c, pm_1a_c, pm_ia_c, pm_iia_c, pm_va_c, pm_cp_c, pm_k0_c, pm_k1_c, pm_k2_c, pm_k3_c, pm_s1_c, pm_s2_c, pm_s3_c, pm_s4_c, pm_ri_c, pm_ra_c, pm_rn_c, pm_rk_i, pm_rk_z, pm_rk_a, pm_vk_i, pm_vk_z, pm_vk_a, pm_cti, pm_ctr, pm_ldi_z, pm_ldi_s, pm_lda_z, pm_lda_s, pm_cat_n, pm_cat_i, pm_cat_r, pm_cat_l, pm_obj, pm_arr, pm_opt, pm_ird, pm_aln, List.getElem?_cons_zero, List.getElem?_cons_succ, List.set_cons_zero, List.set_cons_succ, List.length_cons, List.length_nil, List.length_set, true_and, and_true, Nat.add_zero, Nat.zero_add, Nat.le_refl, Nat.reduceAdd, Nat.reduceLT, Nat.reduceLeDiff, Nat.zero_le, not_false_eq_true, not_true_eq_false, false_implies, implies_true, true_implies, Nat.zero_lt_succ, Nat.lt_add_one, pm_tl_n, pm_tl_s, sc_uL]
      refine PM_use (c_T_isLetter (bs.getD k (-1)) (d + 2)) ?_
      rintro v h1 l1 ⟨rfl, rfl⟩
      rcases Bool.eq_false_or_eq_true (isL (bs.getD k (-1))) with cl | cl
      · rw [if_pos cl] at e
        simp only [cl, if_true]
        show W_X9_cutOne _ _ _ _ _ _ _ _ _
        simp only [w_X9_cutOne_119, w_X9_cutOne_122, w_X9_cutOne_123, w_X9_cutOne_124, pm_1i_c, pm_2i_c, pm_1l_c, pm_2l_c, pm_1a_c, pm_ia_c, pm_iia_c, pm_va_c, pm_cp_c, pm_k0_c, pm_k1_c, pm_k2_c, pm_k3_c, pm_s1_c, pm_s2_c, pm_s3_c, pm_s4_c, pm_ri_c, pm_ra_c, pm_rn_c, pm_rk_i, pm_rk_z, pm_rk_a, pm_vk_i, pm_vk_z, pm_vk_a, pm_cti, pm_ctr, pm_ldi_z, pm_ldi_s, pm_lda_z, pm_lda_s, pm_cat_n, pm_cat_i, pm_cat_r, pm_cat_l, pm_obj, pm_arr, pm_opt, pm_ird, pm_aln, List.getElem?_cons_zero, List.getElem?_cons_succ, List.set_cons_zero, List.set_cons_succ, List.length_cons, List.length_nil, List.length_set, true_and, and_true, Nat.add_zero, Nat.zero_add, Nat.le_refl, Nat.reduceAdd, Nat.reduceLT, Nat.reduceLeDiff, Nat.zero_le, not_false_eq_true, not_true_eq_false, false_implies, implies_true, true_implies, Nat.zero_lt_succ, Nat.lt_add_one, pm_tl_n, pm_tl_s, sc_uL, show ¬ (1 : Int32) = 0 by decide]
        refine PM_use (c_T_behindLetters R (a := k) (by omega) (d + 1)) ?_
        rintro v h1 l1 ⟨rfl, rfl⟩
        have ko := T.2.1.o
        show W_X9_cutOne _ _ _ _ _ _ _ _ _
        simp only [w_X9_cutOne_127, w_X9_cutOne_129, w_X9_cutOne_130, w_X9_cutOne_133, w_X9_cutOne_134, w_X9_cutOne_135, w_X9_cutOne_137, pm_1i_c, pm_2i_c, pm_1l_c, pm_2l_c, pm_1a_c, pm_ia_c, pm_iia_c, pm_va_c, pm_cp_c, pm_k0_c, pm_k1_c, pm_k2_c, pm_k3_c, pm_s1_c, pm_s2_c, pm_s3_c, pm_s4_c, pm_ri_c, pm_ra_c, pm_rn_c, pm_rk_i, pm_rk_z, pm_rk_a, pm_vk_i, pm_vk_z, pm_vk_a, pm_cti, pm_ctr, pm_ldi_z, pm_ldi_s, pm_lda_z, pm_lda_s, pm_cat_n, pm_cat_i, pm_cat_r, pm_cat_l, pm_obj, pm_arr, pm_opt, pm_ird, pm_aln, List.getElem?_cons_zero, List.getElem?_cons_succ, List.set_cons_zero, List.set_cons_succ, List.length_cons, List.length_nil, List.length_set, true_and, and_true, Nat.add_zero, Nat.zero_add, Nat.le_refl, Nat.reduceAdd, Nat.reduceLT, Nat.reduceLeDiff, Nat.zero_le, not_false_eq_true, not_true_eq_false, false_implies, implies_true, true_implies, Nat.zero_lt_succ, Nat.lt_add_one, pm_tl_n, pm_tl_s, sc_uL, to, ko]
        refine PM_use (c_T_wordOf R (a := k) (b := beR isL bs k) bl.1 (by omega) d) ?_
        rintro v h1 l1 ⟨rfl, rfl⟩
        show W_X9_cutOne _ _ _ _ _ _ _ _ _
        simp only [w_X9_cutOne_140, pm_1i_c, pm_2i_c, pm_1l_c, pm_2l_c, pm_1a_c, pm_ia_c, pm_iia_c, pm_va_c, pm_cp_c, pm_k0_c, pm_k1_c, pm_k2_c, pm_k3_c, pm_s1_c, pm_s2_c, pm_s3_c, pm_s4_c, pm_ri_c, pm_ra_c, pm_rn_c, pm_rk_i, pm_rk_z, pm_rk_a, pm_vk_i, pm_vk_z, pm_vk_a, pm_cti, pm_ctr, pm_ldi_z, pm_ldi_s, pm_lda_z, pm_lda_s, pm_cat_n, pm_cat_i, pm_cat_r, pm_cat_l, pm_obj, pm_arr, pm_opt, pm_ird, pm_aln, List.getElem?_cons_zero, List.getElem?_cons_succ, List.set_cons_zero, List.set_cons_succ, List.length_cons, List.length_nil, List.length_set, true_and, and_true, Nat.add_zero, Nat.zero_add, Nat.le_refl, Nat.reduceAdd, Nat.reduceLT, Nat.reduceLeDiff, Nat.zero_le, not_false_eq_true, not_true_eq_false, false_implies, implies_true, true_implies, Nat.zero_lt_succ, Nat.lt_add_one, pm_tl_n, pm_tl_s, sc_uL, to, ko]
        refine PM_use (c_Row_append T.2.1 (woF bs k (beR isL bs k)) (d + 2)) ?_
        rintro v h2 l2 ⟨rfl, K1, K2⟩
        rw [if_pos (by omega)] at K1
        obtain ⟨T2, f2⟩ := T.uk K1 K2
        have to2 := T2.1
        have no2 := T2.2.2.2.o
        show W_X9_cutOne _ _ _ _ _ _ _ _ _
        simp only [w_X9_cutOne_143, w_X9_cutOne_144, w_X9_cutOne_147, w_X9_cutOne_148, pm_1i_c, pm_2i_c, pm_1l_c, pm_2l_c, pm_1a_c, pm_ia_c, pm_iia_c, pm_va_c, pm_cp_c, pm_k0_c, pm_k1_c, pm_k2_c, pm_k3_c, pm_s1_c, pm_s2_c, pm_s3_c, pm_s4_c, pm_ri_c, pm_ra_c, pm_rn_c, pm_rk_i, pm_rk_z, pm_rk_a, pm_vk_i, pm_vk_z, pm_vk_a, pm_cti, pm_ctr, pm_ldi_z, pm_ldi_s, pm_lda_z, pm_lda_s, pm_cat_n, pm_cat_i, pm_cat_r, pm_cat_l, pm_obj, pm_arr, pm_opt, pm_ird, pm_aln, List.getElem?_cons_zero, List.getElem?_cons_succ, List.set_cons_zero, List.set_cons_succ, List.length_cons, List.length_nil, List.length_set, true_and, and_true, Nat.add_zero, Nat.zero_add, Nat.le_refl, Nat.reduceAdd, Nat.reduceLT, Nat.reduceLeDiff, Nat.zero_le, not_false_eq_true, not_true_eq_false, false_implies, implies_true, true_implies, Nat.zero_lt_succ, Nat.lt_add_one, pm_tl_n, pm_tl_s, sc_uL, to2, no2, l2]
        refine PM_use (c_Row_append T2.2.2.2 0 (d + 2)) ?_
        rintro v h3 l3 ⟨rfl, K3, K4⟩
        rw [if_pos (by show t.2.2.length < 400; omega)] at K3
        obtain ⟨T3, f3⟩ := T2.un K3 K4
        show W_X9_cutOne _ _ _ _ _ _ _ _ _
        simp only [w_X9_cutOne_151, pm_1i_c, pm_2i_c, pm_1l_c, pm_2l_c, pm_1a_c, pm_ia_c, pm_iia_c, pm_va_c, pm_cp_c, pm_k0_c, pm_k1_c, pm_k2_c, pm_k3_c, pm_s1_c, pm_s2_c, pm_s3_c, pm_s4_c, pm_ri_c, pm_ra_c, pm_rn_c, pm_rk_i, pm_rk_z, pm_rk_a, pm_vk_i, pm_vk_z, pm_vk_a, pm_cti, pm_ctr, pm_ldi_z, pm_ldi_s, pm_lda_z, pm_lda_s, pm_cat_n, pm_cat_i, pm_cat_r, pm_cat_l, pm_obj, pm_arr, pm_opt, pm_ird, pm_aln, List.getElem?_cons_zero, List.getElem?_cons_succ, List.set_cons_zero, List.set_cons_succ, List.length_cons, List.length_nil, List.length_set, true_and, and_true, Nat.add_zero, Nat.zero_add, Nat.le_refl, Nat.reduceAdd, Nat.reduceLT, Nat.reduceLeDiff, Nat.zero_le, not_false_eq_true, not_true_eq_false, false_implies, implies_true, true_implies, Nat.zero_lt_succ, Nat.lt_add_one, pm_tl_n, pm_tl_s, sc_uL]
        exact fin h3 _ _ _ _ _ T3 (by rw [l3, l2]; rfl) (f2.tr f3) e
      · rw [if_neg (by rw [cl]; decide)] at e
        simp only [cl, Bool.false_eq_true, if_false]
        have ko := T.2.1.o
        show W_X9_cutOne _ _ _ _ _ _ _ _ _
        simp only [w_X9_cutOne_119, w_X9_cutOne_154, w_X9_cutOne_155, w_X9_cutOne_158, w_X9_cutOne_160, pm_1i_c, pm_2i_c, pm_1l_c, pm_2l_c, pm_1a_c, pm_ia_c, pm_iia_c, pm_va_c, pm_cp_c, pm_k0_c, pm_k1_c, pm_k2_c, pm_k3_c, pm_s1_c, pm_s2_c, pm_s3_c, pm_s4_c, pm_ri_c, pm_ra_c, pm_rn_c, pm_rk_i, pm_rk_z, pm_rk_a, pm_vk_i, pm_vk_z, pm_vk_a, pm_cti, pm_ctr, pm_ldi_z, pm_ldi_s, pm_lda_z, pm_lda_s, pm_cat_n, pm_cat_i, pm_cat_r, pm_cat_l, pm_obj, pm_arr, pm_opt, pm_ird, pm_aln, List.getElem?_cons_zero, List.getElem?_cons_succ, List.set_cons_zero, List.set_cons_succ, List.length_cons, List.length_nil, List.length_set, true_and, and_true, Nat.add_zero, Nat.zero_add, Nat.le_refl, Nat.reduceAdd, Nat.reduceLT, Nat.reduceLeDiff, Nat.zero_le, not_false_eq_true, not_true_eq_false, false_implies, implies_true, true_implies, Nat.zero_lt_succ, Nat.lt_add_one, pm_tl_n, pm_tl_s, sc_uL, to, ko]
        refine PM_use (c_Row_append T.2.1 (bs.getD k (-1)) (d + 2)) ?_
        rintro v h2 l2 ⟨rfl, K1, K2⟩
        rw [if_pos (by omega)] at K1
        obtain ⟨T2, f2⟩ := T.uk K1 K2
        have to2 := T2.1
        have no2 := T2.2.2.2.o
        show W_X9_cutOne _ _ _ _ _ _ _ _ _
        simp only [w_X9_cutOne_163, w_X9_cutOne_164, w_X9_cutOne_167, w_X9_cutOne_168, pm_1i_c, pm_2i_c, pm_1l_c, pm_2l_c, pm_1a_c, pm_ia_c, pm_iia_c, pm_va_c, pm_cp_c, pm_k0_c, pm_k1_c, pm_k2_c, pm_k3_c, pm_s1_c, pm_s2_c, pm_s3_c, pm_s4_c, pm_ri_c, pm_ra_c, pm_rn_c, pm_rk_i, pm_rk_z, pm_rk_a, pm_vk_i, pm_vk_z, pm_vk_a, pm_cti, pm_ctr, pm_ldi_z, pm_ldi_s, pm_lda_z, pm_lda_s, pm_cat_n, pm_cat_i, pm_cat_r, pm_cat_l, pm_obj, pm_arr, pm_opt, pm_ird, pm_aln, List.getElem?_cons_zero, List.getElem?_cons_succ, List.set_cons_zero, List.set_cons_succ, List.length_cons, List.length_nil, List.length_set, true_and, and_true, Nat.add_zero, Nat.zero_add, Nat.le_refl, Nat.reduceAdd, Nat.reduceLT, Nat.reduceLeDiff, Nat.zero_le, not_false_eq_true, not_true_eq_false, false_implies, implies_true, true_implies, Nat.zero_lt_succ, Nat.lt_add_one, pm_tl_n, pm_tl_s, sc_uL, to2, no2, l2]
        refine PM_use (c_Row_append T2.2.2.2 0 (d + 2)) ?_
        rintro v h3 l3 ⟨rfl, K3, K4⟩
        rw [if_pos (by show t.2.2.length < 400; omega)] at K3
        obtain ⟨T3, f3⟩ := T2.un K3 K4
        show W_X9_cutOne _ _ _ _ _ _ _ _ _
        exact fin h3 (k + 1) _ _ _ _ T3 (by rw [l3, l2]; rfl) (f2.tr f3) e
theorem coF_len (dm : Int32) {k : Nat} (hk : k < bs.length) (hK : t.1.length ≤ k) (hS : t.2.1.length ≤ k) (hN : t.2.2.length ≤ k) : (coF bs dm k t).2.1.length ≤ (coF bs dm k t).1 ∧ (coF bs dm k t).2.2.1.length ≤ (coF bs dm k t).1 ∧ (coF bs dm k t).2.2.2.length ≤ (coF bs dm k t).1 := by
  have g := (coF_in (dm := dm) (t := t) hk).1
  have a : ∀ x n s, (tkA t x n s).1.length = t.1.length + 1 ∧ (tkA t x n s).2.1.length = t.2.1.length + 1 ∧ (tkA t x n s).2.2.length = t.2.2.length + 1 := fun x n s => ⟨List.length_append, List.length_append, List.length_append⟩
  have key : (coF bs dm k t).2.1.length ≤ t.1.length + 1 ∧ (coF bs dm k t).2.2.1.length ≤ t.2.1.length + 1 ∧ (coF bs dm k t).2.2.2.length ≤ t.2.2.length + 1 := by
    unfold coF
    dsimp only
    split
    · refine ⟨?_, ?_, ?_⟩ <;> dsimp only <;> omega
    · split
      · split
        · obtain ⟨a1, a2, a3⟩ := a 268 0 (nI k)
          exact ⟨by dsimp only; omega, by dsimp only; omega, by dsimp only; omega⟩
        · obtain ⟨a1, a2, a3⟩ := a 267 (nuF bs k (beR isD bs k)) (nI k)
          exact ⟨by dsimp only; omega, by dsimp only; omega, by dsimp only; omega⟩
      · split
        · obtain ⟨a1, a2, a3⟩ := a (woF bs k (beR isL bs k)) 0 (nI k)
          exact ⟨by dsimp only; omega, by dsimp only; omega, by dsimp only; omega⟩
        · obtain ⟨a1, a2, a3⟩ := a (bs.getD k (-1)) 0 (nI k)
          exact ⟨by dsimp only; omega, by dsimp only; omega, by dsimp only; omega⟩
  omega
end TL
