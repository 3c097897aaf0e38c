/-! AdmissionDesk: its cells; the small ones among its methods. -/
def cr_ (h : pmH) (a : Nat) (bs ws : List Int32) (A K : AD) (ik ft : Int32) : Prop := h[a]? = some (.inr (11, [.ref (a + 1), .ref (a + 3), .ref (a + 5), .ref (a + 18), .ref (a + 28), .ref (a + 35), .ref (a + 61), .ref (a + 87), .int ik, .int ft])) ∧ rw_ h (a + 1) 400 bs ∧ rw_ h (a + 3) 600 ws ∧ (∃ p cs, lr0 h (a + 5) p cs) ∧ (∃ ks, tr0 h (a + 18) ks) ∧ (∃ T D U, lb_ h (a + 28) T D U) ∧ dk_ h (a + 35) A ∧ dk_ h (a + 61) K ∧ ∃ S, dk_ h (a + 87) S
def frC (h h' : pmH) (a : Nat) : Prop := ∀ i, i < a ∨ a + 113 ≤ i → h'[i]? = h[i]?
theorem frC.rf {h : pmH} {a : Nat} : frC h h a := fun _ _ => rfl
theorem frC.tr {h h1 h2 : pmH} {a : Nat} (x : frC h h1 a) (y : frC h1 h2 a) : frC h h2 a := fun i p => (y i p).trans (x i p)
section FC
variable {h h' : pmH} {a : Nat} {bs ws : List Int32} {A A' K S : AD} {ik ft : Int32}
theorem lr0.kept {R : Nat} {p : Int32} {cs : List Int32} (L : lr0 h R p cs) (f : ∀ i, R ≤ i → i < R + 13 → h'[i]? = h[i]?) : lr0 h' R p cs := by
  obtain ⟨h1, ⟨t, tb, ix, ft, T⟩, h3, h4, st, h5⟩ := L
  exact ⟨(f _ (by omega) (by omega)).trans h1, ⟨t, tb, ix, ft, T.kept2 (fun i a b => f i (by omega) (by omega))⟩, (f _ (by omega) (by omega)).trans h3, h4.kept (f _ (by omega) (by omega)) (f _ (by omega) (by omega)), st, h5.kept (f _ (by omega) (by omega)) (f _ (by omega) (by omega))⟩
theorem tr0.kept {R : Nat} {ks : List Int32} (L : tr0 h R ks) (f : ∀ i, R ≤ i → i < R + 10 → h'[i]? = h[i]?) : tr0 h' R ks := by
  obtain ⟨h1, ⟨t, tb, ix, ft, T⟩, h4⟩ := L
  exact ⟨(f _ (by omega) (by omega)).trans h1, ⟨t, tb, ix, ft, T.kept2 (fun i a b => f i (by omega) (by omega))⟩, h4.kept (f _ (by omega) (by omega)) (f _ (by omega) (by omega))⟩
theorem lb_.kept {R : Nat} {T D U : List Int32} (L : lb_ h R T D U) (f : ∀ i, R ≤ i → i < R + 7 → h'[i]? = h[i]?) : lb_ h' R T D U :=
  ⟨(f _ (by omega) (by omega)).trans L.1, L.2.1.kept (f _ (by omega) (by omega)) (f _ (by omega) (by omega)), L.2.2.1.kept (f _ (by omega) (by omega)) (f _ (by omega) (by omega)), L.2.2.2.kept (f _ (by omega) (by omega)) (f _ (by omega) (by omega))⟩
theorem cr_.o (C : cr_ h a bs ws A K ik ft) : h[a]? = some (.inr (11, [.ref (a + 1), .ref (a + 3), .ref (a + 5), .ref (a + 18), .ref (a + 28), .ref (a + 35), .ref (a + 61), .ref (a + 87), .int ik, .int ft])) := C.1
theorem cr_.tp (C : cr_ h a bs ws A K ik ft) : rw_ h (a + 1) 400 bs := C.2.1
theorem cr_.wr (C : cr_ h a bs ws A K ik ft) : rw_ h (a + 3) 600 ws := C.2.2.1
theorem cr_.lr (C : cr_ h a bs ws A K ik ft) : ∃ p cs, lr0 h (a + 5) p cs := C.2.2.2.1
theorem cr_.xr (C : cr_ h a bs ws A K ik ft) : ∃ ks, tr0 h (a + 18) ks := C.2.2.2.2.1
theorem cr_.lb (C : cr_ h a bs ws A K ik ft) : ∃ T D U, lb_ h (a + 28) T D U := C.2.2.2.2.2.1
theorem cr_.d (C : cr_ h a bs ws A K ik ft) : dk_ h (a + 35) A := C.2.2.2.2.2.2.1
theorem cr_.k (C : cr_ h a bs ws A K ik ft) : dk_ h (a + 61) K := C.2.2.2.2.2.2.2.1
theorem cr_.sp (C : cr_ h a bs ws A K ik ft) : ∃ S, dk_ h (a + 87) S := C.2.2.2.2.2.2.2.2
theorem cr_.to (C : cr_ h a bs ws A K ik ft) : h[a + 1]? = some (.inr (6, [.ref (a + 1 + 1), .int (nI bs.length)])) := C.tp.o
theorem cr_.wo (C : cr_ h a bs ws A K ik ft) : h[a + 3]? = some (.inr (6, [.ref (a + 3 + 1), .int (nI ws.length)])) := C.wr.o
/-- all but the cells from x to y are as they were -/
theorem cr_.mk' (C : cr_ h a bs ws A K ik ft) {x y : Nat} (f : ∀ i, i < x ∨ y ≤ i → h'[i]? = h[i]?) {bs' ws' : List Int32} {A' K' : AD} {ik' ft' : Int32} (g0 : a < x ∨ y ≤ a → ik' = ik ∧ ft' = ft) (p0 : ¬ (a < x ∨ y ≤ a) → h'[a]? = some (.inr (11, [.ref (a + 1), .ref (a + 3), .ref (a + 5), .ref (a + 18), .ref (a + 28), .ref (a + 35), .ref (a + 61), .ref (a + 87), .int ik', .int ft']))) (p1 : a + 3 ≤ x ∨ y ≤ a + 1 → bs' = bs) (q1 : ¬ (a + 3 ≤ x ∨ y ≤ a + 1) → rw_ h' (a + 1) 400 bs') (p2 : a + 5 ≤ x ∨ y ≤ a + 3 → ws' = ws) (q2 : ¬ (a + 5 ≤ x ∨ y ≤ a + 3) → rw_ h' (a + 3) 600 ws') (q3 : ¬ (a + 18 ≤ x ∨ y ≤ a + 5) → ∃ p cs, lr0 h' (a + 5) p cs) (q4 : ¬ (a + 28 ≤ x ∨ y ≤ a + 18) → ∃ ks, tr0 h' (a + 18) ks) (q5 : ¬ (a + 35 ≤ x ∨ y ≤ a + 28) → ∃ T D U, lb_ h' (a + 28) T D U) (p6 : a + 61 ≤ x ∨ y ≤ a + 35 → A' = A) (q6 : ¬ (a + 61 ≤ x ∨ y ≤ a + 35) → dk_ h' (a + 35) A') (p7 : a + 87 ≤ x ∨ y ≤ a + 61 → K' = K) (q7 : ¬ (a + 87 ≤ x ∨ y ≤ a + 61) → dk_ h' (a + 61) K') (q8 : ¬ (a + 113 ≤ x ∨ y ≤ a + 87) → ∃ S, dk_ h' (a + 87) S) : cr_ h' a bs' ws' A' K' ik' ft' := by
  refine ⟨?_, ?_, ?_, ?_, ?_, ?_, ?_, ?_, ?_⟩
  · by_cases c : a < x ∨ y ≤ a
    · obtain ⟨rfl, rfl⟩ := g0 c
      exact (f _ c).trans C.o
    · exact p0 c
  · by_cases c : a + 3 ≤ x ∨ y ≤ a + 1
    · rw [p1 c]
      exact C.tp.kept (f _ (by omega)) (f _ (by omega))
    · exact q1 c
  · by_cases c : a + 5 ≤ x ∨ y ≤ a + 3
    · rw [p2 c]
      exact C.wr.kept (f _ (by omega)) (f _ (by omega))
    · exact q2 c
  · by_cases c : a + 18 ≤ x ∨ y ≤ a + 5
    · obtain ⟨p, cs, L⟩ := C.lr
      exact ⟨p, cs, L.kept (fun i u v => f i (by omega))⟩
    · exact q3 c
  · by_cases c : a + 28 ≤ x ∨ y ≤ a + 18
    · obtain ⟨ks, L⟩ := C.xr
      exact ⟨ks, L.kept (fun i u v => f i (by omega))⟩
    · exact q4 c
  · by_cases c : a + 35 ≤ x ∨ y ≤ a + 28
    · obtain ⟨T, D, U, L⟩ := C.lb
      exact ⟨T, D, U, L.kept (fun i u v => f i (by omega))⟩
    · exact q5 c
  · by_cases c : a + 61 ≤ x ∨ y ≤ a + 35
    · rw [p6 c]
      exact C.d.kept (fun i u v => f i (by omega))
    · exact q6 c
  · by_cases c : a + 87 ≤ x ∨ y ≤ a + 61
    · rw [p7 c]
      exact C.k.kept (fun i u v => f i (by omega))
    · exact q7 c
  · by_cases c : a + 113 ≤ x ∨ y ≤ a + 87
    · obtain ⟨S, L⟩ := C.sp
      exact ⟨S, L.kept (fun i u v => f i (by omega))⟩
    · exact q8 c
theorem cr_.ud (C : cr_ h a bs ws A K ik ft) (D : dk_ h' (a + 35) A') (f : frd h h' (a + 35)) : cr_ h' a bs ws A' K ik ft ∧ frC h h' a := ⟨C.mk' (x := a + 35) (y := a + 61) (fun i hi => f i (by omega)) (fun _ => ⟨rfl, rfl⟩) (fun c => by omega) (fun _ => rfl) (fun c => by omega) (fun _ => rfl) (fun c => by omega) (fun c => by omega) (fun c => by omega) (fun c => by omega) (fun c => by omega) (fun _ => D) (fun _ => rfl) (fun c => by omega) (fun c => by omega), fun i hi => f i (by omega)⟩
theorem cr_.uk (C : cr_ h a bs ws A K ik ft) (D : dk_ h' (a + 61) A') (f : frd h h' (a + 61)) : cr_ h' a bs ws A A' ik ft ∧ frC h h' a := ⟨C.mk' (x := a + 61) (y := a + 87) (fun i hi => f i (by omega)) (fun _ => ⟨rfl, rfl⟩) (fun c => by omega) (fun _ => rfl) (fun c => by omega) (fun _ => rfl) (fun c => by omega) (fun c => by omega) (fun c => by omega) (fun c => by omega) (fun _ => rfl) (fun c => by omega) (fun c => by omega) (fun _ => D) (fun c => by omega), fun i hi => f i (by omega)⟩
theorem cr_.us (C : cr_ h a bs ws A K ik ft) (D : dk_ h' (a + 87) S) (f : frd h h' (a + 87)) : cr_ h' a bs ws A K ik ft ∧ frC h h' a := ⟨C.mk' (x := a + 87) (y := a + 113) (fun i hi => f i (by omega)) (fun _ => ⟨rfl, rfl⟩) (fun c => by omega) (fun _ => rfl) (fun c => by omega) (fun _ => rfl) (fun c => by omega) (fun c => by omega) (fun c => by omega) (fun c => by omega) (fun _ => rfl) (fun c => by omega) (fun _ => rfl) (fun c => by omega) (fun _ => ⟨S, D⟩), fun i hi => f i (by omega)⟩
theorem cr_.ut (C : cr_ h a bs ws A K ik ft) {X : List Int32} (D : rw_ h' (a + 1) 400 X) (f : fr2 h h' (a + 1)) : cr_ h' a X ws A K ik ft ∧ frC h h' a := ⟨C.mk' (x := a + 1) (y := a + 3) (fun i hi => f i (by omega) (by omega)) (fun _ => ⟨rfl, rfl⟩) (fun c => by omega) (fun c => by omega) (fun _ => D) (fun _ => rfl) (fun c => by omega) (fun c => by omega) (fun c => by omega) (fun c => by omega) (fun _ => rfl) (fun c => by omega) (fun _ => rfl) (fun c => by omega) (fun c => by omega), fun i hi => f i (by omega) (by omega)⟩
theorem cr_.uw (C : cr_ h a bs ws A K ik ft) {X : List Int32} (D : rw_ h' (a + 3) 600 X) (f : fr2 h h' (a + 3)) : cr_ h' a bs X A K ik ft ∧ frC h h' a := ⟨C.mk' (x := a + 3) (y := a + 5) (fun i hi => f i (by omega) (by omega)) (fun _ => ⟨rfl, rfl⟩) (fun c => by omega) (fun _ => rfl) (fun c => by omega) (fun c => by omega) (fun _ => D) (fun c => by omega) (fun c => by omega) (fun c => by omega) (fun _ => rfl) (fun c => by omega) (fun _ => rfl) (fun c => by omega) (fun c => by omega), fun i hi => f i (by omega) (by omega)⟩
theorem cr_.ul (C : cr_ h a bs ws A K ik ft) {p : Int32} {cs : List Int32} (D : lr0 h' (a + 5) p cs) (f : frR h h' (a + 5)) : cr_ h' a bs ws A K ik ft ∧ frC h h' a := ⟨C.mk' (x := a + 5) (y := a + 18) (fun i hi => f i (by omega)) (fun _ => ⟨rfl, rfl⟩) (fun c => by omega) (fun _ => rfl) (fun c => by omega) (fun _ => rfl) (fun c => by omega) (fun _ => ⟨p, cs, D⟩) (fun c => by omega) (fun c => by omega) (fun _ => rfl) (fun c => by omega) (fun _ => rfl) (fun c => by omega) (fun c => by omega), fun i hi => f i (by omega)⟩
theorem cr_.ux (C : cr_ h a bs ws A K ik ft) {ks : List Int32} (D : tr0 h' (a + 18) ks) (f : frX h h' (a + 18)) : cr_ h' a bs ws A K ik ft ∧ frC h h' a := ⟨C.mk' (x := a + 18) (y := a + 28) (fun i hi => f i (by omega)) (fun _ => ⟨rfl, rfl⟩) (fun c => by omega) (fun _ => rfl) (fun c => by omega) (fun _ => rfl) (fun c => by omega) (fun c => by omega) (fun _ => ⟨ks, D⟩) (fun c => by omega) (fun _ => rfl) (fun c => by omega) (fun _ => rfl) (fun c => by omega) (fun c => by omega), fun i hi => f i (by omega)⟩
theorem cr_.ub (C : cr_ h a bs ws A K ik ft) {T D U : List Int32} (L : lb_ h' (a + 28) T D U) (f : frL h h' (a + 28)) : cr_ h' a bs ws A K ik ft ∧ frC h h' a := ⟨C.mk' (x := a + 28) (y := a + 35) (fun i hi => f i (by omega)) (fun _ => ⟨rfl, rfl⟩) (fun c => by omega) (fun _ => rfl) (fun c => by omega) (fun _ => rfl) (fun c => by omega) (fun c => by omega) (fun c => by omega) (fun _ => ⟨T, D, U, L⟩) (fun _ => rfl) (fun c => by omega) (fun _ => rfl) (fun c => by omega) (fun c => by omega), fun i hi => f i (by omega)⟩
theorem cr_.uo (C : cr_ h a bs ws A K ik ft) (ik' ft' : Int32) : ∃ h1, h.set a (.inr (11, [.ref (a + 1), .ref (a + 3), .ref (a + 5), .ref (a + 18), .ref (a + 28), .ref (a + 35), .ref (a + 61), .ref (a + 87), .int ik', .int ft'])) = h1 ∧ h1.length = h.length ∧ frC h h1 a ∧ cr_ h1 a bs ws A K ik' ft' :=
  ⟨_, rfl, List.length_set, fun i hi => hset_n (by omega), C.mk' (x := a) (y := a + 1) (fun i hi => hset_n (by omega)) (fun c => by omega) (fun _ => by rw [hset_s, C.o]; rfl) (fun _ => rfl) (fun c => by omega) (fun _ => rfl) (fun c => by omega) (fun c => by omega) (fun c => by omega) (fun c => by omega) (fun _ => rfl) (fun c => by omega) (fun _ => rfl) (fun c => by omega) (fun c => by omega)⟩
def kyB (x : Int32) : Bool := decide (¬ x < 0 ∧ x < 100000)
def ptB (x : Int32) : Bool := decide (¬ x < 1 ∧ ¬ 3 < x)
def rmB (x : Int32) : Bool := decide (¬ x < 1 ∧ ¬ 64 < x)
def stB (w n : Int32) : Bool := if w = 0 then rmB n else if w = 1 then decide (¬ n < 1 ∧ ¬ 99 < n) else if w = 2 then decide (¬ n < 0 ∧ ¬ 99 < n) else if w = 3 then decide (¬ n < 10 ∧ ¬ 20000 < n) else if w = 4 then decide (n = 0 ∨ ¬ n < 10 ∧ ¬ 1000 < n) else if w = 5 then decide (¬ n < 1 ∧ ¬ 16 < n) else false
theorem c_F_isKey (x : Int32) (d : Nat) : PM (d + 1) 141 [.int x] h (fun v h' => v = some (.int (if kyB x then 1 else 0)) ∧ h' = h) := by
  refine en_X11_isKey rfl ?_
  unfold kyB
  by_cases c1 : x < 0
  · simp only [w_X11_isKey_0, w_X11_isKey_1, w_X11_isKey_4, w_X11_isKey_5, w_X11_isKey_8, w_X11_isKey_11, w_X11_isKey_12, w_X11_isKey_15, w_X11_isKey_16, pm_1i_c, pm_2i_c, pm_1l_c, pm_2l_c, pm_1a_c, pm_ia_c, pm_iia_c, pm_va_c, pm_cp_c, pm_k0_c, pm_k1_c, pm_k2_c, pm_k3_c, pm_s1_c, pm_s2_c, pm_s3_c, pm_s4_c, pm_ri_c, pm_ra_c, pm_rn_c, pm_rk_i, pm_rk_z, pm_rk_a, pm_vk_i, pm_vk_z, pm_vk_a, pm_cti, pm_ctr, pm_ldi_z, pm_ldi_s, pm_lda_z, pm_lda_s, pm_cat_n, pm_cat_i, pm_cat_r, pm_cat_l, pm_obj, pm_arr, pm_opt, pm_ird, pm_aln, List.getElem?_cons_zero, List.getElem?_cons_succ, List.set_cons_zero, List.set_cons_succ, List.length_cons, List.length_nil, List.length_set, true_and, and_true, Nat.add_zero, Nat.zero_add, Nat.le_refl, Nat.reduceAdd, Nat.reduceLT, Nat.reduceLeDiff, Nat.zero_le, not_false_eq_true, not_true_eq_false, false_implies, implies_true, true_implies, Nat.zero_lt_succ, Nat.lt_add_one, c1]
    simp
  · by_cases c2 : x < 100000
    · simp only [w_X11_isKey_0, w_X11_isKey_1, w_X11_isKey_4, w_X11_isKey_5, w_X11_isKey_8, w_X11_isKey_11, w_X11_isKey_12, w_X11_isKey_15, w_X11_isKey_16, pm_1i_c, pm_2i_c, pm_1l_c, pm_2l_c, pm_1a_c, pm_ia_c, pm_iia_c, pm_va_c, pm_cp_c, pm_k0_c, pm_k1_c, pm_k2_c, pm_k3_c, pm_s1_c, pm_s2_c, pm_s3_c, pm_s4_c, pm_ri_c, pm_ra_c, pm_rn_c, pm_rk_i, pm_rk_z, pm_rk_a, pm_vk_i, pm_vk_z, pm_vk_a, pm_cti, pm_ctr, pm_ldi_z, pm_ldi_s, pm_lda_z, pm_lda_s, pm_cat_n, pm_cat_i, pm_cat_r, pm_cat_l, pm_obj, pm_arr, pm_opt, pm_ird, pm_aln, List.getElem?_cons_zero, List.getElem?_cons_succ, List.set_cons_zero, List.set_cons_succ, List.length_cons, List.length_nil, List.length_set, true_and, and_true, Nat.add_zero, Nat.zero_add, Nat.le_refl, Nat.reduceAdd, Nat.reduceLT, Nat.reduceLeDiff, Nat.zero_le, not_false_eq_true, not_true_eq_false, false_implies, implies_true, true_implies, Nat.zero_lt_succ, Nat.lt_add_one, c1, c2]
      simp
    · simp only [w_X11_isKey_0, w_X11_isKey_1, w_X11_isKey_4, w_X11_isKey_5, w_X11_isKey_8, w_X11_isKey_11, w_X11_isKey_12, w_X11_isKey_15, w_X11_isKey_16, pm_1i_c, pm_2i_c, pm_1l_c, pm_2l_c, pm_1a_c, pm_ia_c, pm_iia_c, pm_va_c, pm_cp_c, pm_k0_c, pm_k1_c, pm_k2_c, pm_k3_c, pm_s1_c, pm_s2_c, pm_s3_c, pm_s4_c, pm_ri_c, pm_ra_c, pm_rn_c, pm_rk_i, pm_rk_z, pm_rk_a, pm_vk_i, pm_vk_z, pm_vk_a, pm_cti, pm_ctr, pm_ldi_z, pm_ldi_s, pm_lda_z, pm_lda_s, pm_cat_n, pm_cat_i, pm_cat_r, pm_cat_l, pm_obj, pm_arr, pm_opt, pm_ird, pm_aln, List.getElem?_cons_zero, List.getElem?_cons_succ, List.set_cons_zero, List.set_cons_succ, List.length_cons, List.length_nil, List.length_set, true_and, and_true, Nat.add_zero, Nat.zero_add, Nat.le_refl, Nat.reduceAdd, Nat.reduceLT, Nat.reduceLeDiff, Nat.zero_le, not_false_eq_true, not_true_eq_false, false_implies, implies_true, true_implies, Nat.zero_lt_succ, Nat.lt_add_one, c1, c2]
      simp
theorem c_F_isPart (x : Int32) (d : Nat) : PM (d + 1) 142 [.int x] h (fun v h' => v = some (.int (if ptB x then 1 else 0)) ∧ h' = h) := by
  refine en_X11_isPart rfl ?_
  unfold ptB
  by_cases c1 : x < 1
  · simp only [w_X11_isPart_0, w_X11_isPart_1, w_X11_isPart_2, w_X11_isPart_5, w_X11_isPart_6, w_X11_isPart_7, w_X11_isPart_10, w_X11_isPart_11, w_X11_isPart_14, w_X11_isPart_15, pm_1i_c, pm_2i_c, pm_1l_c, pm_2l_c, pm_1a_c, pm_ia_c, pm_iia_c, pm_va_c, pm_cp_c, pm_k0_c, pm_k1_c, pm_k2_c, pm_k3_c, pm_s1_c, pm_s2_c, pm_s3_c, pm_s4_c, pm_ri_c, pm_ra_c, pm_rn_c, pm_rk_i, pm_rk_z, pm_rk_a, pm_vk_i, pm_vk_z, pm_vk_a, pm_cti, pm_ctr, pm_ldi_z, pm_ldi_s, pm_lda_z, pm_lda_s, pm_cat_n, pm_cat_i, pm_cat_r, pm_cat_l, pm_obj, pm_arr, pm_opt, pm_ird, pm_aln, List.getElem?_cons_zero, List.getElem?_cons_succ, List.set_cons_zero, List.set_cons_succ, List.length_cons, List.length_nil, List.length_set, true_and, and_true, Nat.add_zero, Nat.zero_add, Nat.le_refl, Nat.reduceAdd, Nat.reduceLT, Nat.reduceLeDiff, Nat.zero_le, not_false_eq_true, not_true_eq_false, false_implies, implies_true, true_implies, Nat.zero_lt_succ, Nat.lt_add_one, c1]
    simp
  · by_cases c2 : 3 < x
    · simp only [w_X11_isPart_0, w_X11_isPart_1, w_X11_isPart_2, w_X11_isPart_5, w_X11_isPart_6, w_X11_isPart_7, w_X11_isPart_10, w_X11_isPart_11, w_X11_isPart_14, w_X11_isPart_15, pm_1i_c, pm_2i_c, pm_1l_c, pm_2l_c, pm_1a_c, pm_ia_c, pm_iia_c, pm_va_c, pm_cp_c, pm_k0_c, pm_k1_c, pm_k2_c, pm_k3_c, pm_s1_c, pm_s2_c, pm_s3_c, pm_s4_c, pm_ri_c, pm_ra_c, pm_rn_c, pm_rk_i, pm_rk_z, pm_rk_a, pm_vk_i, pm_vk_z, pm_vk_a, pm_cti, pm_ctr, pm_ldi_z, pm_ldi_s, pm_lda_z, pm_lda_s, pm_cat_n, pm_cat_i, pm_cat_r, pm_cat_l, pm_obj, pm_arr, pm_opt, pm_ird, pm_aln, List.getElem?_cons_zero, List.getElem?_cons_succ, List.set_cons_zero, List.set_cons_succ, List.length_cons, List.length_nil, List.length_set, true_and, and_true, Nat.add_zero, Nat.zero_add, Nat.le_refl, Nat.reduceAdd, Nat.reduceLT, Nat.reduceLeDiff, Nat.zero_le, not_false_eq_true, not_true_eq_false, false_implies, implies_true, true_implies, Nat.zero_lt_succ, Nat.lt_add_one, c1, c2]
      simp
    · simp only [w_X11_isPart_0, w_X11_isPart_1, w_X11_isPart_2, w_X11_isPart_5, w_X11_isPart_6, w_X11_isPart_7, w_X11_isPart_10, w_X11_isPart_11, w_X11_isPart_14, w_X11_isPart_15, pm_1i_c, pm_2i_c, pm_1l_c, pm_2l_c, pm_1a_c, pm_ia_c, pm_iia_c, pm_va_c, pm_cp_c, pm_k0_c, pm_k1_c, pm_k2_c, pm_k3_c, pm_s1_c, pm_s2_c, pm_s3_c, pm_s4_c, pm_ri_c, pm_ra_c, pm_rn_c, pm_rk_i, pm_rk_z, pm_rk_a, pm_vk_i, pm_vk_z, pm_vk_a, pm_cti, pm_ctr, pm_ldi_z, pm_ldi_s, pm_lda_z, pm_lda_s, pm_cat_n, pm_cat_i, pm_cat_r, pm_cat_l, pm_obj, pm_arr, pm_opt, pm_ird, pm_aln, List.getElem?_cons_zero, List.getElem?_cons_succ, List.set_cons_zero, List.set_cons_succ, List.length_cons, List.length_nil, List.length_set, true_and, and_true, Nat.add_zero, Nat.zero_add, Nat.le_refl, Nat.reduceAdd, Nat.reduceLT, Nat.reduceLeDiff, Nat.zero_le, not_false_eq_true, not_true_eq_false, false_implies, implies_true, true_implies, Nat.zero_lt_succ, Nat.lt_add_one, c1, c2]
      simp
theorem c_F_isRoom (x : Int32) (d : Nat) : PM (d + 1) 143 [.int x] h (fun v h' => v = some (.int (if rmB x then 1 else 0)) ∧ h' = h) := by
  refine en_X11_isRoom rfl ?_
  unfold rmB
  by_cases c1 : x < 1
  · simp only [w_X11_isRoom_0, w_X11_isRoom_1, w_X11_isRoom_2, w_X11_isRoom_5, w_X11_isRoom_6, w_X11_isRoom_8, w_X11_isRoom_11, w_X11_isRoom_12, w_X11_isRoom_15, w_X11_isRoom_16, pm_1i_c, pm_2i_c, pm_1l_c, pm_2l_c, pm_1a_c, pm_ia_c, pm_iia_c, pm_va_c, pm_cp_c, pm_k0_c, pm_k1_c, pm_k2_c, pm_k3_c, pm_s1_c, pm_s2_c, pm_s3_c, pm_s4_c, pm_ri_c, pm_ra_c, pm_rn_c, pm_rk_i, pm_rk_z, pm_rk_a, pm_vk_i, pm_vk_z, pm_vk_a, pm_cti, pm_ctr, pm_ldi_z, pm_ldi_s, pm_lda_z, pm_lda_s, pm_cat_n, pm_cat_i, pm_cat_r, pm_cat_l, pm_obj, pm_arr, pm_opt, pm_ird, pm_aln, List.getElem?_cons_zero, List.getElem?_cons_succ, List.set_cons_zero, List.set_cons_succ, List.length_cons, List.length_nil, List.length_set, true_and, and_true, Nat.add_zero, Nat.zero_add, Nat.le_refl, Nat.reduceAdd, Nat.reduceLT, Nat.reduceLeDiff, Nat.zero_le, not_false_eq_true, not_true_eq_false, false_implies, implies_true, true_implies, Nat.zero_lt_succ, Nat.lt_add_one, c1]
    simp
  · by_cases c2 : 64 < x
    · simp only [w_X11_isRoom_0, w_X11_isRoom_1, w_X11_isRoom_2, w_X11_isRoom_5, w_X11_isRoom_6, w_X11_isRoom_8, w_X11_isRoom_11, w_X11_isRoom_12, w_X11_isRoom_15, w_X11_isRoom_16, pm_1i_c, pm_2i_c, pm_1l_c, pm_2l_c, pm_1a_c, pm_ia_c, pm_iia_c, pm_va_c, pm_cp_c, pm_k0_c, pm_k1_c, pm_k2_c, pm_k3_c, pm_s1_c, pm_s2_c, pm_s3_c, pm_s4_c, pm_ri_c, pm_ra_c, pm_rn_c, pm_rk_i, pm_rk_z, pm_rk_a, pm_vk_i, pm_vk_z, pm_vk_a, pm_cti, pm_ctr, pm_ldi_z, pm_ldi_s, pm_lda_z, pm_lda_s, pm_cat_n, pm_cat_i, pm_cat_r, pm_cat_l, pm_obj, pm_arr, pm_opt, pm_ird, pm_aln, List.getElem?_cons_zero, List.getElem?_cons_succ, List.set_cons_zero, List.set_cons_succ, List.length_cons, List.length_nil, List.length_set, true_and, and_true, Nat.add_zero, Nat.zero_add, Nat.le_refl, Nat.reduceAdd, Nat.reduceLT, Nat.reduceLeDiff, Nat.zero_le, not_false_eq_true, not_true_eq_false, false_implies, implies_true, true_implies, Nat.zero_lt_succ, Nat.lt_add_one, c1, c2]
      simp
    · simp only [w_X11_isRoom_0, w_X11_isRoom_1, w_X11_isRoom_2, w_X11_isRoom_5, w_X11_isRoom_6, w_X11_isRoom_8, w_X11_isRoom_11, w_X11_isRoom_12, w_X11_isRoom_15, w_X11_isRoom_16, pm_1i_c, pm_2i_c, pm_1l_c, pm_2l_c, pm_1a_c, pm_ia_c, pm_iia_c, pm_va_c, pm_cp_c, pm_k0_c, pm_k1_c, pm_k2_c, pm_k3_c, pm_s1_c, pm_s2_c, pm_s3_c, pm_s4_c, pm_ri_c, pm_ra_c, pm_rn_c, pm_rk_i, pm_rk_z, pm_rk_a, pm_vk_i, pm_vk_z, pm_vk_a, pm_cti, pm_ctr, pm_ldi_z, pm_ldi_s, pm_lda_z, pm_lda_s, pm_cat_n, pm_cat_i, pm_cat_r, pm_cat_l, pm_obj, pm_arr, pm_opt, pm_ird, pm_aln, List.getElem?_cons_zero, List.getElem?_cons_succ, List.set_cons_zero, List.set_cons_succ, List.length_cons, List.length_nil, List.length_set, true_and, and_true, Nat.add_zero, Nat.zero_add, Nat.le_refl, Nat.reduceAdd, Nat.reduceLT, Nat.reduceLeDiff, Nat.zero_le, not_false_eq_true, not_true_eq_false, false_implies, implies_true, true_implies, Nat.zero_lt_succ, Nat.lt_add_one, c1, c2]
      simp
set_option maxHeartbeats 2000000 in
theorem c_F_isSetting (w n : Int32) (d : Nat) : PM (d + 2) 144 [.int w, .int n] h (fun v h' => v = some (.int (if stB w n then 1 else 0)) ∧ h' = h) := by
  refine en_X11_isSetting rfl rfl ?_
  unfold stB
  simp only [w_X11_isSetting_0, w_X11_isSetting_1, w_X11_isSetting_40, w_X11_isSetting_41, w_X11_isSetting_44, w_X11_isSetting_45, w_X11_isSetting_46, w_X11_isSetting_47, w_X11_isSetting_50, w_X11_isSetting_51, w_X11_isSetting_53, w_X11_isSetting_56, w_X11_isSetting_57, w_X11_isSetting_60, w_X11_isSetting_61, w_X11_isSetting_62, w_X11_isSetting_63, w_X11_isSetting_66, w_X11_isSetting_67, w_X11_isSetting_69, w_X11_isSetting_72, w_X11_isSetting_73, w_X11_isSetting_76, w_X11_isSetting_77, w_X11_isSetting_78, w_X11_isSetting_79, w_X11_isSetting_81, w_X11_isSetting_84, w_X11_isSetting_85, w_X11_isSetting_88, w_X11_isSetting_91, w_X11_isSetting_92, w_X11_isSetting_95, w_X11_isSetting_96, w_X11_isSetting_97, w_X11_isSetting_98, w_X11_isSetting_101, w_X11_isSetting_102, w_X11_isSetting_104, w_X11_isSetting_107, w_X11_isSetting_108, w_X11_isSetting_111, w_X11_isSetting_114, w_X11_isSetting_115, w_X11_isSetting_118, w_X11_isSetting_119, w_X11_isSetting_120, w_X11_isSetting_121, w_X11_isSetting_122, w_X11_isSetting_125, w_X11_isSetting_126, w_X11_isSetting_128, w_X11_isSetting_131, w_X11_isSetting_132, w_X11_isSetting_135, w_X11_isSetting_136, w_X11_isSetting_137, w_X11_isSetting_138, pm_1i_c, pm_2i_c, pm_1l_c, pm_2l_c, pm_1a_c, pm_ia_c, pm_iia_c, pm_va_c, pm_cp_c, pm_k0_c, pm_k1_c, pm_k2_c, pm_k3_c, pm_s1_c, pm_s2_c, pm_s3_c, pm_s4_c, pm_ri_c, pm_ra_c, pm_rn_c, pm_rk_i, pm_rk_z, pm_rk_a, pm_vk_i, pm_vk_z, pm_vk_a, pm_cti, pm_ctr, pm_ldi_z, pm_ldi_s, pm_lda_z, pm_lda_s, pm_cat_n, pm_cat_i, pm_cat_r, pm_cat_l, pm_obj, pm_arr, pm_opt, pm_ird, pm_aln, List.getElem?_cons_zero, List.getElem?_cons_succ, List.set_cons_zero, List.set_cons_succ, List.length_cons, List.length_nil, List.length_set, true_and, and_true, Nat.add_zero, Nat.zero_add, Nat.le_refl, Nat.reduceAdd, Nat.reduceLT, Nat.reduceLeDiff, Nat.zero_le, not_false_eq_true, not_true_eq_false, false_implies, implies_true, true_implies, Nat.zero_lt_succ, Nat.lt_add_one, pm_sw_c, pm_sw_n, Int32.reduceAdd]
  refine ⟨fun c0 => ?_, fun c0 => ?_⟩
  · rw [if_pos c0]
    refine PM_use (c_F_isRoom n d) ?_
    rintro v h1 l1 ⟨rfl, rfl⟩
    show W_X11_isSetting _ _ _ _ _ _ _ _ _
    simp only [w_X11_isSetting_0, w_X11_isSetting_1, w_X11_isSetting_40, w_X11_isSetting_41, w_X11_isSetting_44, w_X11_isSetting_45, w_X11_isSetting_46, w_X11_isSetting_47, w_X11_isSetting_50, w_X11_isSetting_51, w_X11_isSetting_53, w_X11_isSetting_56, w_X11_isSetting_57, w_X11_isSetting_60, w_X11_isSetting_61, w_X11_isSetting_62, w_X11_isSetting_63, w_X11_isSetting_66, w_X11_isSetting_67, w_X11_isSetting_69, w_X11_isSetting_72, w_X11_isSetting_73, w_X11_isSetting_76, w_X11_isSetting_77, w_X11_isSetting_78, w_X11_isSetting_79, w_X11_isSetting_81, w_X11_isSetting_84, w_X11_isSetting_85, w_X11_isSetting_88, w_X11_isSetting_91, w_X11_isSetting_92, w_X11_isSetting_95, w_X11_isSetting_96, w_X11_isSetting_97, w_X11_isSetting_98, w_X11_isSetting_101, w_X11_isSetting_102, w_X11_isSetting_104, w_X11_isSetting_107, w_X11_isSetting_108, w_X11_isSetting_111, w_X11_isSetting_114, w_X11_isSetting_115, w_X11_isSetting_118, w_X11_isSetting_119, w_X11_isSetting_120, w_X11_isSetting_121, w_X11_isSetting_122, w_X11_isSetting_125, w_X11_isSetting_126, w_X11_isSetting_128, w_X11_isSetting_131, w_X11_isSetting_132, w_X11_isSetting_135, w_X11_isSetting_136, w_X11_isSetting_137, w_X11_isSetting_138, pm_1i_c, pm_2i_c, pm_1l_c, pm_2l_c, pm_1a_c, pm_ia_c, pm_iia_c, pm_va_c, pm_cp_c, pm_k0_c, pm_k1_c, pm_k2_c, pm_k3_c, pm_s1_c, pm_s2_c, pm_s3_c, pm_s4_c, pm_ri_c, pm_ra_c, pm_rn_c, pm_rk_i, pm_rk_z, pm_rk_a, pm_vk_i, pm_vk_z, pm_vk_a, pm_cti, pm_ctr, pm_ldi_z, pm_ldi_s, pm_lda_z, pm_lda_s, pm_cat_n, pm_cat_i, pm_cat_r, pm_cat_l, pm_obj, pm_arr, pm_opt, pm_ird, pm_aln, List.getElem?_cons_zero, List.getElem?_cons_succ, List.set_cons_zero, List.set_cons_succ, List.length_cons, List.length_nil, List.length_set, true_and, and_true, Nat.add_zero, Nat.zero_add, Nat.le_refl, Nat.reduceAdd, Nat.reduceLT, Nat.reduceLeDiff, Nat.zero_le, not_false_eq_true, not_true_eq_false, false_implies, implies_true, true_implies, Nat.zero_lt_succ, Nat.lt_add_one, pm_tl_n, pm_tl_s, sc_uL]
    by_cases c : rmB n = true
    · simp only [c, if_true]
      exact Or.inr trivial
    · simp only [c, if_false, Bool.false_eq_true]
      exact Or.inl trivial
  · rw [if_neg c0]
    refine ⟨fun c0 => ?_, fun c0 => ?_⟩
    · rw [if_pos c0]
      by_cases x1 : n < 1 <;> by_cases x2 : 99 < n <;> simp [x1, x2]
    · rw [if_neg c0]
      refine ⟨fun c0 => ?_, fun c0 => ?_⟩
      · rw [if_pos c0]
        by_cases x1 : n < 0 <;> by_cases x2 : 99 < n <;> simp [x1, x2]
      · rw [if_neg c0]
        refine ⟨fun c0 => ?_, fun c0 => ?_⟩
        · rw [if_pos c0]
          by_cases x1 : n < 10 <;> by_cases x2 : 20000 < n <;> simp [x1, x2]
        · rw [if_neg c0]
          refine ⟨fun c0 => ?_, fun c0 => ?_⟩
          · rw [if_pos c0]
            by_cases x0 : n = 0 <;> by_cases x1 : n < 10 <;> by_cases x2 : 1000 < n <;> simp [x0, x1, x2]
          · rw [if_neg c0]
            refine ⟨fun c0 => ?_, fun c0 => ?_⟩
            · rw [if_pos c0]
              by_cases x1 : n < 1 <;> by_cases x2 : 16 < n <;> simp [x1, x2]
            · rw [if_neg c0]
              exact ⟨Or.inl trivial, rfl⟩
def usB (x s : Int32) : Int32 := (x.toUInt32 >>> (s.toUInt32 &&& Int32.toUInt32 31)).toInt32 &&& 255
def byS (x : Int32) : List Int32 := [usB x 24, usB x 16, usB x 8, usB x 0]
theorem c_F_appendBytes (C : cr_ h a bs ws A K ik ft) (hl : bs.length + 4 ≤ 400) (x : Int32) (d : Nat) : PM (d + 2) 123 [.ref a, .int x] h (fun v h' => v = none ∧ cr_ h' a (bs ++ byS x) ws A K ik ft ∧ frC h h' a) := by
  refine en_X11_appendBytes rfl rfl ?_
  have co := C.o
  have to := C.to
  have n1 : (24 : Int32) + -8 = 16 := by decide
  have n2 : (16 : Int32) + -8 = 8 := by decide
  have n3 : (8 : Int32) + -8 = 0 := by decide
  have n4 : (0 : Int32) + -8 = -8 := by decide
  have m1 : ¬ (24 : Int32) < 0 := by decide
  have m2 : ¬ (16 : Int32) < 0 := by decide
  have m3 : ¬ (8 : Int32) < 0 := by decide
  have m4 : ¬ (0 : Int32) < 0 := by decide
  have m5 : (-8 : Int32) < 0 := by decide
  simp only [w_X11_appendBytes_0, w_X11_appendBytes_2, w_X11_appendBytes_3, w_X11_appendBytes_4, w_X11_appendBytes_7, w_X11_appendBytes_8, w_X11_appendBytes_11, w_X11_appendBytes_12, w_X11_appendBytes_13, w_X11_appendBytes_14, w_X11_appendBytes_17, w_X11_appendBytes_18, w_X11_appendBytes_21, w_X11_appendBytes_24, w_X11_appendBytes_27, pm_1i_c, pm_2i_c, pm_1l_c, pm_2l_c, pm_1a_c, pm_ia_c, pm_iia_c, pm_va_c, pm_cp_c, pm_k0_c, pm_k1_c, pm_k2_c, pm_k3_c, pm_s1_c, pm_s2_c, pm_s3_c, pm_s4_c, pm_ri_c, pm_ra_c, pm_rn_c, pm_rk_i, pm_rk_z, pm_rk_a, pm_vk_i, pm_vk_z, pm_vk_a, pm_cti, pm_ctr, pm_ldi_z, pm_ldi_s, pm_lda_z, pm_lda_s, pm_cat_n, pm_cat_i, pm_cat_r, pm_cat_l, pm_obj, pm_arr, pm_opt, pm_ird, pm_aln, List.getElem?_cons_zero, List.getElem?_cons_succ, List.set_cons_zero, List.set_cons_succ, List.length_cons, List.length_nil, List.length_set, true_and, and_true, Nat.add_zero, Nat.zero_add, Nat.le_refl, Nat.reduceAdd, Nat.reduceLT, Nat.reduceLeDiff, Nat.zero_le, not_false_eq_true, not_true_eq_false, false_implies, implies_true, true_implies, Nat.zero_lt_succ, Nat.lt_add_one, co, to, m1]
  refine PM_use (c_Row_append C.tp (usB x 24) d) ?_
  rintro v h1 l1 ⟨rfl, K1, K2⟩
  rw [if_pos (by omega)] at K1
  obtain ⟨C1, f1⟩ := C.ut K1 K2
  have co1 := C1.o
  have to1 := C1.to
  show W_X11_appendBytes _ _ _ _ _ _ _ _ _
  simp only [w_X11_appendBytes_0, w_X11_appendBytes_2, w_X11_appendBytes_3, w_X11_appendBytes_4, w_X11_appendBytes_7, w_X11_appendBytes_8, w_X11_appendBytes_11, w_X11_appendBytes_12, w_X11_appendBytes_13, w_X11_appendBytes_14, w_X11_appendBytes_17, w_X11_appendBytes_18, w_X11_appendBytes_21, w_X11_appendBytes_24, w_X11_appendBytes_27, pm_1i_c, pm_2i_c, pm_1l_c, pm_2l_c, pm_1a_c, pm_ia_c, pm_iia_c, pm_va_c, pm_cp_c, pm_k0_c, pm_k1_c, pm_k2_c, pm_k3_c, pm_s1_c, pm_s2_c, pm_s3_c, pm_s4_c, pm_ri_c, pm_ra_c, pm_rn_c, pm_rk_i, pm_rk_z, pm_rk_a, pm_vk_i, pm_vk_z, pm_vk_a, pm_cti, pm_ctr, pm_ldi_z, pm_ldi_s, pm_lda_z, pm_lda_s, pm_cat_n, pm_cat_i, pm_cat_r, pm_cat_l, pm_obj, pm_arr, pm_opt, pm_ird, pm_aln, List.getElem?_cons_zero, List.getElem?_cons_succ, List.set_cons_zero, List.set_cons_succ, List.length_cons, List.length_nil, List.length_set, true_and, and_true, Nat.add_zero, Nat.zero_add, Nat.le_refl, Nat.reduceAdd, Nat.reduceLT, Nat.reduceLeDiff, Nat.zero_le, not_false_eq_true, not_true_eq_false, false_implies, implies_true, true_implies, Nat.zero_lt_succ, Nat.lt_add_one, pm_tl_n, pm_tl_s, sc_uL, n1, m2, co1, to1, l1]
  refine PM_use (c_Row_append C1.tp (usB x 16) d) ?_
  rintro v h2 l2 ⟨rfl, K3, K4⟩
  rw [if_pos (by rw [List.length_append]; simp; omega)] at K3
  obtain ⟨C2, f2⟩ := C1.ut K3 K4
  have co2 := C2.o
  have to2 := C2.to
  show W_X11_appendBytes _ _ _ _ _ _ _ _ _
  simp only [w_X11_appendBytes_0, w_X11_appendBytes_2, w_X11_appendBytes_3, w_X11_appendBytes_4, w_X11_appendBytes_7, w_X11_appendBytes_8, w_X11_appendBytes_11, w_X11_appendBytes_12, w_X11_appendBytes_13, w_X11_appendBytes_14, w_X11_appendBytes_17, w_X11_appendBytes_18, w_X11_appendBytes_21, w_X11_appendBytes_24, w_X11_appendBytes_27, pm_1i_c, pm_2i_c, pm_1l_c, pm_2l_c, pm_1a_c, pm_ia_c, pm_iia_c, pm_va_c, pm_cp_c, pm_k0_c, pm_k1_c, pm_k2_c, pm_k3_c, pm_s1_c, pm_s2_c, pm_s3_c, pm_s4_c, pm_ri_c, pm_ra_c, pm_rn_c, pm_rk_i, pm_rk_z, pm_rk_a, pm_vk_i, pm_vk_z, pm_vk_a, pm_cti, pm_ctr, pm_ldi_z, pm_ldi_s, pm_lda_z, pm_lda_s, pm_cat_n, pm_cat_i, pm_cat_r, pm_cat_l, pm_obj, pm_arr, pm_opt, pm_ird, pm_aln, List.getElem?_cons_zero, List.getElem?_cons_succ, List.set_cons_zero, List.set_cons_succ, List.length_cons, List.length_nil, List.length_set, true_and, and_true, Nat.add_zero, Nat.zero_add, Nat.le_refl, Nat.reduceAdd, Nat.reduceLT, Nat.reduceLeDiff, Nat.zero_le, not_false_eq_true, not_true_eq_false, false_implies, implies_true, true_implies, Nat.zero_lt_succ, Nat.lt_add_one, pm_tl_n, pm_tl_s, sc_uL, n2, m3, co2, to2, l2, l1]
  refine PM_use (c_Row_append C2.tp (usB x 8) d) ?_
  rintro v h3 l3 ⟨rfl, K5, K6⟩
  rw [if_pos (by rw [List.length_append, List.length_append]; simp; omega)] at K5
  obtain ⟨C3, f3⟩ := C2.ut K5 K6
  have co3 := C3.o
  have to3 := C3.to
  show W_X11_appendBytes _ _ _ _ _ _ _ _ _
  simp only [w_X11_appendBytes_0, w_X11_appendBytes_2, w_X11_appendBytes_3, w_X11_appendBytes_4, w_X11_appendBytes_7, w_X11_appendBytes_8, w_X11_appendBytes_11, w_X11_appendBytes_12, w_X11_appendBytes_13, w_X11_appendBytes_14, w_X11_appendBytes_17, w_X11_appendBytes_18, w_X11_appendBytes_21, w_X11_appendBytes_24, w_X11_appendBytes_27, pm_1i_c, pm_2i_c, pm_1l_c, pm_2l_c, pm_1a_c, pm_ia_c, pm_iia_c, pm_va_c, pm_cp_c, pm_k0_c, pm_k1_c, pm_k2_c, pm_k3_c, pm_s1_c, pm_s2_c, pm_s3_c, pm_s4_c, pm_ri_c, pm_ra_c, pm_rn_c, pm_rk_i, pm_rk_z, pm_rk_a, pm_vk_i, pm_vk_z, pm_vk_a, pm_cti, pm_ctr, pm_ldi_z, pm_ldi_s, pm_lda_z, pm_lda_s, pm_cat_n, pm_cat_i, pm_cat_r, pm_cat_l, pm_obj, pm_arr, pm_opt, pm_ird, pm_aln, List.getElem?_cons_zero, List.getElem?_cons_succ, List.set_cons_zero, List.set_cons_succ, List.length_cons, List.length_nil, List.length_set, true_and, and_true, Nat.add_zero, Nat.zero_add, Nat.le_refl, Nat.reduceAdd, Nat.reduceLT, Nat.reduceLeDiff, Nat.zero_le, not_false_eq_true, not_true_eq_false, false_implies, implies_true, true_implies, Nat.zero_lt_succ, Nat.lt_add_one, pm_tl_n, pm_tl_s, sc_uL, n3, m4, co3, to3, l3, l2, l1]
  refine PM_use (c_Row_append C3.tp (usB x 0) d) ?_
  rintro v h4 l4 ⟨rfl, K7, K8⟩
  rw [if_pos (by rw [List.length_append, List.length_append, List.length_append]; simp; omega)] at K7
  obtain ⟨C4, f4⟩ := C3.ut K7 K8
  show W_X11_appendBytes _ _ _ _ _ _ _ _ _
  simp only [w_X11_appendBytes_0, w_X11_appendBytes_2, w_X11_appendBytes_3, w_X11_appendBytes_4, w_X11_appendBytes_7, w_X11_appendBytes_8, w_X11_appendBytes_11, w_X11_appendBytes_12, w_X11_appendBytes_13, w_X11_appendBytes_14, w_X11_appendBytes_17, w_X11_appendBytes_18, w_X11_appendBytes_21, w_X11_appendBytes_24, w_X11_appendBytes_27, pm_1i_c, pm_2i_c, pm_1l_c, pm_2l_c, pm_1a_c, pm_ia_c, pm_iia_c, pm_va_c, pm_cp_c, pm_k0_c, pm_k1_c, pm_k2_c, pm_k3_c, pm_s1_c, pm_s2_c, pm_s3_c, pm_s4_c, pm_ri_c, pm_ra_c, pm_rn_c, pm_rk_i, pm_rk_z, pm_rk_a, pm_vk_i, pm_vk_z, pm_vk_a, pm_cti, pm_ctr, pm_ldi_z, pm_ldi_s, pm_lda_z, pm_lda_s, pm_cat_n, pm_cat_i, pm_cat_r, pm_cat_l, pm_obj, pm_arr, pm_opt, pm_ird, pm_aln, List.getElem?_cons_zero, List.getElem?_cons_succ, List.set_cons_zero, List.set_cons_succ, List.length_cons, List.length_nil, List.length_set, true_and, and_true, Nat.add_zero, Nat.zero_add, Nat.le_refl, Nat.reduceAdd, Nat.reduceLT, Nat.reduceLeDiff, Nat.zero_le, not_false_eq_true, not_true_eq_false, false_implies, implies_true, true_implies, Nat.zero_lt_succ, Nat.lt_add_one, pm_tl_n, pm_tl_s, sc_uL, n4, m5, l4, l3, l2, l1]
  rw [List.append_assoc, List.append_assoc, List.append_assoc] at C4
  exact ⟨C4, ((f1.tr f2).tr f3).tr f4⟩
theorem c_F_feed (C : cr_ h a bs ws A K ik ft) (x1 x2 x3 x4 x5 : Int32) (d : Nat) : PM (d + 3) 122 [.ref a, .int x1, .int x2, .int x3, .int x4, .int x5] h (fun v h' => if 400 < bs.length + 20 then v = some (.int (-1)) ∧ cr_ h' a bs ws A K ik ft ∧ frC h h' a else v = some (.int (nI (bs.length + 20))) ∧ cr_ h' a (bs ++ (byS x1 ++ (byS x2 ++ (byS x3 ++ (byS x4 ++ byS x5))))) ws A K ik ft ∧ frC h h' a) := by
  refine en_X11_feed rfl rfl rfl rfl rfl rfl ?_
  have co := C.o
  have to := C.to
  have len := C.tp.le.1
  simp only [w_X11_feed_0, w_X11_feed_1, w_X11_feed_4, w_X11_feed_7, w_X11_feed_9, w_X11_feed_10, w_X11_feed_13, w_X11_feed_16, w_X11_feed_17, w_X11_feed_18, w_X11_feed_19, w_X11_feed_20, w_X11_feed_23, w_X11_feed_24, w_X11_feed_25, w_X11_feed_28, w_X11_feed_29, w_X11_feed_30, w_X11_feed_33, w_X11_feed_34, w_X11_feed_36, w_X11_feed_39, w_X11_feed_40, w_X11_feed_42, w_X11_feed_45, w_X11_feed_46, w_X11_feed_49, w_X11_feed_52, pm_1i_c, pm_2i_c, pm_1l_c, pm_2l_c, pm_1a_c, pm_ia_c, pm_iia_c, pm_va_c, pm_cp_c, pm_k0_c, pm_k1_c, pm_k2_c, pm_k3_c, pm_s1_c, pm_s2_c, pm_s3_c, pm_s4_c, pm_ri_c, pm_ra_c, pm_rn_c, pm_rk_i, pm_rk_z, pm_rk_a, pm_vk_i, pm_vk_z, pm_vk_a, pm_cti, pm_ctr, pm_ldi_z, pm_ldi_s, pm_lda_z, pm_lda_s, pm_cat_n, pm_cat_i, pm_cat_r, pm_cat_l, pm_obj, pm_arr, pm_opt, pm_ird, pm_aln, List.getElem?_cons_zero, List.getElem?_cons_succ, List.set_cons_zero, List.set_cons_succ, List.length_cons, List.length_nil, List.length_set, true_and, and_true, Nat.add_zero, Nat.zero_add, Nat.le_refl, Nat.reduceAdd, Nat.reduceLT, Nat.reduceLeDiff, Nat.zero_le, not_false_eq_true, not_true_eq_false, false_implies, implies_true, true_implies, Nat.zero_lt_succ, Nat.lt_add_one, co, to]
  refine PM_use (c_Row_size C.tp (d + 1)) ?_
  rintro v h1 l1 ⟨rfl, rfl⟩
  have e : nI bs.length + 20 = nI (bs.length + 20) := by rw [show (20 : Int32) = nI 20 from rfl, nI_add]
  by_cases c : 400 < bs.length + 20
  · have e1 : (400 : Int32) < nI (bs.length + 20) := nI_lt (a := 400) c (by omega)
    simp only [if_pos c]
    show W_X11_feed _ _ _ _ _ _ _ _ _
    simp only [w_X11_feed_0, w_X11_feed_1, w_X11_feed_4, w_X11_feed_7, w_X11_feed_9, w_X11_feed_10, w_X11_feed_13, w_X11_feed_16, w_X11_feed_17, w_X11_feed_18, w_X11_feed_19, w_X11_feed_20, w_X11_feed_23, w_X11_feed_24, w_X11_feed_25, w_X11_feed_28, w_X11_feed_29, w_X11_feed_30, w_X11_feed_33, w_X11_feed_34, w_X11_feed_36, w_X11_feed_39, w_X11_feed_40, w_X11_feed_42, w_X11_feed_45, w_X11_feed_46, w_X11_feed_49, w_X11_feed_52, pm_1i_c, pm_2i_c, pm_1l_c, pm_2l_c, pm_1a_c, pm_ia_c, pm_iia_c, pm_va_c, pm_cp_c, pm_k0_c, pm_k1_c, pm_k2_c, pm_k3_c, pm_s1_c, pm_s2_c, pm_s3_c, pm_s4_c, pm_ri_c, pm_ra_c, pm_rn_c, pm_rk_i, pm_rk_z, pm_rk_a, pm_vk_i, pm_vk_z, pm_vk_a, pm_cti, pm_ctr, pm_ldi_z, pm_ldi_s, pm_lda_z, pm_lda_s, pm_cat_n, pm_cat_i, pm_cat_r, pm_cat_l, pm_obj, pm_arr, pm_opt, pm_ird, pm_aln, List.getElem?_cons_zero, List.getElem?_cons_succ, List.set_cons_zero, List.set_cons_succ, List.length_cons, List.length_nil, List.length_set, true_and, and_true, Nat.add_zero, Nat.zero_add, Nat.le_refl, Nat.reduceAdd, Nat.reduceLT, Nat.reduceLeDiff, Nat.zero_le, not_false_eq_true, not_true_eq_false, false_implies, implies_true, true_implies, Nat.zero_lt_succ, Nat.lt_add_one, pm_tl_n, pm_tl_s, sc_uL, e, e1]
    exact ⟨C, frC.rf⟩
  · have e1 : ¬ (400 : Int32) < nI (bs.length + 20) := nI_nlt (a := 400) (by omega) (by omega)
    simp only [if_neg c]
    show W_X11_feed _ _ _ _ _ _ _ _ _
    simp only [w_X11_feed_0, w_X11_feed_1, w_X11_feed_4, w_X11_feed_7, w_X11_feed_9, w_X11_feed_10, w_X11_feed_13, w_X11_feed_16, w_X11_feed_17, w_X11_feed_18, w_X11_feed_19, w_X11_feed_20, w_X11_feed_23, w_X11_feed_24, w_X11_feed_25, w_X11_feed_28, w_X11_feed_29, w_X11_feed_30, w_X11_feed_33, w_X11_feed_34, w_X11_feed_36, w_X11_feed_39, w_X11_feed_40, w_X11_feed_42, w_X11_feed_45, w_X11_feed_46, w_X11_feed_49, w_X11_feed_52, pm_1i_c, pm_2i_c, pm_1l_c, pm_2l_c, pm_1a_c, pm_ia_c, pm_iia_c, pm_va_c, pm_cp_c, pm_k0_c, pm_k1_c, pm_k2_c, pm_k3_c, pm_s1_c, pm_s2_c, pm_s3_c, pm_s4_c, pm_ri_c, pm_ra_c, pm_rn_c, pm_rk_i, pm_rk_z, pm_rk_a, pm_vk_i, pm_vk_z, pm_vk_a, pm_cti, pm_ctr, pm_ldi_z, pm_ldi_s, pm_lda_z, pm_lda_s, pm_cat_n, pm_cat_i, pm_cat_r, pm_cat_l, pm_obj, pm_arr, pm_opt, pm_ird, pm_aln, List.getElem?_cons_zero, List.getElem?_cons_succ, List.set_cons_zero, List.set_cons_succ, List.length_cons, List.length_nil, List.length_set, true_and, and_true, Nat.add_zero, Nat.zero_add, Nat.le_refl, Nat.reduceAdd, Nat.reduceLT, Nat.reduceLeDiff, Nat.zero_le, not_false_eq_true, not_true_eq_false, false_implies, implies_true, true_implies, Nat.zero_lt_succ, Nat.lt_add_one, pm_tl_n, pm_tl_s, sc_uL, e, e1, co]
    refine PM_use (c_F_appendBytes C (by omega) x1 d) ?_
    rintro v h2 l2 ⟨rfl, C2, f2⟩
    have co2 := C2.o
    show W_X11_feed _ _ _ _ _ _ _ _ _
    simp only [w_X11_feed_0, w_X11_feed_1, w_X11_feed_4, w_X11_feed_7, w_X11_feed_9, w_X11_feed_10, w_X11_feed_13, w_X11_feed_16, w_X11_feed_17, w_X11_feed_18, w_X11_feed_19, w_X11_feed_20, w_X11_feed_23, w_X11_feed_24, w_X11_feed_25, w_X11_feed_28, w_X11_feed_29, w_X11_feed_30, w_X11_feed_33, w_X11_feed_34, w_X11_feed_36, w_X11_feed_39, w_X11_feed_40, w_X11_feed_42, w_X11_feed_45, w_X11_feed_46, w_X11_feed_49, w_X11_feed_52, pm_1i_c, pm_2i_c, pm_1l_c, pm_2l_c, pm_1a_c, pm_ia_c, pm_iia_c, pm_va_c, pm_cp_c, pm_k0_c, pm_k1_c, pm_k2_c, pm_k3_c, pm_s1_c, pm_s2_c, pm_s3_c, pm_s4_c, pm_ri_c, pm_ra_c, pm_rn_c, pm_rk_i, pm_rk_z, pm_rk_a, pm_vk_i, pm_vk_z, pm_vk_a, pm_cti, pm_ctr, pm_ldi_z, pm_ldi_s, pm_lda_z, pm_lda_s, pm_cat_n, pm_cat_i, pm_cat_r, pm_cat_l, pm_obj, pm_arr, pm_opt, pm_ird, pm_aln, List.getElem?_cons_zero, List.getElem?_cons_succ, List.set_cons_zero, List.set_cons_succ, List.length_cons, List.length_nil, List.length_set, true_and, and_true, Nat.add_zero, Nat.zero_add, Nat.le_refl, Nat.reduceAdd, Nat.reduceLT, Nat.reduceLeDiff, Nat.zero_le, not_false_eq_true, not_true_eq_false, false_implies, implies_true, true_implies, Nat.zero_lt_succ, Nat.lt_add_one, pm_tl_n, pm_tl_s, sc_uL, co2, l2]
    refine PM_use (c_F_appendBytes C2 (by simp [byS]; omega) x2 d) ?_
    rintro v h3 l3 ⟨rfl, C3, f3⟩
    have co3 := C3.o
    show W_X11_feed _ _ _ _ _ _ _ _ _
    simp only [w_X11_feed_0, w_X11_feed_1, w_X11_feed_4, w_X11_feed_7, w_X11_feed_9, w_X11_feed_10, w_X11_feed_13, w_X11_feed_16, w_X11_feed_17, w_X11_feed_18, w_X11_feed_19, w_X11_feed_20, w_X11_feed_23, w_X11_feed_24, w_X11_feed_25, w_X11_feed_28, w_X11_feed_29, w_X11_feed_30, w_X11_feed_33, w_X11_feed_34, w_X11_feed_36, w_X11_feed_39, w_X11_feed_40, w_X11_feed_42, w_X11_feed_45, w_X11_feed_46, w_X11_feed_49, w_X11_feed_52, pm_1i_c, pm_2i_c, pm_1l_c, pm_2l_c, pm_1a_c, pm_ia_c, pm_iia_c, pm_va_c, pm_cp_c, pm_k0_c, pm_k1_c, pm_k2_c, pm_k3_c, pm_s1_c, pm_s2_c, pm_s3_c, pm_s4_c, pm_ri_c, pm_ra_c, pm_rn_c, pm_rk_i, pm_rk_z, pm_rk_a, pm_vk_i, pm_vk_z, pm_vk_a, pm_cti, pm_ctr, pm_ldi_z, pm_ldi_s, pm_lda_z, pm_lda_s, pm_cat_n, pm_cat_i, pm_cat_r, pm_cat_l, pm_obj, pm_arr, pm_opt, pm_ird, pm_aln, List.getElem?_cons_zero, List.getElem?_cons_succ, List.set_cons_zero, List.set_cons_succ, List.length_cons, List.length_nil, List.length_set, true_and, and_true, Nat.add_zero, Nat.zero_add, Nat.le_refl, Nat.reduceAdd, Nat.reduceLT, Nat.reduceLeDiff, Nat.zero_le, not_false_eq_true, not_true_eq_false, false_implies, implies_true, true_implies, Nat.zero_lt_succ, Nat.lt_add_one, pm_tl_n, pm_tl_s, sc_uL, co3, l3, l2]
    refine PM_use (c_F_appendBytes C3 (by simp [byS]; omega) x3 d) ?_
    rintro v h4 l4 ⟨rfl, C4, f4⟩
    have co4 := C4.o
    show W_X11_feed _ _ _ _ _ _ _ _ _
    simp only [w_X11_feed_0, w_X11_feed_1, w_X11_feed_4, w_X11_feed_7, w_X11_feed_9, w_X11_feed_10, w_X11_feed_13, w_X11_feed_16, w_X11_feed_17, w_X11_feed_18, w_X11_feed_19, w_X11_feed_20, w_X11_feed_23, w_X11_feed_24, w_X11_feed_25, w_X11_feed_28, w_X11_feed_29, w_X11_feed_30, w_X11_feed_33, w_X11_feed_34, w_X11_feed_36, w_X11_feed_39, w_X11_feed_40, w_X11_feed_42, w_X11_feed_45, w_X11_feed_46, w_X11_feed_49, w_X11_feed_52, pm_1i_c, pm_2i_c, pm_1l_c, pm_2l_c, pm_1a_c, pm_ia_c, pm_iia_c, pm_va_c, pm_cp_c, pm_k0_c, pm_k1_c, pm_k2_c, pm_k3_c, pm_s1_c, pm_s2_c, pm_s3_c, pm_s4_c, pm_ri_c, pm_ra_c, pm_rn_c, pm_rk_i, pm_rk_z, pm_rk_a, pm_vk_i, pm_vk_z, pm_vk_a, pm_cti, pm_ctr, pm_ldi_z, pm_ldi_s, pm_lda_z, pm_lda_s, pm_cat_n, pm_cat_i, pm_cat_r, pm_cat_l, pm_obj, pm_arr, pm_opt, pm_ird, pm_aln, List.getElem?_cons_zero, List.getElem?_cons_succ, List.set_cons_zero, List.set_cons_succ, List.length_cons, List.length_nil, List.length_set, true_and, and_true, Nat.add_zero, Nat.zero_add, Nat.le_refl, Nat.reduceAdd, Nat.reduceLT, Nat.reduceLeDiff, Nat.zero_le, not_false_eq_true, not_true_eq_false, false_implies, implies_true, true_implies, Nat.zero_lt_succ, Nat.lt_add_one, pm_tl_n, pm_tl_s, sc_uL, co4, l4, l3, l2]
    refine PM_use (c_F_appendBytes C4 (by simp [byS]; omega) x4 d) ?_
    rintro v h5 l5 ⟨rfl, C5, f5⟩
    have co5 := C5.o
    show W_X11_feed _ _ _ _ _ _ _ _ _
    simp only [w_X11_feed_0, w_X11_feed_1, w_X11_feed_4, w_X11_feed_7, w_X11_feed_9, w_X11_feed_10, w_X11_feed_13, w_X11_feed_16, w_X11_feed_17, w_X11_feed_18, w_X11_feed_19, w_X11_feed_20, w_X11_feed_23, w_X11_feed_24, w_X11_feed_25, w_X11_feed_28, w_X11_feed_29, w_X11_feed_30, w_X11_feed_33, w_X11_feed_34, w_X11_feed_36, w_X11_feed_39, w_X11_feed_40, w_X11_feed_42, w_X11_feed_45, w_X11_feed_46, w_X11_feed_49, w_X11_feed_52, pm_1i_c, pm_2i_c, pm_1l_c, pm_2l_c, pm_1a_c, pm_ia_c, pm_iia_c, pm_va_c, pm_cp_c, pm_k0_c, pm_k1_c, pm_k2_c, pm_k3_c, pm_s1_c, pm_s2_c, pm_s3_c, pm_s4_c, pm_ri_c, pm_ra_c, pm_rn_c, pm_rk_i, pm_rk_z, pm_rk_a, pm_vk_i, pm_vk_z, pm_vk_a, pm_cti, pm_ctr, pm_ldi_z, pm_ldi_s, pm_lda_z, pm_lda_s, pm_cat_n, pm_cat_i, pm_cat_r, pm_cat_l, pm_obj, pm_arr, pm_opt, pm_ird, pm_aln, List.getElem?_cons_zero, List.getElem?_cons_succ, List.set_cons_zero, List.set_cons_succ, List.length_cons, List.length_nil, List.length_set, true_and, and_true, Nat.add_zero, Nat.zero_add, Nat.le_refl, Nat.reduceAdd, Nat.reduceLT, Nat.reduceLeDiff, Nat.zero_le, not_false_eq_true, not_true_eq_false, false_implies, implies_true, true_implies, Nat.zero_lt_succ, Nat.lt_add_one, pm_tl_n, pm_tl_s, sc_uL, co5, l5, l4, l3, l2]
    refine PM_use (c_F_appendBytes C5 (by simp [byS]; omega) x5 d) ?_
    rintro v h6 l6 ⟨rfl, C6, f6⟩
    have co6 := C6.o
    have to6 := C6.to
    show W_X11_feed _ _ _ _ _ _ _ _ _
    simp only [w_X11_feed_0, w_X11_feed_1, w_X11_feed_4, w_X11_feed_7, w_X11_feed_9, w_X11_feed_10, w_X11_feed_13, w_X11_feed_16, w_X11_feed_17, w_X11_feed_18, w_X11_feed_19, w_X11_feed_20, w_X11_feed_23, w_X11_feed_24, w_X11_feed_25, w_X11_feed_28, w_X11_feed_29, w_X11_feed_30, w_X11_feed_33, w_X11_feed_34, w_X11_feed_36, w_X11_feed_39, w_X11_feed_40, w_X11_feed_42, w_X11_feed_45, w_X11_feed_46, w_X11_feed_49, w_X11_feed_52, pm_1i_c, pm_2i_c, pm_1l_c, pm_2l_c, pm_1a_c, pm_ia_c, pm_iia_c, pm_va_c, pm_cp_c, pm_k0_c, pm_k1_c, pm_k2_c, pm_k3_c, pm_s1_c, pm_s2_c, pm_s3_c, pm_s4_c, pm_ri_c, pm_ra_c, pm_rn_c, pm_rk_i, pm_rk_z, pm_rk_a, pm_vk_i, pm_vk_z, pm_vk_a, pm_cti, pm_ctr, pm_ldi_z, pm_ldi_s, pm_lda_z, pm_lda_s, pm_cat_n, pm_cat_i, pm_cat_r, pm_cat_l, pm_obj, pm_arr, pm_opt, pm_ird, pm_aln, List.getElem?_cons_zero, List.getElem?_cons_succ, List.set_cons_zero, List.set_cons_succ, List.length_cons, List.length_nil, List.length_set, true_and, and_true, Nat.add_zero, Nat.zero_add, Nat.le_refl, Nat.reduceAdd, Nat.reduceLT, Nat.reduceLeDiff, Nat.zero_le, not_false_eq_true, not_true_eq_false, false_implies, implies_true, true_implies, Nat.zero_lt_succ, Nat.lt_add_one, pm_tl_n, pm_tl_s, sc_uL, co6, to6, l6, l5, l4, l3, l2]
    refine PM_use (c_Row_size C6.tp (d + 1)) ?_
    rintro v h7 l7 ⟨rfl, rfl⟩
    show W_X11_feed _ _ _ _ _ _ _ _ _
    simp only [w_X11_feed_0, w_X11_feed_1, w_X11_feed_4, w_X11_feed_7, w_X11_feed_9, w_X11_feed_10, w_X11_feed_13, w_X11_feed_16, w_X11_feed_17, w_X11_feed_18, w_X11_feed_19, w_X11_feed_20, w_X11_feed_23, w_X11_feed_24, w_X11_feed_25, w_X11_feed_28, w_X11_feed_29, w_X11_feed_30, w_X11_feed_33, w_X11_feed_34, w_X11_feed_36, w_X11_feed_39, w_X11_feed_40, w_X11_feed_42, w_X11_feed_45, w_X11_feed_46, w_X11_feed_49, w_X11_feed_52, pm_1i_c, pm_2i_c, pm_1l_c, pm_2l_c, pm_1a_c, pm_ia_c, pm_iia_c, pm_va_c, pm_cp_c, pm_k0_c, pm_k1_c, pm_k2_c, pm_k3_c, pm_s1_c, pm_s2_c, pm_s3_c, pm_s4_c, pm_ri_c, pm_ra_c, pm_rn_c, pm_rk_i, pm_rk_z, pm_rk_a, pm_vk_i, pm_vk_z, pm_vk_a, pm_cti, pm_ctr, pm_ldi_z, pm_ldi_s, pm_lda_z, pm_lda_s, pm_cat_n, pm_cat_i, pm_cat_r, pm_cat_l, pm_obj, pm_arr, pm_opt, pm_ird, pm_aln, List.getElem?_cons_zero, List.getElem?_cons_succ, List.set_cons_zero, List.set_cons_succ, List.length_cons, List.length_nil, List.length_set, true_and, and_true, Nat.add_zero, Nat.zero_add, Nat.le_refl, Nat.reduceAdd, Nat.reduceLT, Nat.reduceLeDiff, Nat.zero_le, not_false_eq_true, not_true_eq_false, false_implies, implies_true, true_implies, Nat.zero_lt_succ, Nat.lt_add_one, pm_tl_n, pm_tl_s, sc_uL, l6, l5, l4, l3, l2]
    rw [List.append_assoc, List.append_assoc, List.append_assoc, List.append_assoc] at C6 ⊢
    refine ⟨?_, C6, (((f2.tr f3).tr f4).tr f5).tr f6⟩
    simp only [List.length_append, byS, List.length_cons, List.length_nil]
end FC
