/-! The abstract desk: scalars, lists, counters, notes, the law. Sketch's contracts. -/
abbrev AD : Type := (Nat → Int32) × (Nat → List Int32) × (Nat → Int32) × (Nat → Int32) × ((Nat → Int32) → Bool)
def sc (A : AD) (i : Nat) : Int32 := A.1 i
def li (A : AD) (i : Nat) : List Int32 := A.2.1 i
def cn (A : AD) : Nat → Int32 := A.2.2.1
def nt (A : AD) : Nat → Int32 := A.2.2.2.1
def lw (A : AD) : (Nat → Int32) → Bool := A.2.2.2.2
def uS (A : AD) (i : Nat) (v : Int32) : AD := (upd A.1 i v, A.2)
def uL (A : AD) (i : Nat) (l : List Int32) : AD := (A.1, va_up A.2.1 i l, A.2.2)
def uC (A : AD) (f : Nat → Int32) : AD := (A.1, A.2.1, f, A.2.2.2)
def uN (A : AD) (f : Nat → Int32) : AD := (A.1, A.2.1, A.2.2.1, f, A.2.2.2.2)
def uW (A : AD) (f : (Nat → Int32) → Bool) : AD := (A.1, A.2.1, A.2.2.1, A.2.2.2.1, f)
theorem sc_uS {A : AD} {i j : Nat} {v : Int32} : sc (uS A i v) j = if j = i then v else sc A j := rfl
theorem sc_uL {A : AD} {i j : Nat} {l : List Int32} : sc (uL A i l) j = sc A j := rfl
theorem sc_uC {A : AD} {j : Nat} {f : Nat → Int32} : sc (uC A f) j = sc A j := rfl
theorem sc_uN {A : AD} {j : Nat} {f : Nat → Int32} : sc (uN A f) j = sc A j := rfl
theorem sc_uW {A : AD} {j : Nat} {f : (Nat → Int32) → Bool} : sc (uW A f) j = sc A j := rfl
theorem li_uS {A : AD} {i j : Nat} {v : Int32} : li (uS A i v) j = li A j := rfl
theorem li_uL {A : AD} {i j : Nat} {l : List Int32} : li (uL A i l) j = if j = i then l else li A j := rfl
theorem li_uC {A : AD} {j : Nat} {f : Nat → Int32} : li (uC A f) j = li A j := rfl
theorem li_uN {A : AD} {j : Nat} {f : Nat → Int32} : li (uN A f) j = li A j := rfl
theorem li_uW {A : AD} {j : Nat} {f : (Nat → Int32) → Bool} : li (uW A f) j = li A j := rfl
theorem cn_uS {A : AD} {i : Nat} {v : Int32} : cn (uS A i v) = cn A := rfl
theorem cn_uL {A : AD} {i : Nat} {l : List Int32} : cn (uL A i l) = cn A := rfl
theorem cn_uC {A : AD} {f : Nat → Int32} : cn (uC A f) = f := rfl
theorem cn_uN {A : AD} {f : Nat → Int32} : cn (uN A f) = cn A := rfl
theorem cn_uW {A : AD} {f : (Nat → Int32) → Bool} : cn (uW A f) = cn A := rfl
theorem nt_uS {A : AD} {i : Nat} {v : Int32} : nt (uS A i v) = nt A := rfl
theorem nt_uL {A : AD} {i : Nat} {l : List Int32} : nt (uL A i l) = nt A := rfl
theorem nt_uC {A : AD} {f : Nat → Int32} : nt (uC A f) = nt A := rfl
theorem nt_uN {A : AD} {f : Nat → Int32} : nt (uN A f) = f := rfl
theorem nt_uW {A : AD} {f : (Nat → Int32) → Bool} : nt (uW A f) = nt A := rfl
theorem lw_uS {A : AD} {i : Nat} {v : Int32} : lw (uS A i v) = lw A := rfl
theorem lw_uL {A : AD} {i : Nat} {l : List Int32} : lw (uL A i l) = lw A := rfl
theorem lw_uC {A : AD} {f : Nat → Int32} : lw (uC A f) = lw A := rfl
theorem lw_uN {A : AD} {f : Nat → Int32} : lw (uN A f) = lw A := rfl
theorem lw_uW {A : AD} {f : (Nat → Int32) → Bool} : lw (uW A f) = f := rfl
/-- scalars: 0 ADDED, 1 HALVINGS, 2 ASKS, 3 HITS, 4 went out, 5 REGRETS, 6 WON, 7 LOST, 8 ROOM, 9 DOOR, 10 KEPT, 11 SAMPLE, 12 PERIOD, 13 WIDE, 14 doorman, 15 way, 16 in the period, 17 hits in it, 18 hits ahead, 19..22 latest, 23 PARTS of the law; lists: 1 window, 2 tried, 3 safe, 4 out, 5 history -/
def plA (A : AD) (key : Int32) (r : Nat) : Int32 := plI key (nI r) (16 * sc A 13)
def cix (A : AD) (key : Int32) (r : Nat) : Nat := 256 * r + (plA A key r).toNatClampNeg
def nix (key : Int32) (r : Nat) : Nat := (plI key (nI r) (nI 256)).toNatClampNeg
def wdV (A : AD) : Prop := ∃ w, 1 ≤ w ∧ w ≤ 16 ∧ sc A 13 = nI w
def skV (A : AD) : Prop := wdV A ∧ (sc A 14 = 0 ∨ sc A 14 = 1) ∧ ∀ k, k < 256 → nt A k = 0 ∨ nt A k = 1
theorem plA_in {A : AD} (V : wdV A) (key : Int32) (r : Nat) : ∃ m j, 16 ≤ m ∧ m ≤ 256 ∧ 16 * sc A 13 = nI m ∧ j < m ∧ plA A key r = nI j := by
  obtain ⟨w, h1, h2, h3⟩ := V
  have e : (16 : Int32) * sc A 13 = nI (16 * w) := by rw [h3]; exact pk_mul 16 w
  obtain ⟨j, hj, ej⟩ := plI_in key (nI r) (m := 16 * w) (by omega) (by omega)
  exact ⟨16 * w, j, by omega, by omega, e, hj, by unfold plA; rw [e]; exact ej⟩
theorem cix_lt {A : AD} (V : wdV A) (key : Int32) {r : Nat} (hr : r < 4) : cix A key r < 1024 := by
  obtain ⟨m, j, h1, h2, h3, h4, h5⟩ := plA_in V key r
  unfold cix
  rw [h5, nI_clamp (by omega)]
  omega
theorem nix_in (key : Int32) (r : Nat) : ∃ j, j < 256 ∧ plI key (nI r) (nI 256) = nI j ∧ nix key r = j := by
  obtain ⟨j, hj, e⟩ := plI_in key (nI r) (m := 256) (by omega) (by omega)
  exact ⟨j, hj, e, by unfold nix; rw [e, nI_clamp (by omega)]⟩
theorem cix_at {A : AD} (V : wdV A) (key : Int32) {r : Nat} (hr : r < 4) : nI r * 256 + plA A key r = nI (cix A key r) := by
  obtain ⟨m, j, h1, h2, h3, h4, h5⟩ := plA_in V key r
  unfold cix
  rw [h5, nI_clamp (by omega)]
  rw [show (256 : Int32) = nI 256 from rfl, pk_mul, nI_add, Nat.mul_comm]
def notd (A : AD) (key : Int32) : Bool := decide (sc A 14 = 1) && decide (nt A (nix key 0) = 1) && decide (nt A (nix key 1) = 1)
def estL (A : AD) (key : Int32) : Nat → Int32
  | 0 => 15
  | r + 1 => if cn A (cix A key r) < estL A key r then cn A (cix A key r) else estL A key r
def estF (A : AD) (key : Int32) : Int32 := if notd A key then estL A key 4 + 1 else estL A key 4
def raiC (A : AD) (key : Int32) : Nat → (Nat → Int32) × Int32
  | 0 => (cn A, 0)
  | r + 1 => if (raiC A key r).1 (cix A key r) < 15 then (upd (raiC A key r).1 (cix A key r) ((raiC A key r).1 (cix A key r) + 1), 1) else raiC A key r
def halF (A : AD) : AD := uS (uS (uN (uC A (fun k => cn A k / 2)) (fun _ => 0)) 0 (sc A 0 / 2)) 1 (sc A 1 + 1)
def addF1 (A : AD) (key : Int32) : AD := if sc A 14 = 1 ∧ notd A key = false then uN A (upd (upd (nt A) (nix key 0) 1) (nix key 1) 1) else uS (uC A (raiC A key 4).1) 0 (if (raiC A key 4).2 = 0 then sc A 0 else sc A 0 + 1)
def addF (A : AD) (key : Int32) : AD := if sc (addF1 A key) 0 < sc (addF1 A key) 11 then addF1 A key else halF (addF1 A key)
def skA (h : pmH) (a : Nat) (A : AD) : Prop := h[a]? = some (.inr (8, [.ref (a + 1), .ref (a + 2), .int (sc A 14), .int (sc A 0), .int (sc A 11), .int (sc A 13), .int (sc A 1)])) ∧ (∃ fc, h[a + 1]? = some (.inl (0, 1024, .inl fc)) ∧ ∀ k, k < 1024 → fc k = cn A k) ∧ ∃ fn, h[a + 2]? = some (.inl (2, 256, .inl fn)) ∧ ∀ k, k < 256 → fn k = nt A k
def fr3 (h h' : pmH) (a : Nat) : Prop := ∀ i, i ≠ a → i ≠ a + 1 → i ≠ a + 2 → h'[i]? = h[i]?
theorem fr3.rf {h : pmH} {a : Nat} : fr3 h h a := fun _ _ _ _ => rfl
theorem fr3.tr {h h1 h2 : pmH} {a : Nat} (x : fr3 h h1 a) (y : fr3 h1 h2 a) : fr3 h h2 a := fun i p q r => (y i p q r).trans (x i p q r)
theorem hset_31 {l : pmH} {r : Nat} {c : pmC} : (l.set (r + 2) c)[r]? = l[r]? := hset_n (by omega)
theorem hset_32 {l : pmH} {r : Nat} {c : pmC} : (l.set (r + 2) c)[r + 1]? = l[r + 1]? := hset_n (by omega)
theorem hset_33 {l : pmH} {r : Nat} {c : pmC} : (l.set (r + 1) c)[r + 2]? = l[r + 2]? := hset_n (by omega)
theorem hset_34 {l : pmH} {r : Nat} {c : pmC} : (l.set r c)[r + 2]? = l[r + 2]? := hset_n (by omega)
section SKF
variable {h : pmH} {a : Nat} {A : AD}
theorem c_Sketch_places (H : skA h a A) (d : Nat) : PM (d + 1) 75 [.ref a] h (fun v h' => v = some (.int (16 * sc A 13)) ∧ h' = h) := by
  obtain ⟨h1, -⟩ := H
  refine en_X8_places rfl ?_
  simp only [w_X8_places_0, w_X8_places_2, w_X8_places_3, w_X8_places_6, w_X8_places_7, pm_1i_c, pm_2i_c, pm_1l_c, pm_2l_c, pm_1a_c, pm_ia_c, pm_iia_c, pm_va_c, pm_cp_c, pm_k0_c, pm_k1_c, pm_k2_c, pm_k3_c, pm_s1_c, pm_s2_c, pm_s3_c, pm_s4_c, pm_ri_c, pm_ra_c, pm_rn_c, pm_rk_i, pm_rk_z, pm_rk_a, pm_vk_i, pm_vk_z, pm_vk_a, pm_cti, pm_ctr, pm_ldi_z, pm_ldi_s, pm_lda_z, pm_lda_s, pm_cat_n, pm_cat_i, pm_cat_r, pm_cat_l, pm_obj, pm_arr, pm_opt, pm_ird, pm_aln, List.getElem?_cons_zero, List.getElem?_cons_succ, List.set_cons_zero, List.set_cons_succ, List.length_cons, List.length_nil, List.length_set, true_and, and_true, Nat.add_zero, Nat.zero_add, Nat.le_refl, Nat.reduceAdd, Nat.reduceLT, Nat.reduceLeDiff, Nat.zero_le, not_false_eq_true, not_true_eq_false, false_implies, implies_true, true_implies, Nat.zero_lt_succ, Nat.lt_add_one, h1]
theorem c_Sketch_placeOf (hl : h.length ≤ 1000000) (H : skA h a A) (V : wdV A) (key : Int32) {r : Nat} (hr : r < 4) (d : Nat) : PM (d + 2) 76 [.ref a, .int key, .int (nI r)] h (fun v h' => v = some (.int (plA A key r)) ∧ h' = h) := by
  obtain ⟨h1, -⟩ := H
  refine en_X8_placeOf rfl rfl rfl ?_
  simp only [w_X8_placeOf_0, w_X8_placeOf_1, w_X8_placeOf_2, w_X8_placeOf_4, w_X8_placeOf_5, w_X8_placeOf_8, w_X8_placeOf_9, w_X8_placeOf_12, pm_1i_c, pm_2i_c, pm_1l_c, pm_2l_c, pm_1a_c, pm_ia_c, pm_iia_c, pm_va_c, pm_cp_c, pm_k0_c, pm_k1_c, pm_k2_c, pm_k3_c, pm_s1_c, pm_s2_c, pm_s3_c, pm_s4_c, pm_ri_c, pm_ra_c, pm_rn_c, pm_rk_i, pm_rk_z, pm_rk_a, pm_vk_i, pm_vk_z, pm_vk_a, pm_cti, pm_ctr, pm_ldi_z, pm_ldi_s, pm_lda_z, pm_lda_s, pm_cat_n, pm_cat_i, pm_cat_r, pm_cat_l, pm_obj, pm_arr, pm_opt, pm_ird, pm_aln, List.getElem?_cons_zero, List.getElem?_cons_succ, List.set_cons_zero, List.set_cons_succ, List.length_cons, List.length_nil, List.length_set, true_and, and_true, Nat.add_zero, Nat.zero_add, Nat.le_refl, Nat.reduceAdd, Nat.reduceLT, Nat.reduceLeDiff, Nat.zero_le, not_false_eq_true, not_true_eq_false, false_implies, implies_true, true_implies, Nat.zero_lt_succ, Nat.lt_add_one, h1]
  obtain ⟨m, j, q1, q2, q3, q4, q5⟩ := plA_in V key r
  have K := c_Sketch_mixed hl key hr (m := m) (by omega) (by omega) d
  rw [← q3] at K
  refine PM_use K ?_
  rintro v h' - ⟨rfl, rfl⟩
  show W_X8_placeOf _ _ _ _ _ _ _ _ _
  simp only [w_X8_placeOf_0, w_X8_placeOf_1, w_X8_placeOf_2, w_X8_placeOf_4, w_X8_placeOf_5, w_X8_placeOf_8, w_X8_placeOf_9, w_X8_placeOf_12, pm_1i_c, pm_2i_c, pm_1l_c, pm_2l_c, pm_1a_c, pm_ia_c, pm_iia_c, pm_va_c, pm_cp_c, pm_k0_c, pm_k1_c, pm_k2_c, pm_k3_c, pm_s1_c, pm_s2_c, pm_s3_c, pm_s4_c, pm_ri_c, pm_ra_c, pm_rn_c, pm_rk_i, pm_rk_z, pm_rk_a, pm_vk_i, pm_vk_z, pm_vk_a, pm_cti, pm_ctr, pm_ldi_z, pm_ldi_s, pm_lda_z, pm_lda_s, pm_cat_n, pm_cat_i, pm_cat_r, pm_cat_l, pm_obj, pm_arr, pm_opt, pm_ird, pm_aln, List.getElem?_cons_zero, List.getElem?_cons_succ, List.set_cons_zero, List.set_cons_succ, List.length_cons, List.length_nil, List.length_set, true_and, and_true, Nat.add_zero, Nat.zero_add, Nat.le_refl, Nat.reduceAdd, Nat.reduceLT, Nat.reduceLeDiff, Nat.zero_le, not_false_eq_true, not_true_eq_false, false_implies, implies_true, true_implies, Nat.zero_lt_succ, Nat.lt_add_one, pm_tl_s]
  rfl
theorem c_Sketch_counterOf (H : skA h a A) (r p : Int32) {k : Nat} (e : r * 256 + p = nI k) (hk : k < 1024) (d : Nat) : PM (d + 1) 78 [.ref a, .int r, .int p] h (fun v h' => v = some (.int (cn A k)) ∧ h' = h) := by
  obtain ⟨h1, ⟨fc, h2, h3⟩, -⟩ := H
  refine en_X8_counterOf rfl rfl rfl ?_
  have e1 : ¬ nI k < 0 := nI_pos (by omega)
  have e2 : nI k < nI 1024 := nI_lt hk (by omega)
  have e3 : vp_in (nI k) 1024 := vp_in_nI hk (by omega)
  have e4 : (nI k).toNatClampNeg = k := nI_clamp (by omega)
  simp only [w_X8_counterOf_0, w_X8_counterOf_1, w_X8_counterOf_4, w_X8_counterOf_5, w_X8_counterOf_6, w_X8_counterOf_7, w_X8_counterOf_8, w_X8_counterOf_9, w_X8_counterOf_12, w_X8_counterOf_13, w_X8_counterOf_14, w_X8_counterOf_17, w_X8_counterOf_18, w_X8_counterOf_21, w_X8_counterOf_22, w_X8_counterOf_25, w_X8_counterOf_26, w_X8_counterOf_27, w_X8_counterOf_30, w_X8_counterOf_31, pm_1i_c, pm_2i_c, pm_1l_c, pm_2l_c, pm_1a_c, pm_ia_c, pm_iia_c, pm_va_c, pm_cp_c, pm_k0_c, pm_k1_c, pm_k2_c, pm_k3_c, pm_s1_c, pm_s2_c, pm_s3_c, pm_s4_c, pm_ri_c, pm_ra_c, pm_rn_c, pm_rk_i, pm_rk_z, pm_rk_a, pm_vk_i, pm_vk_z, pm_vk_a, pm_cti, pm_ctr, pm_ldi_z, pm_ldi_s, pm_lda_z, pm_lda_s, pm_cat_n, pm_cat_i, pm_cat_r, pm_cat_l, pm_obj, pm_arr, pm_opt, pm_ird, pm_aln, List.getElem?_cons_zero, List.getElem?_cons_succ, List.set_cons_zero, List.set_cons_succ, List.length_cons, List.length_nil, List.length_set, true_and, and_true, Nat.add_zero, Nat.zero_add, Nat.le_refl, Nat.reduceAdd, Nat.reduceLT, Nat.reduceLeDiff, Nat.zero_le, not_false_eq_true, not_true_eq_false, false_implies, implies_true, true_implies, Nat.zero_lt_succ, Nat.lt_add_one, h1, h2, e, e1, e2, e3, e4, h3 k hk]
theorem c_Sketch_isNote (H : skA h a A) {k : Nat} (hk : k < 256) (hv : nt A k = 0 ∨ nt A k = 1) (d : Nat) : PM (d + 1) 81 [.ref a, .int (nI k)] h (fun v h' => v = some (.int (if nt A k = 1 then 1 else 0)) ∧ h' = h) := by
  obtain ⟨h1, -, fn, h2, h3⟩ := H
  refine en_X8_isNote rfl rfl ?_
  have e1 : ¬ nI k < 0 := nI_pos (by omega)
  have e2 : nI k < nI 256 := nI_lt hk (by omega)
  have e3 : vp_in (nI k) 256 := vp_in_nI hk (by omega)
  have e4 : (nI k).toNatClampNeg = k := nI_clamp (by omega)
  simp only [w_X8_isNote_0, w_X8_isNote_1, w_X8_isNote_4, w_X8_isNote_5, w_X8_isNote_6, w_X8_isNote_9, w_X8_isNote_10, w_X8_isNote_13, w_X8_isNote_14, w_X8_isNote_17, w_X8_isNote_18, w_X8_isNote_19, w_X8_isNote_22, w_X8_isNote_23, w_X8_isNote_26, w_X8_isNote_27, pm_1i_c, pm_2i_c, pm_1l_c, pm_2l_c, pm_1a_c, pm_ia_c, pm_iia_c, pm_va_c, pm_cp_c, pm_k0_c, pm_k1_c, pm_k2_c, pm_k3_c, pm_s1_c, pm_s2_c, pm_s3_c, pm_s4_c, pm_ri_c, pm_ra_c, pm_rn_c, pm_rk_i, pm_rk_z, pm_rk_a, pm_vk_i, pm_vk_z, pm_vk_a, pm_cti, pm_ctr, pm_ldi_z, pm_ldi_s, pm_lda_z, pm_lda_s, pm_cat_n, pm_cat_i, pm_cat_r, pm_cat_l, pm_obj, pm_arr, pm_opt, pm_ird, pm_aln, List.getElem?_cons_zero, List.getElem?_cons_succ, List.set_cons_zero, List.set_cons_succ, List.length_cons, List.length_nil, List.length_set, true_and, and_true, Nat.add_zero, Nat.zero_add, Nat.le_refl, Nat.reduceAdd, Nat.reduceLT, Nat.reduceLeDiff, Nat.zero_le, not_false_eq_true, not_true_eq_false, false_implies, implies_true, true_implies, Nat.zero_lt_succ, Nat.lt_add_one, h1, h2, e1, e2, e3, e4, h3 k hk]
  rcases hv with z | z <;> rw [z] <;> simp
theorem c_Sketch_setNote (H : skA h a A) {k : Nat} (hk : k < 256) (d : Nat) : PM (d + 1) 82 [.ref a, .int (nI k)] h (fun v h' => v = none ∧ skA h' a (uN A (upd (nt A) k 1)) ∧ fr3 h h' a) := by
  obtain ⟨h1, h4, fn, h2, h3⟩ := H
  refine en_X8_setNote rfl rfl ?_
  have e1 : ¬ nI k < 0 := nI_pos (by omega)
  have e2 : nI k < nI 256 := nI_lt hk (by omega)
  have e3 : vp_in (nI k) 256 := vp_in_nI hk (by omega)
  have e4 : (nI k).toNatClampNeg = k := nI_clamp (by omega)
  have e5 : vp_nar .boolean 1 = 1 := by decide
  simp only [w_X8_setNote_0, w_X8_setNote_1, w_X8_setNote_4, w_X8_setNote_5, w_X8_setNote_6, w_X8_setNote_9, w_X8_setNote_10, w_X8_setNote_13, w_X8_setNote_14, w_X8_setNote_17, w_X8_setNote_18, w_X8_setNote_19, w_X8_setNote_20, pm_1i_c, pm_2i_c, pm_1l_c, pm_2l_c, pm_1a_c, pm_ia_c, pm_iia_c, pm_va_c, pm_cp_c, pm_k0_c, pm_k1_c, pm_k2_c, pm_k3_c, pm_s1_c, pm_s2_c, pm_s3_c, pm_s4_c, pm_ri_c, pm_ra_c, pm_rn_c, pm_rk_i, pm_rk_z, pm_rk_a, pm_vk_i, pm_vk_z, pm_vk_a, pm_cti, pm_ctr, pm_ldi_z, pm_ldi_s, pm_lda_z, pm_lda_s, pm_cat_n, pm_cat_i, pm_cat_r, pm_cat_l, pm_obj, pm_arr, pm_opt, pm_ird, pm_aln, List.getElem?_cons_zero, List.getElem?_cons_succ, List.set_cons_zero, List.set_cons_succ, List.length_cons, List.length_nil, List.length_set, true_and, and_true, Nat.add_zero, Nat.zero_add, Nat.le_refl, Nat.reduceAdd, Nat.reduceLT, Nat.reduceLeDiff, Nat.zero_le, not_false_eq_true, not_true_eq_false, false_implies, implies_true, true_implies, Nat.zero_lt_succ, Nat.lt_add_one, h1, h2, e1, e2, e3, e4]
  refine ⟨Or.inr trivial, ⟨by rw [hset_31]; exact h1, by rw [hset_32]; exact h4, _, by rw [hset_s, h2]; rfl, fun j hj => ?_⟩, fun i x y z => hset_n (Ne.symm z)⟩
  show upd fn k _ j = upd (nt A) k 1 j
  unfold upd
  split
  · exact e5
  · exact h3 j hj
theorem c_Sketch_hasNoted (hl : h.length ≤ 1000000) (H : skA h a A) (V : skV A) (key : Int32) (d : Nat) : PM (d + 2) 80 [.ref a, .int key] h (fun v h' => v = some (.int (if notd A key then 1 else 0)) ∧ h' = h) := by
  have H0 := H
  obtain ⟨h1, -⟩ := H
  refine en_X8_hasNoted rfl rfl ?_
  obtain ⟨j0, q0, r0, s0⟩ := nix_in key 0
  obtain ⟨j1, q1, r1, s1⟩ := nix_in key 1
  have K0 := c_Sketch_mixed hl key (r := 0) (by omega) (m := 256) (by omega) (by omega) d
  have K1 := c_Sketch_mixed hl key (r := 1) (by omega) (m := 256) (by omega) (by omega) d
  rw [r0] at K0
  rw [r1] at K1
  simp only [w_X8_hasNoted_0, w_X8_hasNoted_1, w_X8_hasNoted_4, w_X8_hasNoted_7, w_X8_hasNoted_8, w_X8_hasNoted_9, w_X8_hasNoted_10, w_X8_hasNoted_13, w_X8_hasNoted_16, w_X8_hasNoted_19, w_X8_hasNoted_22, w_X8_hasNoted_23, w_X8_hasNoted_24, w_X8_hasNoted_25, w_X8_hasNoted_28, w_X8_hasNoted_31, w_X8_hasNoted_34, w_X8_hasNoted_37, w_X8_hasNoted_38, w_X8_hasNoted_41, w_X8_hasNoted_42, pm_1i_c, pm_2i_c, pm_1l_c, pm_2l_c, pm_1a_c, pm_ia_c, pm_iia_c, pm_va_c, pm_cp_c, pm_k0_c, pm_k1_c, pm_k2_c, pm_k3_c, pm_s1_c, pm_s2_c, pm_s3_c, pm_s4_c, pm_ri_c, pm_ra_c, pm_rn_c, pm_rk_i, pm_rk_z, pm_rk_a, pm_vk_i, pm_vk_z, pm_vk_a, pm_cti, pm_ctr, pm_ldi_z, pm_ldi_s, pm_lda_z, pm_lda_s, pm_cat_n, pm_cat_i, pm_cat_r, pm_cat_l, pm_obj, pm_arr, pm_opt, pm_ird, pm_aln, List.getElem?_cons_zero, List.getElem?_cons_succ, List.set_cons_zero, List.set_cons_succ, List.length_cons, List.length_nil, List.length_set, true_and, and_true, Nat.add_zero, Nat.zero_add, Nat.le_refl, Nat.reduceAdd, Nat.reduceLT, Nat.reduceLeDiff, Nat.zero_le, not_false_eq_true, not_true_eq_false, false_implies, implies_true, true_implies, Nat.zero_lt_succ, Nat.lt_add_one, h1]
  rcases V.2.1 with z | z
  · rw [z]
    simp [notd, z]
  · rw [z]
    simp only [show ¬ (1 : Int32) = 0 by decide, not_false_eq_true, true_implies, false_implies, true_and]
    refine PM_use K0 ?_
    rintro v h' - ⟨rfl, rfl⟩
    show W_X8_hasNoted _ _ _ _ _ _ _ _ _
    simp only [w_X8_hasNoted_0, w_X8_hasNoted_1, w_X8_hasNoted_4, w_X8_hasNoted_7, w_X8_hasNoted_8, w_X8_hasNoted_9, w_X8_hasNoted_10, w_X8_hasNoted_13, w_X8_hasNoted_16, w_X8_hasNoted_19, w_X8_hasNoted_22, w_X8_hasNoted_23, w_X8_hasNoted_24, w_X8_hasNoted_25, w_X8_hasNoted_28, w_X8_hasNoted_31, w_X8_hasNoted_34, w_X8_hasNoted_37, w_X8_hasNoted_38, w_X8_hasNoted_41, w_X8_hasNoted_42, pm_1i_c, pm_2i_c, pm_1l_c, pm_2l_c, pm_1a_c, pm_ia_c, pm_iia_c, pm_va_c, pm_cp_c, pm_k0_c, pm_k1_c, pm_k2_c, pm_k3_c, pm_s1_c, pm_s2_c, pm_s3_c, pm_s4_c, pm_ri_c, pm_ra_c, pm_rn_c, pm_rk_i, pm_rk_z, pm_rk_a, pm_vk_i, pm_vk_z, pm_vk_a, pm_cti, pm_ctr, pm_ldi_z, pm_ldi_s, pm_lda_z, pm_lda_s, pm_cat_n, pm_cat_i, pm_cat_r, pm_cat_l, pm_obj, pm_arr, pm_opt, pm_ird, pm_aln, List.getElem?_cons_zero, List.getElem?_cons_succ, List.set_cons_zero, List.set_cons_succ, List.length_cons, List.length_nil, List.length_set, true_and, and_true, Nat.add_zero, Nat.zero_add, Nat.le_refl, Nat.reduceAdd, Nat.reduceLT, Nat.reduceLeDiff, Nat.zero_le, not_false_eq_true, not_true_eq_false, false_implies, implies_true, true_implies, Nat.zero_lt_succ, Nat.lt_add_one, pm_tl_s, h1]
    refine PM_use (c_Sketch_isNote H0 q0 (V.2.2 _ q0) d) ?_
    rintro v h' - ⟨rfl, rfl⟩
    show W_X8_hasNoted _ _ _ _ _ _ _ _ _
    simp only [w_X8_hasNoted_0, w_X8_hasNoted_1, w_X8_hasNoted_4, w_X8_hasNoted_7, w_X8_hasNoted_8, w_X8_hasNoted_9, w_X8_hasNoted_10, w_X8_hasNoted_13, w_X8_hasNoted_16, w_X8_hasNoted_19, w_X8_hasNoted_22, w_X8_hasNoted_23, w_X8_hasNoted_24, w_X8_hasNoted_25, w_X8_hasNoted_28, w_X8_hasNoted_31, w_X8_hasNoted_34, w_X8_hasNoted_37, w_X8_hasNoted_38, w_X8_hasNoted_41, w_X8_hasNoted_42, pm_1i_c, pm_2i_c, pm_1l_c, pm_2l_c, pm_1a_c, pm_ia_c, pm_iia_c, pm_va_c, pm_cp_c, pm_k0_c, pm_k1_c, pm_k2_c, pm_k3_c, pm_s1_c, pm_s2_c, pm_s3_c, pm_s4_c, pm_ri_c, pm_ra_c, pm_rn_c, pm_rk_i, pm_rk_z, pm_rk_a, pm_vk_i, pm_vk_z, pm_vk_a, pm_cti, pm_ctr, pm_ldi_z, pm_ldi_s, pm_lda_z, pm_lda_s, pm_cat_n, pm_cat_i, pm_cat_r, pm_cat_l, pm_obj, pm_arr, pm_opt, pm_ird, pm_aln, List.getElem?_cons_zero, List.getElem?_cons_succ, List.set_cons_zero, List.set_cons_succ, List.length_cons, List.length_nil, List.length_set, true_and, and_true, Nat.add_zero, Nat.zero_add, Nat.le_refl, Nat.reduceAdd, Nat.reduceLT, Nat.reduceLeDiff, Nat.zero_le, not_false_eq_true, not_true_eq_false, false_implies, implies_true, true_implies, Nat.zero_lt_succ, Nat.lt_add_one, pm_tl_s, h1]
    rcases V.2.2 _ q0 with y | y
    · rw [y]
      simp [notd, s0, y]
    · rw [y]
      simp only [if_true, show ¬ (1 : Int32) = 0 by decide, not_false_eq_true, true_implies, false_implies, true_and]
      refine PM_use K1 ?_
      rintro v h' - ⟨rfl, rfl⟩
      show W_X8_hasNoted _ _ _ _ _ _ _ _ _
      simp only [w_X8_hasNoted_0, w_X8_hasNoted_1, w_X8_hasNoted_4, w_X8_hasNoted_7, w_X8_hasNoted_8, w_X8_hasNoted_9, w_X8_hasNoted_10, w_X8_hasNoted_13, w_X8_hasNoted_16, w_X8_hasNoted_19, w_X8_hasNoted_22, w_X8_hasNoted_23, w_X8_hasNoted_24, w_X8_hasNoted_25, w_X8_hasNoted_28, w_X8_hasNoted_31, w_X8_hasNoted_34, w_X8_hasNoted_37, w_X8_hasNoted_38, w_X8_hasNoted_41, w_X8_hasNoted_42, pm_1i_c, pm_2i_c, pm_1l_c, pm_2l_c, pm_1a_c, pm_ia_c, pm_iia_c, pm_va_c, pm_cp_c, pm_k0_c, pm_k1_c, pm_k2_c, pm_k3_c, pm_s1_c, pm_s2_c, pm_s3_c, pm_s4_c, pm_ri_c, pm_ra_c, pm_rn_c, pm_rk_i, pm_rk_z, pm_rk_a, pm_vk_i, pm_vk_z, pm_vk_a, pm_cti, pm_ctr, pm_ldi_z, pm_ldi_s, pm_lda_z, pm_lda_s, pm_cat_n, pm_cat_i, pm_cat_r, pm_cat_l, pm_obj, pm_arr, pm_opt, pm_ird, pm_aln, List.getElem?_cons_zero, List.getElem?_cons_succ, List.set_cons_zero, List.set_cons_succ, List.length_cons, List.length_nil, List.length_set, true_and, and_true, Nat.add_zero, Nat.zero_add, Nat.le_refl, Nat.reduceAdd, Nat.reduceLT, Nat.reduceLeDiff, Nat.zero_le, not_false_eq_true, not_true_eq_false, false_implies, implies_true, true_implies, Nat.zero_lt_succ, Nat.lt_add_one, pm_tl_s, h1]
      refine PM_use (c_Sketch_isNote H0 q1 (V.2.2 _ q1) d) ?_
      rintro v h' - ⟨rfl, rfl⟩
      show W_X8_hasNoted _ _ _ _ _ _ _ _ _
      simp only [w_X8_hasNoted_0, w_X8_hasNoted_1, w_X8_hasNoted_4, w_X8_hasNoted_7, w_X8_hasNoted_8, w_X8_hasNoted_9, w_X8_hasNoted_10, w_X8_hasNoted_13, w_X8_hasNoted_16, w_X8_hasNoted_19, w_X8_hasNoted_22, w_X8_hasNoted_23, w_X8_hasNoted_24, w_X8_hasNoted_25, w_X8_hasNoted_28, w_X8_hasNoted_31, w_X8_hasNoted_34, w_X8_hasNoted_37, w_X8_hasNoted_38, w_X8_hasNoted_41, w_X8_hasNoted_42, pm_1i_c, pm_2i_c, pm_1l_c, pm_2l_c, pm_1a_c, pm_ia_c, pm_iia_c, pm_va_c, pm_cp_c, pm_k0_c, pm_k1_c, pm_k2_c, pm_k3_c, pm_s1_c, pm_s2_c, pm_s3_c, pm_s4_c, pm_ri_c, pm_ra_c, pm_rn_c, pm_rk_i, pm_rk_z, pm_rk_a, pm_vk_i, pm_vk_z, pm_vk_a, pm_cti, pm_ctr, pm_ldi_z, pm_ldi_s, pm_lda_z, pm_lda_s, pm_cat_n, pm_cat_i, pm_cat_r, pm_cat_l, pm_obj, pm_arr, pm_opt, pm_ird, pm_aln, List.getElem?_cons_zero, List.getElem?_cons_succ, List.set_cons_zero, List.set_cons_succ, List.length_cons, List.length_nil, List.length_set, true_and, and_true, Nat.add_zero, Nat.zero_add, Nat.le_refl, Nat.reduceAdd, Nat.reduceLT, Nat.reduceLeDiff, Nat.zero_le, not_false_eq_true, not_true_eq_false, false_implies, implies_true, true_implies, Nat.zero_lt_succ, Nat.lt_add_one, pm_tl_s]
      rcases V.2.2 _ q1 with x | x <;> rw [x] <;> simp [notd, s0, s1, y, x, z]
end SKF
