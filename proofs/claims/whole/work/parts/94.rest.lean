/-! AdmissionDeskModel: what is behind an item's range or bracket: its times, and the keys told. -/
theorem rpL_at (l : List Int32) : ∀ t k, k < t * l.length → (rpL t l).getD k (-1) = l.getD (k % l.length) (-1)
  | 0, k, h => by
    rw [Nat.zero_mul] at h
    exact absurd h (Nat.not_lt_zero _)
  | t + 1, k, h => by
    rw [rpL_s, List.getD_eq_getElem?_getD, List.getElem?_append, rpL_len]
    rw [Nat.succ_mul] at h
    by_cases c : k < t * l.length
    · rw [if_pos c, ← List.getD_eq_getElem?_getD]
      exact rpL_at l t k c
    · rw [if_neg c, ← List.getD_eq_getElem?_getD]
      have e : k % l.length = k - t * l.length := by
        have e1 : k = (k - t * l.length) + l.length * t := by
          rw [Nat.mul_comm l.length t]
          omega
        rw [e1, Nat.add_mul_mod_self_left, Nat.mod_eq_of_lt (by omega), ← e1]
      rw [e]
theorem rgL_at {a n k : Nat} (h : k < n) : (rgL a n).getD k (-1) = nI (a + k) := by
  unfold rgL
  rw [List.getD_eq_getElem?_getD, List.getElem?_map, List.getElem?_range h]
  rfl
theorem rpL_f (t : Nat) (l : List Int32) : rpL (t + 1) l = l ++ rpL t l := by
  unfold rpL
  rw [List.replicate_succ, List.flatten_cons]
/-- keys alone -/
def kyL (l : List Int32) : Prop := ∀ x ∈ l, ∃ n, n < 100000 ∧ x = nI n
theorem kyL_app {a b : List Int32} (h1 : kyL a) (h2 : kyL b) : kyL (a ++ b) := fun x hx => by
  rcases List.mem_append.mp hx with z | z
  · exact h1 x z
  · exact h2 x z
theorem kyL_rp {l : List Int32} (h : kyL l) : ∀ t, kyL (rpL t l)
  | 0 => fun x hx => absurd hx (by simp [rpL])
  | t + 1 => by
    rw [rpL_s]
    exact kyL_app (kyL_rp h t) h
theorem kyL_rg {a n : Nat} (h : a + n ≤ 100000) : kyL (rgL a n) := fun x hx => by
  unfold rgL at hx
  obtain ⟨j, hj, e⟩ := List.mem_map.mp hx
  have := List.mem_range.mp hj
  exact ⟨a + j, by omega, e.symm⟩
/-- what an item comes to: its times r, the keys before it, one round of its own -/
def zqP (start : Int32) (pre unit : List Int32) (r : Int32 × XZ) (Z : XZ) : Prop := (¬ r.2.1.2 = -1 → Z.1 = r.2.1) ∧ (r.2.1.2 = -1 → ∀ k, r.1 = nI k → 1 ≤ k → k ≤ 100 → (500 < pre.length + unit.length * k → Z.1 = (r.2.1.1, start)) ∧ (¬ 500 < pre.length + unit.length * k → Z.1 = r.2.1 ∧ Z.2 = pre ++ rpL k unit))
theorem ftF_f {more start : Int32} {s : XZ} (h : ¬ s.1.2 = -1) : ftF more start s = s := by
  unfold ftF xFa faF
  rw [if_neg h]
  split <;> rfl
theorem ftF_n {v : Nat} {more start : Int32} {s : XZ} (hv : nI s.2.length + more = nI v) (hl : v < 2 ^ 31) (h : ¬ 500 < v) : ftF more start s = s := by
  unfold ftF
  rw [hv, if_neg (show ¬ (500 : Int32) < nI v from nI_nlt (b := v) (a := 500) (by omega) (by omega))]
theorem ftF_y {v : Nat} {more start : Int32} {s : XZ} (hv : nI s.2.length + more = nI v) (hl : v < 2 ^ 31) (h : 500 < v) (hf : s.1.2 = -1) : ftF more start s = ((s.1.1, start), s.2) := by
  unfold ftF
  rw [hv, if_pos (show (500 : Int32) < nI v from nI_lt (b := v) (a := 500) (by omega) (by omega))]
  unfold xFa faF
  rw [if_pos hf]
theorem mul_100 {a k : Nat} (ha : a ≤ 100000) (hk : k ≤ 100) : a * k ≤ 10000000 := Nat.le_trans (Nat.mul_le_mul ha hk) (by omega)
theorem zq_rr {start first last : Int32} {pre : List Int32} {r : Int32 × XZ} {s : XZ} (hs : start ≠ -1) (hr : r.2.2 = pre) (hp : pre.length ≤ 500) (hq : r.2.1.2 = -1 → ∃ q, q ≤ 100000 ∧ last - first + 1 = nI q) : zqP start pre (rgL first.toNatClampNeg (last - first + 1).toNatClampNeg) r (rrC first last r.1 (ftF ((last - first + 1) * r.1) start r.2)) := by
  refine ⟨fun hf => ?_, fun hf k hk k1 k2 => ?_⟩
  · rw [ftF_f hf]
    unfold rrC
    rw [if_neg hf]
  · obtain ⟨q, q1, q2⟩ := hq hf
    have cq : (nI q).toNatClampNeg = q := nI_clamp (by omega)
    have ck : (nI k).toNatClampNeg = k := nI_clamp (by omega)
    have m1 := mul_100 q1 k2
    have ev : nI r.2.2.length + (last - first + 1) * r.1 = nI (pre.length + q * k) := by
      rw [hr, q2, hk, pk_mul, nI_add]
    rw [rgL_len, q2, cq]
    rw [q2] at ev
    refine ⟨fun z => ?_, fun z => ?_⟩
    · rw [ftF_y ev (by omega) z hf]
      unfold rrC
      rw [if_neg hs]
    · rw [ftF_n ev (by omega) z]
      unfold rrC
      rw [if_pos hf]
      refine ⟨rfl, ?_⟩
      show r.2.2 ++ rpL r.1.toNatClampNeg _ = _
      rw [hr, hk, ck, q2, cq]
theorem zq_rp {start : Int32} {pre unit : List Int32} {r : Int32 × XZ} {s : XZ} (hs : start ≠ -1) (hr : r.2.2 = pre ++ unit) (hsr : s.2 = r.2.2) (hp : pre.length ≤ 500) (hu : unit.length ≤ 500) : zqP start pre unit r (rpC pre.length r.1 (ftF ((nI s.2.length - nI pre.length) * (r.1 - 1)) start r.2)) := by
  refine ⟨fun hf => ?_, fun hf k hk k1 k2 => ?_⟩
  · rw [ftF_f hf]
    unfold rpC
    rw [if_neg hf]
  · obtain ⟨j, rfl⟩ : ∃ j, k = j + 1 := ⟨k - 1, by omega⟩
    have ck : (nI (j + 1)).toNatClampNeg = j + 1 := nI_clamp (by omega)
    have m1 := mul_100 (a := unit.length) (k := j + 1) (by omega) k2
    have m2 : unit.length * (j + 1) = unit.length * j + unit.length := Nat.mul_succ _ _
    have l1 : (pre ++ unit).length = pre.length + unit.length := List.length_append
    have ev : nI r.2.2.length + (nI s.2.length - nI pre.length) * (r.1 - 1) = nI (pre.length + unit.length * (j + 1)) := by
      rw [hsr, hr, hk, show nI (j + 1) - 1 = nI j from nI_pred j, l1, pk_sub (by omega), pk_mul, nI_add]
      congr 1
      rw [show pre.length + unit.length - pre.length = unit.length by omega]
      omega
    refine ⟨fun z => ?_, fun z => ?_⟩
    · rw [ftF_y ev (by omega) z hf]
      unfold rpC
      rw [if_neg hs]
    · rw [ftF_n ev (by omega) z]
      unfold rpC
      rw [if_pos hf]
      refine ⟨rfl, ?_⟩
      show r.2.2 ++ rpL (r.1.toNatClampNeg - 1) (r.2.2.drop pre.length) = _
      rw [hr, hk, ck, List.drop_left, rpL_f, List.append_assoc]
      rfl
section TR
variable {h0 h h' : pmH} {m : Nat} {o : Nat → Int32} {bs : List Int32} {p b dp n : Nat} {fa : Int32} {cs ks : List Int32} {s : XZ}
/-- the row of keys told -/
theorem pr_.tl {g : pmH} {Y : List Int32} {f : Nat → Int32} {p' b' dp' n' : Nat} {fa' : Int32} (P : pr_ h0 g m o bs p b dp n fa cs ks) (H8 : h[m + 8]? = some (.inl (0, 501, .inl f))) (F : fr1 g h (m + 8)) (hY : ∀ k, k < Y.length → f k = Y.getD k (-1)) : pr_ h0 (h.set m (.inr (12, [.ref (m + 1), .ref (m + 2), .ref (m + 3), .int (o 0), .int (o 1), .ref (m + 4), .int (o 2), .ref (m + 5), .int (nI p'), .int (nI b'), .int (nI bs.length), .int fa', .int (o 7), .int (nI dp'), .int (nI n'), .int (nI cs.length), .ref (m + 6), .ref (m + 7), .ref (m + 8), .int (nI Y.length), .ref (m + 9), .ref (m + 10), .int (o 12)]))) m o bs p' b' dp' n' fa' cs Y := by
  obtain ⟨q, f1, f2⟩ := P.2.1
  refine ⟨?_, ⟨q, (hset_n (by omega)).trans ((F _ (by omega)).trans f1), f2⟩, ⟨f, (hset_n (by omega)).trans H8, hY⟩, fun i a b c => (hset_n (Ne.symm a)).trans ((F _ c).trans (P.fr i a b c))⟩
  rw [hset_s, F m (by omega), P.1]
  rfl
set_option maxHeartbeats 4000000 in
theorem c_Z_rest (P : pr_ h0 h m o bs p b dp n fa cs ks) (T : tap_ h0 m bs) (V : NV (cuF bs 5).1 (cuF bs 5).2.2) (S : sm_ bs 5 s.1 p fa) {Z : XZ} {start : Int32} {pre unit : List Int32} (hz : zqP start pre unit (rtF (cuF bs 5).1 (cuF bs 5).2.2 s) Z) (hs : start ≠ -1) {q0 : Nat} (hq : q0 ≤ bs.length) (hst : nI q0 = fbF (cuF bs 5).2.1 (nI bs.length) start) {frm mny fst isR : Int32} (hF : fa = -1 → frm = nI pre.length ∧ mny = nI unit.length ∧ unit.length ≤ 100000 ∧ ((isR = 1 ∧ ks = pre ∧ ∃ a, a ≤ 100000 ∧ fst = nI a ∧ unit = rgL a unit.length) ∨ (isR = 0 ∧ ks = pre ++ unit))) (hks : ks.length ≤ 500) {G : Nat → Int32 → List Int32 → Prop} (hG : ∀ p' fa' ks', sm_ bs 5 Z.1 p' fa' → (fa' = -1 → fa = -1 ∧ ks' = Z.2 ∧ s.1.1 ≤ Z.1.1 ∧ (kyL pre → kyL unit → kyL Z.2)) → ks'.length ≤ 500 → G p' fa' ks') (x6 x7 : Option Value) (d : Nat) : W_X12_item (d + 4) (h.length + 0) 0 (fun x h' => x = none ∧ ∃ p' b' fa' ks', pr_ h0 h' m o bs p' b' dp n fa' cs ks' ∧ G p' fa' ks') 147 [some (.ref m), some (.int (nI q0)), some (.int frm), some (.int fst), some (.int mny), some (.int isR), x6, x7] [] h 0 := by
  have H0 := P.c0
  have L4 := T.1
  -- behind the times
  have key : ∀ (y : Int32) (p1 b1 : Nat) (fa1 : Int32) (g : pmH), pr_ h0 g m o bs p1 b1 dp n fa1 cs ks → g.length = h.length → sm_ bs 5 (rtF (cuF bs 5).1 (cuF bs 5).2.2 s).2.1 p1 fa1 → (fa1 = -1 → fa = -1 ∧ (rtF (cuF bs 5).1 (cuF bs 5).2.2 s).1 = y ∧ (∃ k, 1 ≤ k ∧ k ≤ 100 ∧ y = nI k) ∧ s.1.1 ≤ (rtF (cuF bs 5).1 (cuF bs 5).2.2 s).2.1.1) → W_X12_item (d + 4) (h.length + 0) 0 (fun x h' => x = none ∧ ∃ p' b' fa' ks', pr_ h0 h' m o bs p' b' dp n fa' cs ks' ∧ G p' fa' ks') 168 [some (.ref m), some (.int (nI q0)), some (.int frm), some (.int fst), some (.int mny), some (.int isR), x6, x7] [.int y] g 0 := by
    intro y p1 b1 fa1 g P1 lg S1 h1
    have H1 := P1.c0
    obtain ⟨r, hr⟩ : ∃ r, r = rtF (cuF bs 5).1 (cuF bs 5).2.2 s := ⟨_, rfl⟩
    rw [← hr] at S1 h1 hz
    simp only [w_X12_item_168, w_X12_item_170, w_X12_item_171, pm_1i_c, pm_2i_c, pm_1l_c, pm_2l_c, pm_1a_c, pm_ia_c, pm_iia_c, pm_va_c, pm_cp_c, pm_k0_c, pm_k1_c, pm_k2_c, pm_k3_c, pm_s1_c, pm_s2_c, pm_s3_c, pm_s4_c, pm_ri_c, pm_ra_c, pm_rn_c, pm_rk_i, pm_rk_z, pm_rk_a, pm_vk_i, pm_vk_z, pm_vk_a, pm_cti, pm_ctr, pm_ldi_z, pm_ldi_s, pm_lda_z, pm_lda_s, pm_cat_n, pm_cat_i, pm_cat_r, pm_cat_l, pm_obj, pm_arr, pm_opt, pm_ird, pm_aln, List.getElem?_cons_zero, List.getElem?_cons_succ, List.set_cons_zero, List.set_cons_succ, List.length_cons, List.length_nil, List.length_set, true_and, and_true, Nat.add_zero, Nat.zero_add, Nat.le_refl, Nat.reduceAdd, Nat.reduceLT, Nat.reduceLeDiff, Nat.zero_le, not_false_eq_true, not_true_eq_false, false_implies, implies_true, true_implies, Nat.zero_lt_succ, Nat.lt_add_one, H1, lg]
    refine PM_use (c_Y_hasFailed P1 (d + 3)) ?_
    rintro x g2 l2 ⟨rfl, rfl⟩
    by_cases c : fa1 = -1
    · simp only [if_pos c]
      obtain ⟨hf, e1, ⟨k, k1, k2, rfl⟩, e3⟩ := h1 c
      obtain ⟨w1, w2, w3, w4⟩ := hF hf
      have sf : r.2.1.2 = -1 := S1.ff.mpr c
      obtain ⟨z1, z2⟩ := hz.2 sf k e1 k1 k2
      have pl : pre.length ≤ 500 := by
        rcases w4 with ⟨-, rfl, -⟩ | ⟨-, rfl⟩
        · exact hks
        · rw [List.length_append] at hks
          omega
      have m1 := mul_100 w3 k2
      have y1 : (nI pre.length).toInt64 = lN pre.length := nI_l (by omega)
      have y2 : (nI unit.length).toInt64 = lN unit.length := nI_l (by omega)
      have y3 : (nI k).toInt64 = lN k := nI_l (by omega)
      have y4 : (500 : Int32).toInt64 = lN 500 := nI_l (n := 500) (by omega)
      have mm : nI unit.length * nI k = nI (unit.length * k) := pk_mul _ _
      subst w1 w2
      by_cases c2 : 500 < pre.length + unit.length * k
      · have cl : 0 < lg_cmp (lN (pre.length + unit.length * k)) (lN 500) := (lg_cmp_gt _ _).mpr ((lN_lt (by omega) (by omega)).mpr c2)
        have ez := z1 c2
        show W_X12_item _ _ _ _ _ _ _ _ _
        simp only [w_X12_item_174, w_X12_item_178, w_X12_item_179, w_X12_item_180, w_X12_item_182, w_X12_item_183, w_X12_item_185, w_X12_item_186, w_X12_item_187, w_X12_item_188, w_X12_item_191, w_X12_item_192, w_X12_item_195, w_X12_item_196, w_X12_item_197, pm_1i_c, pm_2i_c, pm_1l_c, pm_2l_c, pm_1a_c, pm_ia_c, pm_iia_c, pm_va_c, pm_cp_c, pm_k0_c, pm_k1_c, pm_k2_c, pm_k3_c, pm_s1_c, pm_s2_c, pm_s3_c, pm_s4_c, pm_ri_c, pm_ra_c, pm_rn_c, pm_rk_i, pm_rk_z, pm_rk_a, pm_vk_i, pm_vk_z, pm_vk_a, pm_cti, pm_ctr, pm_ldi_z, pm_ldi_s, pm_lda_z, pm_lda_s, pm_cat_n, pm_cat_i, pm_cat_r, pm_cat_l, pm_obj, pm_arr, pm_opt, pm_ird, pm_aln, List.getElem?_cons_zero, List.getElem?_cons_succ, List.set_cons_zero, List.set_cons_succ, List.length_cons, List.length_nil, List.length_set, true_and, and_true, Nat.add_zero, Nat.zero_add, Nat.le_refl, Nat.reduceAdd, Nat.reduceLT, Nat.reduceLeDiff, Nat.zero_le, not_false_eq_true, not_true_eq_false, false_implies, implies_true, true_implies, Nat.zero_lt_succ, Nat.lt_add_one, pm_tl_n, pm_tl_s, sc_uL, H1, lg, y1, y2, y3, y4, lN_mul, lN_add, cl]
        refine PM_use (c_Y_failsAt P1 (nI q0) (d + 3)) ?_
        rintro x g3 l3 ⟨rfl, P3⟩
        rw [if_pos c] at P3
        show W_X12_item _ _ _ _ _ _ _ _ _
        simp only [w_X12_item_200, pm_1i_c, pm_2i_c, pm_1l_c, pm_2l_c, pm_1a_c, pm_ia_c, pm_iia_c, pm_va_c, pm_cp_c, pm_k0_c, pm_k1_c, pm_k2_c, pm_k3_c, pm_s1_c, pm_s2_c, pm_s3_c, pm_s4_c, pm_ri_c, pm_ra_c, pm_rn_c, pm_rk_i, pm_rk_z, pm_rk_a, pm_vk_i, pm_vk_z, pm_vk_a, pm_cti, pm_ctr, pm_ldi_z, pm_ldi_s, pm_lda_z, pm_lda_s, pm_cat_n, pm_cat_i, pm_cat_r, pm_cat_l, pm_obj, pm_arr, pm_opt, pm_ird, pm_aln, List.getElem?_cons_zero, List.getElem?_cons_succ, List.set_cons_zero, List.set_cons_succ, List.length_cons, List.length_nil, List.length_set, true_and, and_true, Nat.add_zero, Nat.zero_add, Nat.le_refl, Nat.reduceAdd, Nat.reduceLT, Nat.reduceLeDiff, Nat.zero_le, not_false_eq_true, not_true_eq_false, false_implies, implies_true, true_implies, Nat.zero_lt_succ, Nat.lt_add_one, pm_tl_n, pm_tl_s, sc_uL, l3, lg]
        have n1 : ¬ nI q0 = -1 := nI_ne1 (by omega)
        refine ⟨_, _, _, _, P3, hG _ _ _ ?_ (fun z => absurd z n1) hks⟩
        rw [ez]
        exact ⟨S1.1, Or.inr ⟨hs, n1, hst⟩⟩
      · have cl : ¬ 0 < lg_cmp (lN (pre.length + unit.length * k)) (lN 500) := fun z => c2 ((lN_lt (by omega) (by omega)).mp ((lg_cmp_gt _ _).mp z))
        obtain ⟨ez1, ez2⟩ := z2 c2
        obtain ⟨tf, t1, t2⟩ := P1.2.2.1
        have ly : (pre ++ rpL k unit).length = pre.length + unit.length * k := by
          rw [List.length_append, rpL_len, Nat.mul_comm k]
        have nm : ∀ (l : pmH) (q : pmC), (l.set (m + 8) q)[m]? = l[m]? := fun _ _ => hset_n (by omega)
        have atp : ∀ i, i < pre.length → (pre ++ rpL k unit).getD i (-1) = pre.getD i (-1) := fun i hi => by
          rw [List.getD_eq_getElem?_getD, List.getElem?_append_left hi, ← List.getD_eq_getElem?_getD]
        have atu : ∀ j, j < unit.length * k → (pre ++ rpL k unit).getD (pre.length + j) (-1) = unit.getD (j % unit.length) (-1) := fun j hj => by
          rw [List.getD_eq_getElem?_getD, List.getElem?_append_right (by omega), ← List.getD_eq_getElem?_getD, show pre.length + j - pre.length = j by omega]
          exact rpL_at unit k j (by rw [Nat.mul_comm]; exact hj)
        have loop : ∀ z j, unit.length * k - j = z → j ≤ unit.length * k → ∀ (gg : pmH) (f : Nat → Int32), gg[m + 8]? = some (.inl (0, 501, .inl f)) → fr1 g2 gg (m + 8) → (∀ i, i < pre.length + j → f i = (pre ++ rpL k unit).getD i (-1)) → (isR = 0 → ∀ i, i < unit.length → f (pre.length + i) = unit.getD i (-1)) → gg.length = h.length → W_X12_item (d + 4) (h.length + 0) 0 (fun x h' => x = none ∧ ∃ p' b' fa' ks', pr_ h0 h' m o bs p' b' dp n fa' cs ks' ∧ G p' fa' ks') 204 [some (.ref m), some (.int (nI q0)), some (.int (nI pre.length)), some (.int fst), some (.int (nI unit.length)), some (.int isR), some (.int (nI k)), some (.int (nI j))] [] gg 0 := by
          intro z
          induction z with
          | zero =>
            intro j hj1 hj2 gg f g1 g2 g3 g4 g5
            have : j = unit.length * k := by omega
            subst this
            have Hm := (g2 m (by omega)).trans H1
            have nl : ¬ nI (unit.length * k) < nI (unit.length * k) := Int32.lt_irrefl
            have P9 := P1.tl (Y := pre ++ rpL k unit) (p' := p1) (b' := b1) (dp' := dp) (n' := n) (fa' := fa1) g1 g2 (fun i hi => g3 i (by rw [ly] at hi; exact hi))
            rw [ly] at P9
            rw [w_X12_item_204]
            simp only [w_X12_item_206, w_X12_item_208, w_X12_item_210, w_X12_item_211, w_X12_item_256, w_X12_item_257, w_X12_item_258, w_X12_item_260, w_X12_item_262, w_X12_item_263, w_X12_item_264, w_X12_item_267, pm_1i_c, pm_2i_c, pm_1l_c, pm_2l_c, pm_1a_c, pm_ia_c, pm_iia_c, pm_va_c, pm_cp_c, pm_k0_c, pm_k1_c, pm_k2_c, pm_k3_c, pm_s1_c, pm_s2_c, pm_s3_c, pm_s4_c, pm_ri_c, pm_ra_c, pm_rn_c, pm_rk_i, pm_rk_z, pm_rk_a, pm_vk_i, pm_vk_z, pm_vk_a, pm_cti, pm_ctr, pm_ldi_z, pm_ldi_s, pm_lda_z, pm_lda_s, pm_cat_n, pm_cat_i, pm_cat_r, pm_cat_l, pm_obj, pm_arr, pm_opt, pm_ird, pm_aln, List.getElem?_cons_zero, List.getElem?_cons_succ, List.set_cons_zero, List.set_cons_succ, List.length_cons, List.length_nil, List.length_set, true_and, and_true, Nat.add_zero, Nat.zero_add, Nat.le_refl, Nat.reduceAdd, Nat.reduceLT, Nat.reduceLeDiff, Nat.zero_le, not_false_eq_true, not_true_eq_false, false_implies, implies_true, true_implies, Nat.zero_lt_succ, Nat.lt_add_one, Hm, mm, nl, nI_add, g5]
            refine ⟨_, _, _, _, P9, hG _ _ _ ?_ (fun _ => ⟨hf, ez2.symm, ?_, fun a b => by rw [ez2]; exact kyL_app a (kyL_rp b k)⟩) (by rw [ly]; omega)⟩
            · rw [ez1]
              exact S1
            · rw [ez1]
              exact e3
          | succ z ih =>
            intro j hj1 hj2 gg f g1 g2 g3 g4 g5
            have Hm := (g2 m (by omega)).trans H1
            have v1 : nI j < nI (unit.length * k) := nI_lt (by omega) (by omega)
            have u0 : 0 < unit.length := by
              rcases Nat.eq_zero_or_pos unit.length with y | y
              · rw [y, Nat.zero_mul] at hj1
                omega
              · exact y
            have v2 : ¬ nI unit.length = 0 := nI_ne0 u0 (by omega)
            have v3 : nI j - nI j / nI unit.length * nI unit.length = nI (j % unit.length) := pk_rem (by omega) u0 (by omega)
            have v4 : nI pre.length + nI j = nI (pre.length + j) := nI_add _ _
            have v5 : vp_in (nI (pre.length + j)) 501 := vp_in_nI (by omega) (by omega)
            have v6 : (nI (pre.length + j)).toNatClampNeg = pre.length + j := nI_clamp (by omega)
            have jm := Nat.mod_lt j u0
            have j1 : j % unit.length ≤ j := Nat.mod_le _ _
            rcases w4 with ⟨rfl, e5, a, a1, rfl, e6⟩ | ⟨rfl, e5⟩
            · rw [w_X12_item_204]
              simp only [w_X12_item_206, w_X12_item_208, w_X12_item_210, w_X12_item_211, w_X12_item_214, w_X12_item_215, w_X12_item_218, w_X12_item_219, w_X12_item_221, w_X12_item_222, w_X12_item_224, w_X12_item_227, w_X12_item_228, w_X12_item_230, w_X12_item_232, w_X12_item_233, w_X12_item_234, w_X12_item_237, w_X12_item_238, w_X12_item_241, w_X12_item_242, w_X12_item_244, w_X12_item_246, w_X12_item_247, w_X12_item_248, w_X12_item_249, w_X12_item_250, w_X12_item_253, pm_1i_c, pm_2i_c, pm_1l_c, pm_2l_c, pm_1a_c, pm_ia_c, pm_iia_c, pm_va_c, pm_cp_c, pm_k0_c, pm_k1_c, pm_k2_c, pm_k3_c, pm_s1_c, pm_s2_c, pm_s3_c, pm_s4_c, pm_ri_c, pm_ra_c, pm_rn_c, pm_rk_i, pm_rk_z, pm_rk_a, pm_vk_i, pm_vk_z, pm_vk_a, pm_cti, pm_ctr, pm_ldi_z, pm_ldi_s, pm_lda_z, pm_lda_s, pm_cat_n, pm_cat_i, pm_cat_r, pm_cat_l, pm_obj, pm_arr, pm_opt, pm_ird, pm_aln, List.getElem?_cons_zero, List.getElem?_cons_succ, List.set_cons_zero, List.set_cons_succ, List.length_cons, List.length_nil, List.length_set, true_and, and_true, Nat.add_zero, Nat.zero_add, Nat.le_refl, Nat.reduceAdd, Nat.reduceLT, Nat.reduceLeDiff, Nat.zero_le, not_false_eq_true, not_true_eq_false, false_implies, implies_true, true_implies, Nat.zero_lt_succ, Nat.lt_add_one, Hm, mm, v1, v2, v3, v4, v5, v6, g1, nm, nI_1, g5, show ¬ (1 : Int32) = 0 by decide, nI_add]
              refine ih (j + 1) (by omega) (by omega) _ (upd f (pre.length + j) (nI (a + j % unit.length))) (by rw [hset_s, g1]; rfl) (fun i hi => (hset_n (Ne.symm hi)).trans (g2 i hi)) (fun i hi => ?_) (fun z => absurd z (by decide)) (by rw [List.length_set]; exact g5)
              by_cases ci : i = pre.length + j
              · rw [ci, upd_e, atu j (by omega), e6, rgL_len, rgL_at (by rw [e6, rgL_len] at jm; exact jm)]
              · rw [upd_n ci]
                exact g3 i (by omega)
            · have v7 : nI pre.length + nI (j % unit.length) = nI (pre.length + j % unit.length) := nI_add _ _
              have v8 : vp_in (nI (pre.length + j % unit.length)) 501 := vp_in_nI (by omega) (by omega)
              have v9 : (nI (pre.length + j % unit.length)).toNatClampNeg = pre.length + j % unit.length := nI_clamp (by omega)
              have g4' := g4 rfl
              rw [w_X12_item_204]
              simp only [w_X12_item_206, w_X12_item_208, w_X12_item_210, w_X12_item_211, w_X12_item_214, w_X12_item_215, w_X12_item_218, w_X12_item_219, w_X12_item_221, w_X12_item_222, w_X12_item_224, w_X12_item_227, w_X12_item_228, w_X12_item_230, w_X12_item_232, w_X12_item_233, w_X12_item_234, w_X12_item_237, w_X12_item_238, w_X12_item_241, w_X12_item_242, w_X12_item_244, w_X12_item_246, w_X12_item_247, w_X12_item_248, w_X12_item_249, w_X12_item_250, w_X12_item_253, pm_1i_c, pm_2i_c, pm_1l_c, pm_2l_c, pm_1a_c, pm_ia_c, pm_iia_c, pm_va_c, pm_cp_c, pm_k0_c, pm_k1_c, pm_k2_c, pm_k3_c, pm_s1_c, pm_s2_c, pm_s3_c, pm_s4_c, pm_ri_c, pm_ra_c, pm_rn_c, pm_rk_i, pm_rk_z, pm_rk_a, pm_vk_i, pm_vk_z, pm_vk_a, pm_cti, pm_ctr, pm_ldi_z, pm_ldi_s, pm_lda_z, pm_lda_s, pm_cat_n, pm_cat_i, pm_cat_r, pm_cat_l, pm_obj, pm_arr, pm_opt, pm_ird, pm_aln, List.getElem?_cons_zero, List.getElem?_cons_succ, List.set_cons_zero, List.set_cons_succ, List.length_cons, List.length_nil, List.length_set, true_and, and_true, Nat.add_zero, Nat.zero_add, Nat.le_refl, Nat.reduceAdd, Nat.reduceLT, Nat.reduceLeDiff, Nat.zero_le, not_false_eq_true, not_true_eq_false, false_implies, implies_true, true_implies, Nat.zero_lt_succ, Nat.lt_add_one, Hm, mm, v1, v2, v3, v4, v5, v6, v7, v8, v9, g1, nm, nI_1, g5, g4' _ jm]
              refine ih (j + 1) (by omega) (by omega) _ (upd f (pre.length + j) (unit.getD (j % unit.length) (-1))) (by rw [hset_s, g1]; rfl) (fun i hi => (hset_n (Ne.symm hi)).trans (g2 i hi)) (fun i hi => ?_) (fun _ i hi => ?_) (by rw [List.length_set]; exact g5)
              · by_cases ci : i = pre.length + j
                · rw [ci, upd_e, atu j (by omega)]
                · rw [upd_n ci]
                  exact g3 i (by omega)
              · by_cases ci : pre.length + i = pre.length + j
                · have : i = j := by omega
                  rw [this, upd_e, Nat.mod_eq_of_lt (by omega)]
                · rw [upd_n ci]
                  exact g4' i hi
        show W_X12_item _ _ _ _ _ _ _ _ _
        simp only [w_X12_item_174, w_X12_item_178, w_X12_item_179, w_X12_item_180, w_X12_item_182, w_X12_item_183, w_X12_item_185, w_X12_item_186, w_X12_item_187, w_X12_item_188, w_X12_item_191, w_X12_item_192, w_X12_item_201, w_X12_item_202, pm_1i_c, pm_2i_c, pm_1l_c, pm_2l_c, pm_1a_c, pm_ia_c, pm_iia_c, pm_va_c, pm_cp_c, pm_k0_c, pm_k1_c, pm_k2_c, pm_k3_c, pm_s1_c, pm_s2_c, pm_s3_c, pm_s4_c, pm_ri_c, pm_ra_c, pm_rn_c, pm_rk_i, pm_rk_z, pm_rk_a, pm_vk_i, pm_vk_z, pm_vk_a, pm_cti, pm_ctr, pm_ldi_z, pm_ldi_s, pm_lda_z, pm_lda_s, pm_cat_n, pm_cat_i, pm_cat_r, pm_cat_l, pm_obj, pm_arr, pm_opt, pm_ird, pm_aln, List.getElem?_cons_zero, List.getElem?_cons_succ, List.set_cons_zero, List.set_cons_succ, List.length_cons, List.length_nil, List.length_set, true_and, and_true, Nat.add_zero, Nat.zero_add, Nat.le_refl, Nat.reduceAdd, Nat.reduceLT, Nat.reduceLeDiff, Nat.zero_le, not_false_eq_true, not_true_eq_false, false_implies, implies_true, true_implies, Nat.zero_lt_succ, Nat.lt_add_one, pm_tl_n, pm_tl_s, sc_uL, H1, lg, y1, y2, y3, y4, lN_mul, lN_add, cl]
        refine loop _ 0 rfl (Nat.zero_le _) g2 tf t1 fr1.rf (fun i hi => ?_) (fun z i hi => ?_) lg
        · rw [atp i hi]
          rcases w4 with ⟨-, rfl, -⟩ | ⟨-, rfl⟩
          · exact t2 i hi
          · rw [t2 i (by rw [List.length_append]; omega), List.getD_eq_getElem?_getD, List.getElem?_append_left hi, ← List.getD_eq_getElem?_getD]
        · rcases w4 with ⟨y, -⟩ | ⟨-, rfl⟩
          · rw [y] at z
            exact absurd z (by decide)
          · rw [t2 _ (by rw [List.length_append]; omega), List.getD_eq_getElem?_getD, List.getElem?_append_right (by omega), ← List.getD_eq_getElem?_getD, show pre.length + i - pre.length = i by omega]
    · simp only [if_neg c]
      show W_X12_item _ _ _ _ _ _ _ _ _
      simp only [w_X12_item_174, w_X12_item_177, pm_1i_c, pm_2i_c, pm_1l_c, pm_2l_c, pm_1a_c, pm_ia_c, pm_iia_c, pm_va_c, pm_cp_c, pm_k0_c, pm_k1_c, pm_k2_c, pm_k3_c, pm_s1_c, pm_s2_c, pm_s3_c, pm_s4_c, pm_ri_c, pm_ra_c, pm_rn_c, pm_rk_i, pm_rk_z, pm_rk_a, pm_vk_i, pm_vk_z, pm_vk_a, pm_cti, pm_ctr, pm_ldi_z, pm_ldi_s, pm_lda_z, pm_lda_s, pm_cat_n, pm_cat_i, pm_cat_r, pm_cat_l, pm_obj, pm_arr, pm_opt, pm_ird, pm_aln, List.getElem?_cons_zero, List.getElem?_cons_succ, List.set_cons_zero, List.set_cons_succ, List.length_cons, List.length_nil, List.length_set, true_and, and_true, Nat.add_zero, Nat.zero_add, Nat.le_refl, Nat.reduceAdd, Nat.reduceLT, Nat.reduceLeDiff, Nat.zero_le, not_false_eq_true, not_true_eq_false, false_implies, implies_true, true_implies, Nat.zero_lt_succ, Nat.lt_add_one, pm_tl_n, pm_tl_s, sc_uL, lg, show ¬ (1 : Int32) = 0 by decide]
      refine ⟨_, _, _, _, P1, hG _ _ _ ?_ (fun z => absurd z c) hks⟩
      rw [hz.1 (fun z => c (S1.ff.mp z))]
      exact S1
  simp only [w_X12_item_147, w_X12_item_148, w_X12_item_150, pm_1i_c, pm_2i_c, pm_1l_c, pm_2l_c, pm_1a_c, pm_ia_c, pm_iia_c, pm_va_c, pm_cp_c, pm_k0_c, pm_k1_c, pm_k2_c, pm_k3_c, pm_s1_c, pm_s2_c, pm_s3_c, pm_s4_c, pm_ri_c, pm_ra_c, pm_rn_c, pm_rk_i, pm_rk_z, pm_rk_a, pm_vk_i, pm_vk_z, pm_vk_a, pm_cti, pm_ctr, pm_ldi_z, pm_ldi_s, pm_lda_z, pm_lda_s, pm_cat_n, pm_cat_i, pm_cat_r, pm_cat_l, pm_obj, pm_arr, pm_opt, pm_ird, pm_aln, List.getElem?_cons_zero, List.getElem?_cons_succ, List.set_cons_zero, List.set_cons_succ, List.length_cons, List.length_nil, List.length_set, true_and, and_true, Nat.add_zero, Nat.zero_add, Nat.le_refl, Nat.reduceAdd, Nat.reduceLT, Nat.reduceLeDiff, Nat.zero_le, not_false_eq_true, not_true_eq_false, false_implies, implies_true, true_implies, Nat.zero_lt_succ, Nat.lt_add_one, H0]
  refine PM_use (c_Y_takes P T S sgn_42 d) ?_
  rintro x h1 l1 ⟨rfl, P1⟩
  have H1 := P1.c0
  have K1 := S.tk T.2.1 sgn_42
  have kp := skp_le (bs := bs) S.1
  rcases Bool.eq_false_or_eq_true (taB (cuF bs 5).1 42 s.1) with c | c
  · have c' : taB (cuF bs 5).1 (nI 42) s.1 = true := c
    rw [if_pos c'] at P1 K1 ⊢
    have hf := S.ff.mp (taB_ll (by decide) c).1
    have S2 : sm_ bs 5 (xTk (cuF bs 5).1 42 s).1 (skp bs p + 1) fa := K1
    show W_X12_item _ _ _ _ _ _ _ _ _
    simp only [w_X12_item_153, w_X12_item_156, w_X12_item_157, w_X12_item_158, w_X12_item_159, w_X12_item_161, pm_1i_c, pm_2i_c, pm_1l_c, pm_2l_c, pm_1a_c, pm_ia_c, pm_iia_c, pm_va_c, pm_cp_c, pm_k0_c, pm_k1_c, pm_k2_c, pm_k3_c, pm_s1_c, pm_s2_c, pm_s3_c, pm_s4_c, pm_ri_c, pm_ra_c, pm_rn_c, pm_rk_i, pm_rk_z, pm_rk_a, pm_vk_i, pm_vk_z, pm_vk_a, pm_cti, pm_ctr, pm_ldi_z, pm_ldi_s, pm_lda_z, pm_lda_s, pm_cat_n, pm_cat_i, pm_cat_r, pm_cat_l, pm_obj, pm_arr, pm_opt, pm_ird, pm_aln, List.getElem?_cons_zero, List.getElem?_cons_succ, List.set_cons_zero, List.set_cons_succ, List.length_cons, List.length_nil, List.length_set, true_and, and_true, Nat.add_zero, Nat.zero_add, Nat.le_refl, Nat.reduceAdd, Nat.reduceLT, Nat.reduceLeDiff, Nat.zero_le, not_false_eq_true, not_true_eq_false, false_implies, implies_true, true_implies, Nat.zero_lt_succ, Nat.lt_add_one, pm_tl_n, pm_tl_s, sc_uL, H1, l1, show ¬ (1 : Int32) = 0 by decide]
    refine PM_use (c_Z_num P1 T V S2 hf 1 100 (d + 1)) ?_
    rintro x h2 l2 ⟨y, p2, b2, fa2, rfl, P2, S3, yy⟩
    have er : rtF (cuF bs 5).1 (cuF bs 5).2.2 s = (nnV (cuF bs 5).1 (cuF bs 5).2.2 (xTk (cuF bs 5).1 42 s).1, fuF (inB (nnV (cuF bs 5).1 (cuF bs 5).2.2 (xTk (cuF bs 5).1 42 s).1) 1 100) (xNd (cuF bs 5).1 267 (xTk (cuF bs 5).1 42 s))) := by
      unfold rtF
      rw [if_pos c]
      rfl
    show W_X12_item _ _ _ _ _ _ _ _ _
    simp only [w_X12_item_164, pm_1i_c, pm_2i_c, pm_1l_c, pm_2l_c, pm_1a_c, pm_ia_c, pm_iia_c, pm_va_c, pm_cp_c, pm_k0_c, pm_k1_c, pm_k2_c, pm_k3_c, pm_s1_c, pm_s2_c, pm_s3_c, pm_s4_c, pm_ri_c, pm_ra_c, pm_rn_c, pm_rk_i, pm_rk_z, pm_rk_a, pm_vk_i, pm_vk_z, pm_vk_a, pm_cti, pm_ctr, pm_ldi_z, pm_ldi_s, pm_lda_z, pm_lda_s, pm_cat_n, pm_cat_i, pm_cat_r, pm_cat_l, pm_obj, pm_arr, pm_opt, pm_ird, pm_aln, List.getElem?_cons_zero, List.getElem?_cons_succ, List.set_cons_zero, List.set_cons_succ, List.length_cons, List.length_nil, List.length_set, true_and, and_true, Nat.add_zero, Nat.zero_add, Nat.le_refl, Nat.reduceAdd, Nat.reduceLT, Nat.reduceLeDiff, Nat.zero_le, not_false_eq_true, not_true_eq_false, false_implies, implies_true, true_implies, Nat.zero_lt_succ, Nat.lt_add_one, pm_tl_n, pm_tl_s, sc_uL]
    refine key y p2 b2 fa2 h2 P2 (l2.trans l1) (by rw [er]; exact S3) (fun z => ?_)
    obtain ⟨y1, y2, y3⟩ := yy z
    obtain ⟨a, a1, a2⟩ := nnV_rng V (xTk (cuF bs 5).1 42 s).1
    refine ⟨hf, by rw [er]; exact y1.symm, ⟨a, ?_, ?_, y1.trans a2⟩, ?_⟩
    · rw [y1, a2] at y2
      have y2 := (of_decide_eq_true y2).1
      rcases Nat.eq_zero_or_pos a with e | e
      · rw [e] at y2
        exact absurd (by decide) y2
      · exact e
    · rw [y1, a2] at y2
      have y2 := (of_decide_eq_true y2).2
      rcases Nat.lt_or_ge 100 a with e | e
      · exact absurd (nI_lt (a := 100) e (by omega)) y2
      · exact e
    · rw [er]
      have e4 : (xTk (cuF bs 5).1 42 s).1 = (s.1.1 + 1, s.1.2) := by
        show taF _ _ _ = _
        unfold taF
        rw [if_pos c]
      have e5 := S3.ff.mpr z
      have : fuF (inB (nnV (cuF bs 5).1 (cuF bs 5).2.2 (xTk (cuF bs 5).1 42 s).1) 1 100) (xNd (cuF bs 5).1 267 (xTk (cuF bs 5).1 42 s)) = xNd (cuF bs 5).1 267 (xTk (cuF bs 5).1 42 s) := by
        rw [← y1, y2, fuF_t]
      rw [this]
      show s.1.1 ≤ (neF _ _ _).1
      rw [y3, e4]
      show s.1.1 ≤ s.1.1 + 1 + 1
      omega
  · have c' : ¬ taB (cuF bs 5).1 (nI 42) s.1 = true := by
      rw [show nI 42 = 42 from rfl, c]
      decide
    rw [if_neg c'] at P1 ⊢
    have er : rtF (cuF bs 5).1 (cuF bs 5).2.2 s = (1, s) := by
      unfold rtF
      rw [if_neg (by rw [c]; decide)]
    show W_X12_item _ _ _ _ _ _ _ _ _
    simp only [w_X12_item_153, w_X12_item_167, pm_1i_c, pm_2i_c, pm_1l_c, pm_2l_c, pm_1a_c, pm_ia_c, pm_iia_c, pm_va_c, pm_cp_c, pm_k0_c, pm_k1_c, pm_k2_c, pm_k3_c, pm_s1_c, pm_s2_c, pm_s3_c, pm_s4_c, pm_ri_c, pm_ra_c, pm_rn_c, pm_rk_i, pm_rk_z, pm_rk_a, pm_vk_i, pm_vk_z, pm_vk_a, pm_cti, pm_ctr, pm_ldi_z, pm_ldi_s, pm_lda_z, pm_lda_s, pm_cat_n, pm_cat_i, pm_cat_r, pm_cat_l, pm_obj, pm_arr, pm_opt, pm_ird, pm_aln, List.getElem?_cons_zero, List.getElem?_cons_succ, List.set_cons_zero, List.set_cons_succ, List.length_cons, List.length_nil, List.length_set, true_and, and_true, Nat.add_zero, Nat.zero_add, Nat.le_refl, Nat.reduceAdd, Nat.reduceLT, Nat.reduceLeDiff, Nat.zero_le, not_false_eq_true, not_true_eq_false, false_implies, implies_true, true_implies, Nat.zero_lt_succ, Nat.lt_add_one, pm_tl_n, pm_tl_s, sc_uL, l1]
    refine key 1 _ _ fa h1 P1 l1 (by rw [er]; exact S.sk) (fun z => ⟨z, by rw [er], ⟨1, by omega, by omega, rfl⟩, by rw [er]; exact Nat.le_refl _⟩)
end TR
