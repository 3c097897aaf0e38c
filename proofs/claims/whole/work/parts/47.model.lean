/-! AdmissionDeskModel: its cells; what its row of numbers says of a desk. -/
theorem ix_1552 : (1552 : Int32).toNatClampNeg = 1552 := rfl
theorem vi_1552 : vp_in 1552 2195 := vp_in_nI (show 1552 < 2195 by omega) (by omega)
theorem ix_1553 : (1553 : Int32).toNatClampNeg = 1553 := rfl
theorem vi_1553 : vp_in 1553 2195 := vp_in_nI (show 1553 < 2195 by omega) (by omega)
theorem ix_1554 : (1554 : Int32).toNatClampNeg = 1554 := rfl
theorem vi_1554 : vp_in 1554 2195 := vp_in_nI (show 1554 < 2195 by omega) (by omega)
theorem ix_1569 : (1569 : Int32).toNatClampNeg = 1569 := rfl
theorem vi_1569 : vp_in 1569 2195 := vp_in_nI (show 1569 < 2195 by omega) (by omega)
theorem ix_1570 : (1570 : Int32).toNatClampNeg = 1570 := rfl
theorem vi_1570 : vp_in 1570 2195 := vp_in_nI (show 1570 < 2195 by omega) (by omega)
theorem ix_1024 : (1024 : Int32).toNatClampNeg = 1024 := rfl
theorem vi_1024 : vp_in 1024 2195 := vp_in_nI (show 1024 < 2195 by omega) (by omega)
theorem ix_1280 : (1280 : Int32).toNatClampNeg = 1280 := rfl
theorem vi_1280 : vp_in 1280 2195 := vp_in_nI (show 1280 < 2195 by omega) (by omega)
theorem ix_1670 : (1670 : Int32).toNatClampNeg = 1670 := rfl
theorem vi_1670 : vp_in 1670 2195 := vp_in_nI (show 1670 < 2195 by omega) (by omega)
theorem ix_1671 : (1671 : Int32).toNatClampNeg = 1671 := rfl
theorem vi_1671 : vp_in 1671 2195 := vp_in_nI (show 1671 < 2195 by omega) (by omega)
theorem ix_1672 : (1672 : Int32).toNatClampNeg = 1672 := rfl
theorem vi_1672 : vp_in 1672 2195 := vp_in_nI (show 1672 < 2195 by omega) (by omega)
theorem ix_1673 : (1673 : Int32).toNatClampNeg = 1673 := rfl
theorem vi_1673 : vp_in 1673 2195 := vp_in_nI (show 1673 < 2195 by omega) (by omega)
theorem ix_1674 : (1674 : Int32).toNatClampNeg = 1674 := rfl
theorem vi_1674 : vp_in 1674 2195 := vp_in_nI (show 1674 < 2195 by omega) (by omega)
theorem ix_1675 : (1675 : Int32).toNatClampNeg = 1675 := rfl
theorem vi_1675 : vp_in 1675 2195 := vp_in_nI (show 1675 < 2195 by omega) (by omega)
theorem ix_1676 : (1676 : Int32).toNatClampNeg = 1676 := rfl
theorem vi_1676 : vp_in 1676 2195 := vp_in_nI (show 1676 < 2195 by omega) (by omega)
theorem ix_1677 : (1677 : Int32).toNatClampNeg = 1677 := rfl
theorem vi_1677 : vp_in 1677 2195 := vp_in_nI (show 1677 < 2195 by omega) (by omega)
theorem ix_1678 : (1678 : Int32).toNatClampNeg = 1678 := rfl
theorem vi_1678 : vp_in 1678 2195 := vp_in_nI (show 1678 < 2195 by omega) (by omega)
theorem ix_1679 : (1679 : Int32).toNatClampNeg = 1679 := rfl
theorem vi_1679 : vp_in 1679 2195 := vp_in_nI (show 1679 < 2195 by omega) (by omega)
theorem ix_1680 : (1680 : Int32).toNatClampNeg = 1680 := rfl
theorem vi_1680 : vp_in 1680 2195 := vp_in_nI (show 1680 < 2195 by omega) (by omega)
theorem ix_1681 : (1681 : Int32).toNatClampNeg = 1681 := rfl
theorem vi_1681 : vp_in 1681 2195 := vp_in_nI (show 1681 < 2195 by omega) (by omega)
theorem ix_1682 : (1682 : Int32).toNatClampNeg = 1682 := rfl
theorem vi_1682 : vp_in 1682 2195 := vp_in_nI (show 1682 < 2195 by omega) (by omega)
theorem ix_1683 : (1683 : Int32).toNatClampNeg = 1683 := rfl
theorem vi_1683 : vp_in 1683 2195 := vp_in_nI (show 1683 < 2195 by omega) (by omega)
theorem ix_1684 : (1684 : Int32).toNatClampNeg = 1684 := rfl
theorem vi_1684 : vp_in 1684 2195 := vp_in_nI (show 1684 < 2195 by omega) (by omega)
theorem ix_1685 : (1685 : Int32).toNatClampNeg = 1685 := rfl
theorem vi_1685 : vp_in 1685 2195 := vp_in_nI (show 1685 < 2195 by omega) (by omega)
theorem ix_1686 : (1686 : Int32).toNatClampNeg = 1686 := rfl
theorem vi_1686 : vp_in 1686 2195 := vp_in_nI (show 1686 < 2195 by omega) (by omega)
theorem ix_1687 : (1687 : Int32).toNatClampNeg = 1687 := rfl
theorem vi_1687 : vp_in 1687 2195 := vp_in_nI (show 1687 < 2195 by omega) (by omega)
theorem ix_1688 : (1688 : Int32).toNatClampNeg = 1688 := rfl
theorem vi_1688 : vp_in 1688 2195 := vp_in_nI (show 1688 < 2195 by omega) (by omega)
theorem ix_1689 : (1689 : Int32).toNatClampNeg = 1689 := rfl
theorem vi_1689 : vp_in 1689 2195 := vp_in_nI (show 1689 < 2195 by omega) (by omega)
theorem ix_1690 : (1690 : Int32).toNatClampNeg = 1690 := rfl
theorem vi_1690 : vp_in 1690 2195 := vp_in_nI (show 1690 < 2195 by omega) (by omega)
theorem ix_1691 : (1691 : Int32).toNatClampNeg = 1691 := rfl
theorem vi_1691 : vp_in 1691 2195 := vp_in_nI (show 1691 < 2195 by omega) (by omega)
theorem ix_1692 : (1692 : Int32).toNatClampNeg = 1692 := rfl
theorem vi_1692 : vp_in 1692 2195 := vp_in_nI (show 1692 < 2195 by omega) (by omega)
theorem ix_1693 : (1693 : Int32).toNatClampNeg = 1693 := rfl
theorem vi_1693 : vp_in 1693 2195 := vp_in_nI (show 1693 < 2195 by omega) (by omega)
theorem ix_1694 : (1694 : Int32).toNatClampNeg = 1694 := rfl
theorem vi_1694 : vp_in 1694 2195 := vp_in_nI (show 1694 < 2195 by omega) (by omega)
theorem ix_1695 : (1695 : Int32).toNatClampNeg = 1695 := rfl
theorem vi_1695 : vp_in 1695 2195 := vp_in_nI (show 1695 < 2195 by omega) (by omega)
def fr1 (h h' : pmH) (a : Nat) : Prop := ∀ i, i ≠ a → h'[i]? = h[i]?
theorem fr1.rf {h : pmH} {a : Nat} : fr1 h h a := fun _ _ => rfl
theorem fr1.tr {h h1 h2 : pmH} {a : Nat} (x : fr1 h h1 a) (y : fr1 h1 h2 a) : fr1 h h2 a := fun i p => (y i p).trans (x i p)
/-- the model's own numbers: 0 hasKept, 1 thrown, 2 taped, 3 point, 4 begin, 5 size, 6 faultAt, 7 fault, 8 deep, 9 partsTold, 10 coded, 11 asksTold, 12 written -/
def mO (h : pmH) (m : Nat) (o : Nat → Int32) : Prop := h[m]? = some (.inr (12, [.ref (m + 1), .ref (m + 2), .ref (m + 3), .int (o 0), .int (o 1), .ref (m + 4), .int (o 2), .ref (m + 5), .int (o 3), .int (o 4), .int (o 5), .int (o 6), .int (o 7), .int (o 8), .int (o 9), .int (o 10), .ref (m + 6), .ref (m + 7), .ref (m + 8), .int (o 11), .ref (m + 9), .ref (m + 10), .int (o 12)]))
def mjn (c l r : Int32) : Int32 := if c = 20 then l + r else if c = 21 then l - r else if c = 22 then (if l < r then 1 else 0) else if c = 23 then (if l = r then 1 else 0) else if c = 24 then (if r < l then 1 else 0) else if c = 26 then l &&& r else l ||| r
def mfc (fc : Nat → Int32) (c : Int32) : Int32 := if c = 0 then fc 0 else if c = 1 then fc 1 else if c = 2 then fc 2 else if c = 3 then fc 3 else if c = 4 then fc 4 else if c = 5 then fc 5 else if c = 6 then fc 6 else fc 7
def mst (fc : Nat → Int32) (st : List Int32) (c : Int32) : List Int32 := if ¬ c < 1000 ∨ c < 20 then st ++ [if c < 1000 then mfc fc c else c - 1000] else if c = 25 then st.dropLast ++ [1 - st.getLastD (-1)] else st.dropLast.dropLast ++ [mjn c (st.dropLast.getLastD (-1)) (st.getLastD (-1))]
/-- how deep the pile is behind the codes, none where it falls below what is needed -/
def mdp : Nat → List Int32 → Option Nat
  | n, [] => some n
  | n, c :: cs => if ¬ c < 1000 ∨ c < 20 then mdp (n + 1) cs else if c = 25 then (if 1 ≤ n then mdp n cs else none) else (if 2 ≤ n then mdp (n - 1) cs else none)
def mlw (f : Nat → Int32) (w : (Nat → Int32) → Bool) : Prop := ∃ cs : List Int32, f 1694 = nI cs.length ∧ cs.length ≤ 500 ∧ (∀ k, k < cs.length → f (1695 + k) = cs.getD k (-1)) ∧ mdp 0 cs = some 1 ∧ ∀ fc, decide ((cs.foldl (mst fc) []).getD 0 (-1) = 1) = w fc
def rep (f : Nat → Int32) (A : AD) : Prop := (∀ k, k < 1024 → f k = cn A k) ∧ (∀ k, k < 256 → f (1024 + k) = nt A k) ∧ (∀ p, 1 ≤ p → p ≤ 3 → (li A p).length ≤ 66 ∧ f (1280 + 68 * p) = nI (li A p).length ∧ ∀ k, k < (li A p).length → f (1280 + 68 * p + 1 + k) = (li A p).getD k (-1)) ∧ ((li A 4).length ≤ 16 ∧ f 1552 = nI (li A 4).length ∧ ∀ k, k < (li A 4).length → f (1553 + k) = (li A 4).getD k (-1)) ∧ ((li A 5).length ≤ 100 ∧ f 1569 = nI (li A 5).length ∧ ∀ k, k < (li A 5).length → f (1570 + k) = (li A 5).getD k (-1)) ∧ (∀ i, i < 24 → f (1670 + i) = sc A i) ∧ (sc A 23 = -1 ∨ mlw f (lw A))
section RP
variable {f f' : Nat → Int32} {A : AD}
theorem rep.c (R : rep f A) {k : Nat} (hk : k < 1024) : f k = cn A k := R.1 k hk
theorem rep.n (R : rep f A) {k : Nat} (hk : k < 256) : f (1024 + k) = nt A k := R.2.1 k hk
theorem rep.p (R : rep f A) {p : Nat} (h1 : 1 ≤ p) (h3 : p ≤ 3) : (li A p).length ≤ 66 ∧ f (1280 + 68 * p) = nI (li A p).length ∧ ∀ k, k < (li A p).length → f (1280 + 68 * p + 1 + k) = (li A p).getD k (-1) := R.2.2.1 p h1 h3
theorem rep.o (R : rep f A) : (li A 4).length ≤ 16 ∧ f 1552 = nI (li A 4).length ∧ ∀ k, k < (li A 4).length → f (1553 + k) = (li A 4).getD k (-1) := R.2.2.2.1
theorem rep.h (R : rep f A) : (li A 5).length ≤ 100 ∧ f 1569 = nI (li A 5).length ∧ ∀ k, k < (li A 5).length → f (1570 + k) = (li A 5).getD k (-1) := R.2.2.2.2.1
theorem rep.s (R : rep f A) {i : Nat} (hi : i < 24) : f (1670 + i) = sc A i := R.2.2.2.2.2.1 i hi
theorem rep.w (R : rep f A) : sc A 23 = -1 ∨ mlw f (lw A) := R.2.2.2.2.2.2
theorem mlw.cg {w : (Nat → Int32) → Bool} (H : mlw f w) (e : ∀ k, 1694 ≤ k → f' k = f k) : mlw f' w := by
  obtain ⟨cs, h1, h2, h3, h4⟩ := H
  exact ⟨cs, (e _ (by omega)).trans h1, h2, fun k hk => (e _ (by omega)).trans (h3 k hk), h4⟩
theorem rep.gL (R : rep f A) {p : Nat} {l : List Int32} (h1 : 1 ≤ p) (h3 : p ≤ 3) (e : ∀ k, k < 1280 + 68 * p ∨ 1280 + 68 * p + 68 ≤ k → f' k = f k) (hl : l.length ≤ 66) (e1 : f' (1280 + 68 * p) = nI l.length) (e2 : ∀ k, k < l.length → f' (1280 + 68 * p + 1 + k) = l.getD k (-1)) : rep f' (uL A p l) := by
  refine ⟨fun k hk => (e _ (by omega)).trans (R.c hk), fun k hk => (e _ (by omega)).trans (R.n hk), fun q q1 q3 => ?_, ?_, ?_, fun i hi => (e _ (by omega)).trans (R.s hi), R.w.imp id (fun H => H.cg (fun k hk => e k (by omega)))⟩
  · rw [li_uL]
    by_cases c : q = p
    · rw [if_pos c, c]
      exact ⟨hl, e1, e2⟩
    · rw [if_neg c]
      obtain ⟨a1, a2, a3⟩ := R.p q1 q3
      exact ⟨a1, (e _ (by omega)).trans a2, fun k hk => (e _ (by omega)).trans (a3 k hk)⟩
  · rw [li_uL, if_neg (by omega)]
    obtain ⟨a1, a2, a3⟩ := R.o
    exact ⟨a1, (e _ (by omega)).trans a2, fun k hk => (e _ (by omega)).trans (a3 k hk)⟩
  · rw [li_uL, if_neg (by omega)]
    obtain ⟨a1, a2, a3⟩ := R.h
    exact ⟨a1, (e _ (by omega)).trans a2, fun k hk => (e _ (by omega)).trans (a3 k hk)⟩
theorem rep.gO (R : rep f A) {l : List Int32} (e : ∀ k, k < 1552 ∨ 1569 ≤ k → f' k = f k) (hl : l.length ≤ 16) (e1 : f' 1552 = nI l.length) (e2 : ∀ k, k < l.length → f' (1553 + k) = l.getD k (-1)) : rep f' (uL A 4 l) := by
  refine ⟨fun k hk => (e _ (by omega)).trans (R.c hk), fun k hk => (e _ (by omega)).trans (R.n hk), fun q q1 q3 => ?_, ?_, ?_, fun i hi => (e _ (by omega)).trans (R.s hi), R.w.imp id (fun H => H.cg (fun k hk => e k (by omega)))⟩
  · rw [li_uL, if_neg (by omega)]
    obtain ⟨a1, a2, a3⟩ := R.p q1 q3
    exact ⟨a1, (e _ (by omega)).trans a2, fun k hk => (e _ (by omega)).trans (a3 k hk)⟩
  · rw [li_same]
    exact ⟨hl, e1, e2⟩
  · rw [li_uL, if_neg (by omega)]
    obtain ⟨a1, a2, a3⟩ := R.h
    exact ⟨a1, (e _ (by omega)).trans a2, fun k hk => (e _ (by omega)).trans (a3 k hk)⟩
theorem rep.gH (R : rep f A) {l : List Int32} (e : ∀ k, k < 1569 ∨ 1670 ≤ k → f' k = f k) (hl : l.length ≤ 100) (e1 : f' 1569 = nI l.length) (e2 : ∀ k, k < l.length → f' (1570 + k) = l.getD k (-1)) : rep f' (uL A 5 l) := by
  refine ⟨fun k hk => (e _ (by omega)).trans (R.c hk), fun k hk => (e _ (by omega)).trans (R.n hk), fun q q1 q3 => ?_, ?_, ?_, fun i hi => (e _ (by omega)).trans (R.s hi), R.w.imp id (fun H => H.cg (fun k hk => e k (by omega)))⟩
  · rw [li_uL, if_neg (by omega)]
    obtain ⟨a1, a2, a3⟩ := R.p q1 q3
    exact ⟨a1, (e _ (by omega)).trans a2, fun k hk => (e _ (by omega)).trans (a3 k hk)⟩
  · rw [li_uL, if_neg (by omega)]
    obtain ⟨a1, a2, a3⟩ := R.o
    exact ⟨a1, (e _ (by omega)).trans a2, fun k hk => (e _ (by omega)).trans (a3 k hk)⟩
  · rw [li_same]
    exact ⟨hl, e1, e2⟩
/-- the counters, the notes and the scalars at other values; the lists and the law as they were -/
theorem rep.gX (R : rep f A) {A' : AD} (e : ∀ k, 1280 ≤ k → (k < 1670 ∨ 1694 ≤ k) → f' k = f k) (c : ∀ k, k < 1024 → f' k = cn A' k) (n : ∀ k, k < 256 → f' (1024 + k) = nt A' k) (s : ∀ i, i < 24 → f' (1670 + i) = sc A' i) (hl : li A' = li A) (hw : lw A' = lw A) (h23 : sc A' 23 = sc A 23 ∨ sc A' 23 = -1) : rep f' A' := by
  refine ⟨c, n, fun q q1 q3 => ?_, ?_, ?_, s, ?_⟩
  · rw [hl]
    obtain ⟨a1, a2, a3⟩ := R.p q1 q3
    exact ⟨a1, (e _ (by omega) (by omega)).trans a2, fun k hk => (e _ (by omega) (by omega)).trans (a3 k hk)⟩
  · rw [hl]
    obtain ⟨a1, a2, a3⟩ := R.o
    exact ⟨a1, (e _ (by omega) (by omega)).trans a2, fun k hk => (e _ (by omega) (by omega)).trans (a3 k hk)⟩
  · rw [hl]
    obtain ⟨a1, a2, a3⟩ := R.h
    exact ⟨a1, (e _ (by omega) (by omega)).trans a2, fun k hk => (e _ (by omega) (by omega)).trans (a3 k hk)⟩
  · rw [hw]
    rcases h23 with h23 | h23
    · rw [h23]
      exact R.w.imp id (fun H => H.cg (fun k hk => e k (by omega) (by omega)))
    · exact Or.inl h23
theorem rep.gS (R : rep f A) {i : Nat} (hi : i < 23) (v : Int32) : rep (upd f (1670 + i) v) (uS A i v) := by
  have ne : ∀ k, k ≠ 1670 + i → upd f (1670 + i) v k = f k := fun k hk => if_neg hk
  refine R.gX (fun k a b => ne k (by omega)) (fun k hk => (ne k (by omega)).trans (R.c hk)) (fun k hk => (ne _ (by omega)).trans (R.n hk)) (fun j hj => ?_) rfl rfl (Or.inl (sc_ne (by omega)))
  rw [sc_uS]
  by_cases c : j = i
  · rw [if_pos c, c]
    exact if_pos rfl
  · rw [if_neg c]
    exact (ne _ (by omega)).trans (R.s hj)
end RP
def md_ (h : pmH) (m : Nat) (o : Nat → Int32) (A : AD) : Prop := mO h m o ∧ ∃ f, h[m + 1]? = some (.inl (0, 2195, .inl f)) ∧ rep f A
section MB
variable {h h' : pmH} {m : Nat} {o : Nat → Int32} {A A' : AD}
theorem mO.kept (H : mO h m o) (f : fr1 h h' (m + 1)) : mO h' m o := (f m (by omega)).trans H
/-- one number more in the row -/
theorem md_.set {f f' : Nat → Int32} (H : mO h m o) (H1 : h[m + 1]? = some (.inl (0, 2195, .inl f))) (R : rep f' A') : md_ (h.set (m + 1) (.inl (0, 2195, .inl f'))) m o A' ∧ fr1 h (h.set (m + 1) (.inl (0, 2195, .inl f'))) (m + 1) := by
  refine ⟨⟨?_, f', by rw [hset_s, H1]; rfl, R⟩, fun i hi => hset_n (Ne.symm hi)⟩
  unfold mO
  rw [hset_n (by omega)]
  exact H
theorem c_M_thrown (H : mO h m o) (d : Nat) : PM (d + 1) 145 [.ref m] h (fun v h' => v = some (.int (o 1)) ∧ h' = h) := by
  have H0 := H
  unfold mO at H0
  refine en_X12_thrown rfl ?_
  simp only [w_X12_thrown_0, w_X12_thrown_1, w_X12_thrown_4, pm_1i_c, pm_2i_c, pm_1l_c, pm_2l_c, pm_1a_c, pm_ia_c, pm_iia_c, pm_va_c, pm_cp_c, pm_k0_c, pm_k1_c, pm_k2_c, pm_k3_c, pm_s1_c, pm_s2_c, pm_s3_c, pm_s4_c, pm_ri_c, pm_ra_c, pm_rn_c, pm_rk_i, pm_rk_z, pm_rk_a, pm_vk_i, pm_vk_z, pm_vk_a, pm_cti, pm_ctr, pm_ldi_z, pm_ldi_s, pm_lda_z, pm_lda_s, pm_cat_n, pm_cat_i, pm_cat_r, pm_cat_l, pm_obj, pm_arr, pm_opt, pm_ird, pm_aln, List.getElem?_cons_zero, List.getElem?_cons_succ, List.set_cons_zero, List.set_cons_succ, List.length_cons, List.length_nil, List.length_set, true_and, and_true, Nat.add_zero, Nat.zero_add, Nat.le_refl, Nat.reduceAdd, Nat.reduceLT, Nat.reduceLeDiff, Nat.zero_le, not_false_eq_true, not_true_eq_false, false_implies, implies_true, true_implies, Nat.zero_lt_succ, Nat.lt_add_one, H0]
/-- 'in' -/
def inB (v l r : Int32) : Bool := decide (¬ v < l ∧ ¬ r < v)
theorem c_M_in (v l r : Int32) (d : Nat) : PM (d + 1) 147 [.int v, .int l, .int r] h (fun x h' => x = some (.int (if inB v l r then 1 else 0)) ∧ h' = h) := by
  refine en_X12_in rfl rfl rfl ?_
  unfold inB
  by_cases c1 : v < l
  · simp only [w_X12_in_0, w_X12_in_1, w_X12_in_2, w_X12_in_5, w_X12_in_6, w_X12_in_7, w_X12_in_10, w_X12_in_11, w_X12_in_14, w_X12_in_15, pm_1i_c, pm_2i_c, pm_1l_c, pm_2l_c, pm_1a_c, pm_ia_c, pm_iia_c, pm_va_c, pm_cp_c, pm_k0_c, pm_k1_c, pm_k2_c, pm_k3_c, pm_s1_c, pm_s2_c, pm_s3_c, pm_s4_c, pm_ri_c, pm_ra_c, pm_rn_c, pm_rk_i, pm_rk_z, pm_rk_a, pm_vk_i, pm_vk_z, pm_vk_a, pm_cti, pm_ctr, pm_ldi_z, pm_ldi_s, pm_lda_z, pm_lda_s, pm_cat_n, pm_cat_i, pm_cat_r, pm_cat_l, pm_obj, pm_arr, pm_opt, pm_ird, pm_aln, List.getElem?_cons_zero, List.getElem?_cons_succ, List.set_cons_zero, List.set_cons_succ, List.length_cons, List.length_nil, List.length_set, true_and, and_true, Nat.add_zero, Nat.zero_add, Nat.le_refl, Nat.reduceAdd, Nat.reduceLT, Nat.reduceLeDiff, Nat.zero_le, not_false_eq_true, not_true_eq_false, false_implies, implies_true, true_implies, Nat.zero_lt_succ, Nat.lt_add_one, c1]
    simp
  · by_cases c2 : r < v
    · simp only [w_X12_in_0, w_X12_in_1, w_X12_in_2, w_X12_in_5, w_X12_in_6, w_X12_in_7, w_X12_in_10, w_X12_in_11, w_X12_in_14, w_X12_in_15, pm_1i_c, pm_2i_c, pm_1l_c, pm_2l_c, pm_1a_c, pm_ia_c, pm_iia_c, pm_va_c, pm_cp_c, pm_k0_c, pm_k1_c, pm_k2_c, pm_k3_c, pm_s1_c, pm_s2_c, pm_s3_c, pm_s4_c, pm_ri_c, pm_ra_c, pm_rn_c, pm_rk_i, pm_rk_z, pm_rk_a, pm_vk_i, pm_vk_z, pm_vk_a, pm_cti, pm_ctr, pm_ldi_z, pm_ldi_s, pm_lda_z, pm_lda_s, pm_cat_n, pm_cat_i, pm_cat_r, pm_cat_l, pm_obj, pm_arr, pm_opt, pm_ird, pm_aln, List.getElem?_cons_zero, List.getElem?_cons_succ, List.set_cons_zero, List.set_cons_succ, List.length_cons, List.length_nil, List.length_set, true_and, and_true, Nat.add_zero, Nat.zero_add, Nat.le_refl, Nat.reduceAdd, Nat.reduceLT, Nat.reduceLeDiff, Nat.zero_le, not_false_eq_true, not_true_eq_false, false_implies, implies_true, true_implies, Nat.zero_lt_succ, Nat.lt_add_one, c1, c2]
      simp
    · simp only [w_X12_in_0, w_X12_in_1, w_X12_in_2, w_X12_in_5, w_X12_in_6, w_X12_in_7, w_X12_in_10, w_X12_in_11, w_X12_in_14, w_X12_in_15, pm_1i_c, pm_2i_c, pm_1l_c, pm_2l_c, pm_1a_c, pm_ia_c, pm_iia_c, pm_va_c, pm_cp_c, pm_k0_c, pm_k1_c, pm_k2_c, pm_k3_c, pm_s1_c, pm_s2_c, pm_s3_c, pm_s4_c, pm_ri_c, pm_ra_c, pm_rn_c, pm_rk_i, pm_rk_z, pm_rk_a, pm_vk_i, pm_vk_z, pm_vk_a, pm_cti, pm_ctr, pm_ldi_z, pm_ldi_s, pm_lda_z, pm_lda_s, pm_cat_n, pm_cat_i, pm_cat_r, pm_cat_l, pm_obj, pm_arr, pm_opt, pm_ird, pm_aln, List.getElem?_cons_zero, List.getElem?_cons_succ, List.set_cons_zero, List.set_cons_succ, List.length_cons, List.length_nil, List.length_set, true_and, and_true, Nat.add_zero, Nat.zero_add, Nat.le_refl, Nat.reduceAdd, Nat.reduceLT, Nat.reduceLeDiff, Nat.zero_le, not_false_eq_true, not_true_eq_false, false_implies, implies_true, true_implies, Nat.zero_lt_succ, Nat.lt_add_one, c1, c2]
      simp
theorem c_M_hashed (key : Int32) {r : Nat} (hr : r < 4) (d : Nat) : PM (d + 1) 178 [.int key, .int (nI r)] h (fun x h' => x = some (.int (hsI key (nI r))) ∧ h' = h) := by
  refine en_X12_hashed rfl rfl ?_
  have e0 : nI 0 = 0 := rfl
  have e1 : nI 1 = 1 := rfl
  have e2 : nI 2 = 2 := rfl
  have e3 : nI 3 = 3 := rfl
  have : r = 0 ∨ r = 1 ∨ r = 2 ∨ r = 3 := by omega
  rcases this with rfl | rfl | rfl | rfl
  · simp only [w_X12_hashed_0, w_X12_hashed_1, w_X12_hashed_4, w_X12_hashed_6, w_X12_hashed_9, w_X12_hashed_10, w_X12_hashed_11, w_X12_hashed_14, w_X12_hashed_16, w_X12_hashed_19, w_X12_hashed_20, w_X12_hashed_21, w_X12_hashed_24, w_X12_hashed_26, w_X12_hashed_29, w_X12_hashed_31, w_X12_hashed_32, w_X12_hashed_33, w_X12_hashed_34, w_X12_hashed_35, w_X12_hashed_36, w_X12_hashed_37, w_X12_hashed_38, w_X12_hashed_39, w_X12_hashed_40, w_X12_hashed_42, w_X12_hashed_43, w_X12_hashed_44, w_X12_hashed_46, w_X12_hashed_47, pm_1i_c, pm_2i_c, pm_1l_c, pm_2l_c, pm_1a_c, pm_ia_c, pm_iia_c, pm_va_c, pm_cp_c, pm_k0_c, pm_k1_c, pm_k2_c, pm_k3_c, pm_s1_c, pm_s2_c, pm_s3_c, pm_s4_c, pm_ri_c, pm_ra_c, pm_rn_c, pm_rk_i, pm_rk_z, pm_rk_a, pm_vk_i, pm_vk_z, pm_vk_a, pm_cti, pm_ctr, pm_ldi_z, pm_ldi_s, pm_lda_z, pm_lda_s, pm_cat_n, pm_cat_i, pm_cat_r, pm_cat_l, pm_obj, pm_arr, pm_opt, pm_ird, pm_aln, List.getElem?_cons_zero, List.getElem?_cons_succ, List.set_cons_zero, List.set_cons_succ, List.length_cons, List.length_nil, List.length_set, true_and, and_true, Nat.add_zero, Nat.zero_add, Nat.le_refl, Nat.reduceAdd, Nat.reduceLT, Nat.reduceLeDiff, Nat.zero_le, not_false_eq_true, not_true_eq_false, false_implies, implies_true, true_implies, Nat.zero_lt_succ, Nat.lt_add_one, e0]
    rfl
  · simp only [w_X12_hashed_0, w_X12_hashed_1, w_X12_hashed_4, w_X12_hashed_6, w_X12_hashed_9, w_X12_hashed_10, w_X12_hashed_11, w_X12_hashed_14, w_X12_hashed_16, w_X12_hashed_19, w_X12_hashed_20, w_X12_hashed_21, w_X12_hashed_24, w_X12_hashed_26, w_X12_hashed_29, w_X12_hashed_31, w_X12_hashed_32, w_X12_hashed_33, w_X12_hashed_34, w_X12_hashed_35, w_X12_hashed_36, w_X12_hashed_37, w_X12_hashed_38, w_X12_hashed_39, w_X12_hashed_40, w_X12_hashed_42, w_X12_hashed_43, w_X12_hashed_44, w_X12_hashed_46, w_X12_hashed_47, pm_1i_c, pm_2i_c, pm_1l_c, pm_2l_c, pm_1a_c, pm_ia_c, pm_iia_c, pm_va_c, pm_cp_c, pm_k0_c, pm_k1_c, pm_k2_c, pm_k3_c, pm_s1_c, pm_s2_c, pm_s3_c, pm_s4_c, pm_ri_c, pm_ra_c, pm_rn_c, pm_rk_i, pm_rk_z, pm_rk_a, pm_vk_i, pm_vk_z, pm_vk_a, pm_cti, pm_ctr, pm_ldi_z, pm_ldi_s, pm_lda_z, pm_lda_s, pm_cat_n, pm_cat_i, pm_cat_r, pm_cat_l, pm_obj, pm_arr, pm_opt, pm_ird, pm_aln, List.getElem?_cons_zero, List.getElem?_cons_succ, List.set_cons_zero, List.set_cons_succ, List.length_cons, List.length_nil, List.length_set, true_and, and_true, Nat.add_zero, Nat.zero_add, Nat.le_refl, Nat.reduceAdd, Nat.reduceLT, Nat.reduceLeDiff, Nat.zero_le, not_false_eq_true, not_true_eq_false, false_implies, implies_true, true_implies, Nat.zero_lt_succ, Nat.lt_add_one, e1, show ¬ (1 : Int32) = 0 by decide]
    rfl
  · simp only [w_X12_hashed_0, w_X12_hashed_1, w_X12_hashed_4, w_X12_hashed_6, w_X12_hashed_9, w_X12_hashed_10, w_X12_hashed_11, w_X12_hashed_14, w_X12_hashed_16, w_X12_hashed_19, w_X12_hashed_20, w_X12_hashed_21, w_X12_hashed_24, w_X12_hashed_26, w_X12_hashed_29, w_X12_hashed_31, w_X12_hashed_32, w_X12_hashed_33, w_X12_hashed_34, w_X12_hashed_35, w_X12_hashed_36, w_X12_hashed_37, w_X12_hashed_38, w_X12_hashed_39, w_X12_hashed_40, w_X12_hashed_42, w_X12_hashed_43, w_X12_hashed_44, w_X12_hashed_46, w_X12_hashed_47, pm_1i_c, pm_2i_c, pm_1l_c, pm_2l_c, pm_1a_c, pm_ia_c, pm_iia_c, pm_va_c, pm_cp_c, pm_k0_c, pm_k1_c, pm_k2_c, pm_k3_c, pm_s1_c, pm_s2_c, pm_s3_c, pm_s4_c, pm_ri_c, pm_ra_c, pm_rn_c, pm_rk_i, pm_rk_z, pm_rk_a, pm_vk_i, pm_vk_z, pm_vk_a, pm_cti, pm_ctr, pm_ldi_z, pm_ldi_s, pm_lda_z, pm_lda_s, pm_cat_n, pm_cat_i, pm_cat_r, pm_cat_l, pm_obj, pm_arr, pm_opt, pm_ird, pm_aln, List.getElem?_cons_zero, List.getElem?_cons_succ, List.set_cons_zero, List.set_cons_succ, List.length_cons, List.length_nil, List.length_set, true_and, and_true, Nat.add_zero, Nat.zero_add, Nat.le_refl, Nat.reduceAdd, Nat.reduceLT, Nat.reduceLeDiff, Nat.zero_le, not_false_eq_true, not_true_eq_false, false_implies, implies_true, true_implies, Nat.zero_lt_succ, Nat.lt_add_one, e2, show ¬ (2 : Int32) = 0 by decide, show ¬ (2 : Int32) = 1 by decide]
    rfl
  · simp only [w_X12_hashed_0, w_X12_hashed_1, w_X12_hashed_4, w_X12_hashed_6, w_X12_hashed_9, w_X12_hashed_10, w_X12_hashed_11, w_X12_hashed_14, w_X12_hashed_16, w_X12_hashed_19, w_X12_hashed_20, w_X12_hashed_21, w_X12_hashed_24, w_X12_hashed_26, w_X12_hashed_29, w_X12_hashed_31, w_X12_hashed_32, w_X12_hashed_33, w_X12_hashed_34, w_X12_hashed_35, w_X12_hashed_36, w_X12_hashed_37, w_X12_hashed_38, w_X12_hashed_39, w_X12_hashed_40, w_X12_hashed_42, w_X12_hashed_43, w_X12_hashed_44, w_X12_hashed_46, w_X12_hashed_47, pm_1i_c, pm_2i_c, pm_1l_c, pm_2l_c, pm_1a_c, pm_ia_c, pm_iia_c, pm_va_c, pm_cp_c, pm_k0_c, pm_k1_c, pm_k2_c, pm_k3_c, pm_s1_c, pm_s2_c, pm_s3_c, pm_s4_c, pm_ri_c, pm_ra_c, pm_rn_c, pm_rk_i, pm_rk_z, pm_rk_a, pm_vk_i, pm_vk_z, pm_vk_a, pm_cti, pm_ctr, pm_ldi_z, pm_ldi_s, pm_lda_z, pm_lda_s, pm_cat_n, pm_cat_i, pm_cat_r, pm_cat_l, pm_obj, pm_arr, pm_opt, pm_ird, pm_aln, List.getElem?_cons_zero, List.getElem?_cons_succ, List.set_cons_zero, List.set_cons_succ, List.length_cons, List.length_nil, List.length_set, true_and, and_true, Nat.add_zero, Nat.zero_add, Nat.le_refl, Nat.reduceAdd, Nat.reduceLT, Nat.reduceLeDiff, Nat.zero_le, not_false_eq_true, not_true_eq_false, false_implies, implies_true, true_implies, Nat.zero_lt_succ, Nat.lt_add_one, e3, show ¬ (3 : Int32) = 0 by decide, show ¬ (3 : Int32) = 1 by decide, show ¬ (3 : Int32) = 2 by decide]
    rfl
theorem c_M_placeOf (H : md_ h m o A) (V : wdV A) (key : Int32) {r : Nat} (hr : r < 4) (d : Nat) : PM (d + 2) 179 [.ref m, .int key, .int (nI r)] h (fun v h' => v = some (.int (plA A key r)) ∧ h' = h) := by
  obtain ⟨H0, f, H1, R⟩ := H
  unfold mO at H0
  obtain ⟨u, j, q1, q2, q3, q4, q5⟩ := plA_in V key r
  have s13 : f 1683 = sc A 13 := R.s (i := 13) (by omega)
  have ne : ¬ (16 * sc A 13) = 0 := by rw [q3]; exact nI_ne0 (by omega) (by omega)
  refine en_X12_placeOf rfl rfl rfl ?_
  simp only [w_X12_placeOf_0, w_X12_placeOf_1, w_X12_placeOf_2, w_X12_placeOf_5, w_X12_placeOf_7, w_X12_placeOf_8, w_X12_placeOf_11, w_X12_placeOf_14, w_X12_placeOf_15, w_X12_placeOf_16, w_X12_placeOf_17, pm_1i_c, pm_2i_c, pm_1l_c, pm_2l_c, pm_1a_c, pm_ia_c, pm_iia_c, pm_va_c, pm_cp_c, pm_k0_c, pm_k1_c, pm_k2_c, pm_k3_c, pm_s1_c, pm_s2_c, pm_s3_c, pm_s4_c, pm_ri_c, pm_ra_c, pm_rn_c, pm_rk_i, pm_rk_z, pm_rk_a, pm_vk_i, pm_vk_z, pm_vk_a, pm_cti, pm_ctr, pm_ldi_z, pm_ldi_s, pm_lda_z, pm_lda_s, pm_cat_n, pm_cat_i, pm_cat_r, pm_cat_l, pm_obj, pm_arr, pm_opt, pm_ird, pm_aln, List.getElem?_cons_zero, List.getElem?_cons_succ, List.set_cons_zero, List.set_cons_succ, List.length_cons, List.length_nil, List.length_set, true_and, and_true, Nat.add_zero, Nat.zero_add, Nat.le_refl, Nat.reduceAdd, Nat.reduceLT, Nat.reduceLeDiff, Nat.zero_le, not_false_eq_true, not_true_eq_false, false_implies, implies_true, true_implies, Nat.zero_lt_succ, Nat.lt_add_one]
  refine PM_use (c_M_hashed key hr d) ?_
  rintro v h1 l1 ⟨rfl, rfl⟩
  show W_X12_placeOf _ _ _ _ _ _ _ _ _
  simp only [w_X12_placeOf_0, w_X12_placeOf_1, w_X12_placeOf_2, w_X12_placeOf_5, w_X12_placeOf_7, w_X12_placeOf_8, w_X12_placeOf_11, w_X12_placeOf_14, w_X12_placeOf_15, w_X12_placeOf_16, w_X12_placeOf_17, pm_1i_c, pm_2i_c, pm_1l_c, pm_2l_c, pm_1a_c, pm_ia_c, pm_iia_c, pm_va_c, pm_cp_c, pm_k0_c, pm_k1_c, pm_k2_c, pm_k3_c, pm_s1_c, pm_s2_c, pm_s3_c, pm_s4_c, pm_ri_c, pm_ra_c, pm_rn_c, pm_rk_i, pm_rk_z, pm_rk_a, pm_vk_i, pm_vk_z, pm_vk_a, pm_cti, pm_ctr, pm_ldi_z, pm_ldi_s, pm_lda_z, pm_lda_s, pm_cat_n, pm_cat_i, pm_cat_r, pm_cat_l, pm_obj, pm_arr, pm_opt, pm_ird, pm_aln, List.getElem?_cons_zero, List.getElem?_cons_succ, List.set_cons_zero, List.set_cons_succ, List.length_cons, List.length_nil, List.length_set, true_and, and_true, Nat.add_zero, Nat.zero_add, Nat.le_refl, Nat.reduceAdd, Nat.reduceLT, Nat.reduceLeDiff, Nat.zero_le, not_false_eq_true, not_true_eq_false, false_implies, implies_true, true_implies, Nat.zero_lt_succ, Nat.lt_add_one, pm_tl_n, pm_tl_s, sc_uL, H0, H1, ix_1683, vi_1683, s13, ne]
  rfl
theorem c_M_counterAt (H : md_ h m o A) (V : wdV A) (key : Int32) {r : Nat} (hr : r < 4) (d : Nat) : PM (d + 3) 180 [.ref m, .int key, .int (nI r)] h (fun v h' => v = some (.int (nI (cix A key r))) ∧ h' = h) := by
  have H2 := H
  obtain ⟨H0, f, H1, R⟩ := H
  unfold mO at H0
  refine en_X12_counterAt rfl rfl rfl ?_
  simp only [w_X12_counterAt_0, w_X12_counterAt_1, w_X12_counterAt_4, w_X12_counterAt_5, w_X12_counterAt_6, w_X12_counterAt_7, w_X12_counterAt_8, w_X12_counterAt_9, w_X12_counterAt_10, w_X12_counterAt_13, w_X12_counterAt_14, pm_1i_c, pm_2i_c, pm_1l_c, pm_2l_c, pm_1a_c, pm_ia_c, pm_iia_c, pm_va_c, pm_cp_c, pm_k0_c, pm_k1_c, pm_k2_c, pm_k3_c, pm_s1_c, pm_s2_c, pm_s3_c, pm_s4_c, pm_ri_c, pm_ra_c, pm_rn_c, pm_rk_i, pm_rk_z, pm_rk_a, pm_vk_i, pm_vk_z, pm_vk_a, pm_cti, pm_ctr, pm_ldi_z, pm_ldi_s, pm_lda_z, pm_lda_s, pm_cat_n, pm_cat_i, pm_cat_r, pm_cat_l, pm_obj, pm_arr, pm_opt, pm_ird, pm_aln, List.getElem?_cons_zero, List.getElem?_cons_succ, List.set_cons_zero, List.set_cons_succ, List.length_cons, List.length_nil, List.length_set, true_and, and_true, Nat.add_zero, Nat.zero_add, Nat.le_refl, Nat.reduceAdd, Nat.reduceLT, Nat.reduceLeDiff, Nat.zero_le, not_false_eq_true, not_true_eq_false, false_implies, implies_true, true_implies, Nat.zero_lt_succ, Nat.lt_add_one, H0]
  refine PM_use (c_M_placeOf H2 V key hr d) ?_
  rintro v h1 l1 ⟨rfl, rfl⟩
  show W_X12_counterAt _ _ _ _ _ _ _ _ _
  simp only [w_X12_counterAt_0, w_X12_counterAt_1, w_X12_counterAt_4, w_X12_counterAt_5, w_X12_counterAt_6, w_X12_counterAt_7, w_X12_counterAt_8, w_X12_counterAt_9, w_X12_counterAt_10, w_X12_counterAt_13, w_X12_counterAt_14, pm_1i_c, pm_2i_c, pm_1l_c, pm_2l_c, pm_1a_c, pm_ia_c, pm_iia_c, pm_va_c, pm_cp_c, pm_k0_c, pm_k1_c, pm_k2_c, pm_k3_c, pm_s1_c, pm_s2_c, pm_s3_c, pm_s4_c, pm_ri_c, pm_ra_c, pm_rn_c, pm_rk_i, pm_rk_z, pm_rk_a, pm_vk_i, pm_vk_z, pm_vk_a, pm_cti, pm_ctr, pm_ldi_z, pm_ldi_s, pm_lda_z, pm_lda_s, pm_cat_n, pm_cat_i, pm_cat_r, pm_cat_l, pm_obj, pm_arr, pm_opt, pm_ird, pm_aln, List.getElem?_cons_zero, List.getElem?_cons_succ, List.set_cons_zero, List.set_cons_succ, List.length_cons, List.length_nil, List.length_set, true_and, and_true, Nat.add_zero, Nat.zero_add, Nat.le_refl, Nat.reduceAdd, Nat.reduceLT, Nat.reduceLeDiff, Nat.zero_le, not_false_eq_true, not_true_eq_false, false_implies, implies_true, true_implies, Nat.zero_lt_succ, Nat.lt_add_one, pm_tl_n, pm_tl_s, sc_uL]
  rw [Int32.zero_add, Int32.mul_comm, cix_at V key hr]
theorem hsI_r (key : Int32) (r : Nat) : ∃ j, j < 256 ∧ (1024 : Int32) + (hsI key (nI r) - hsI key (nI r) / 256 * 256) = nI (1024 + j) ∧ nix key r = j := by
  obtain ⟨j, h1, h2, h3⟩ := nix_in key r
  refine ⟨j, h1, ?_, h3⟩
  have e : hsI key (nI r) - hsI key (nI r) / 256 * 256 = nI j := h2
  rw [e, show (1024 : Int32) = nI 1024 from rfl, nI_add]
theorem c_M_bitAt (key : Int32) {r : Nat} (hr : r < 4) (d : Nat) : PM (d + 2) 181 [.int key, .int (nI r)] h (fun v h' => v = some (.int (nI (1024 + nix key r))) ∧ h' = h) := by
  obtain ⟨j, h1, h2, h3⟩ := hsI_r key r
  refine en_X12_bitAt rfl rfl ?_
  simp only [w_X12_bitAt_0, w_X12_bitAt_3, w_X12_bitAt_4, w_X12_bitAt_5, w_X12_bitAt_8, w_X12_bitAt_11, w_X12_bitAt_12, w_X12_bitAt_13, pm_1i_c, pm_2i_c, pm_1l_c, pm_2l_c, pm_1a_c, pm_ia_c, pm_iia_c, pm_va_c, pm_cp_c, pm_k0_c, pm_k1_c, pm_k2_c, pm_k3_c, pm_s1_c, pm_s2_c, pm_s3_c, pm_s4_c, pm_ri_c, pm_ra_c, pm_rn_c, pm_rk_i, pm_rk_z, pm_rk_a, pm_vk_i, pm_vk_z, pm_vk_a, pm_cti, pm_ctr, pm_ldi_z, pm_ldi_s, pm_lda_z, pm_lda_s, pm_cat_n, pm_cat_i, pm_cat_r, pm_cat_l, pm_obj, pm_arr, pm_opt, pm_ird, pm_aln, List.getElem?_cons_zero, List.getElem?_cons_succ, List.set_cons_zero, List.set_cons_succ, List.length_cons, List.length_nil, List.length_set, true_and, and_true, Nat.add_zero, Nat.zero_add, Nat.le_refl, Nat.reduceAdd, Nat.reduceLT, Nat.reduceLeDiff, Nat.zero_le, not_false_eq_true, not_true_eq_false, false_implies, implies_true, true_implies, Nat.zero_lt_succ, Nat.lt_add_one]
  refine PM_use (c_M_hashed key hr d) ?_
  rintro v h1 l1 ⟨rfl, rfl⟩
  show W_X12_bitAt _ _ _ _ _ _ _ _ _
  simp only [w_X12_bitAt_0, w_X12_bitAt_3, w_X12_bitAt_4, w_X12_bitAt_5, w_X12_bitAt_8, w_X12_bitAt_11, w_X12_bitAt_12, w_X12_bitAt_13, pm_1i_c, pm_2i_c, pm_1l_c, pm_2l_c, pm_1a_c, pm_ia_c, pm_iia_c, pm_va_c, pm_cp_c, pm_k0_c, pm_k1_c, pm_k2_c, pm_k3_c, pm_s1_c, pm_s2_c, pm_s3_c, pm_s4_c, pm_ri_c, pm_ra_c, pm_rn_c, pm_rk_i, pm_rk_z, pm_rk_a, pm_vk_i, pm_vk_z, pm_vk_a, pm_cti, pm_ctr, pm_ldi_z, pm_ldi_s, pm_lda_z, pm_lda_s, pm_cat_n, pm_cat_i, pm_cat_r, pm_cat_l, pm_obj, pm_arr, pm_opt, pm_ird, pm_aln, List.getElem?_cons_zero, List.getElem?_cons_succ, List.set_cons_zero, List.set_cons_succ, List.length_cons, List.length_nil, List.length_set, true_and, and_true, Nat.add_zero, Nat.zero_add, Nat.le_refl, Nat.reduceAdd, Nat.reduceLT, Nat.reduceLeDiff, Nat.zero_le, not_false_eq_true, not_true_eq_false, false_implies, implies_true, true_implies, Nat.zero_lt_succ, Nat.lt_add_one, pm_tl_n, pm_tl_s, sc_uL, h2, show ¬ (256 : Int32) = 0 by decide]
  rw [h3]
theorem nix_lt (key : Int32) (r : Nat) : nix key r < 256 := by
  obtain ⟨j, h1, h2, h3⟩ := nix_in key r
  omega
theorem c_M_hasNoted (H : md_ h m o A) (key : Int32) (d : Nat) : PM (d + 3) 182 [.ref m, .int key] h (fun v h' => v = some (.int (if notd A key then 1 else 0)) ∧ h' = h) := by
  obtain ⟨H0, f, H1, R⟩ := H
  unfold mO at H0
  have s14 : f 1684 = sc A 14 := R.s (i := 14) (by omega)
  have n0 := nix_lt key 0
  have n1 := nix_lt key 1
  have v0 : vp_in (nI (1024 + nix key 0)) 2195 := vp_in_nI (by omega) (by omega)
  have v1 : vp_in (nI (1024 + nix key 1)) 2195 := vp_in_nI (by omega) (by omega)
  have c0 : (nI (1024 + nix key 0)).toNatClampNeg = 1024 + nix key 0 := nI_clamp (by omega)
  have c1 : (nI (1024 + nix key 1)).toNatClampNeg = 1024 + nix key 1 := nI_clamp (by omega)
  have f0 := R.n n0
  have f1 := R.n n1
  refine en_X12_hasNoted rfl rfl ?_
  unfold notd
  by_cases z : sc A 14 = 1
  · simp only [w_X12_hasNoted_0, w_X12_hasNoted_1, w_X12_hasNoted_4, w_X12_hasNoted_7, w_X12_hasNoted_8, w_X12_hasNoted_9, w_X12_hasNoted_12, w_X12_hasNoted_13, w_X12_hasNoted_16, w_X12_hasNoted_17, w_X12_hasNoted_18, w_X12_hasNoted_21, w_X12_hasNoted_22, w_X12_hasNoted_23, w_X12_hasNoted_26, w_X12_hasNoted_27, w_X12_hasNoted_30, w_X12_hasNoted_31, w_X12_hasNoted_32, w_X12_hasNoted_35, w_X12_hasNoted_36, w_X12_hasNoted_37, w_X12_hasNoted_40, w_X12_hasNoted_41, w_X12_hasNoted_44, w_X12_hasNoted_45, pm_1i_c, pm_2i_c, pm_1l_c, pm_2l_c, pm_1a_c, pm_ia_c, pm_iia_c, pm_va_c, pm_cp_c, pm_k0_c, pm_k1_c, pm_k2_c, pm_k3_c, pm_s1_c, pm_s2_c, pm_s3_c, pm_s4_c, pm_ri_c, pm_ra_c, pm_rn_c, pm_rk_i, pm_rk_z, pm_rk_a, pm_vk_i, pm_vk_z, pm_vk_a, pm_cti, pm_ctr, pm_ldi_z, pm_ldi_s, pm_lda_z, pm_lda_s, pm_cat_n, pm_cat_i, pm_cat_r, pm_cat_l, pm_obj, pm_arr, pm_opt, pm_ird, pm_aln, List.getElem?_cons_zero, List.getElem?_cons_succ, List.set_cons_zero, List.set_cons_succ, List.length_cons, List.length_nil, List.length_set, true_and, and_true, Nat.add_zero, Nat.zero_add, Nat.le_refl, Nat.reduceAdd, Nat.reduceLT, Nat.reduceLeDiff, Nat.zero_le, not_false_eq_true, not_true_eq_false, false_implies, implies_true, true_implies, Nat.zero_lt_succ, Nat.lt_add_one, H0, H1, ix_1684, vi_1684, s14, z]
    refine PM_use (c_M_bitAt key (r := 0) (by omega) d) ?_
    rintro v h1 l1 ⟨rfl, rfl⟩
    by_cases y : nt A (nix key 0) = 1
    · show W_X12_hasNoted _ _ _ _ _ _ _ _ _
      simp only [w_X12_hasNoted_0, w_X12_hasNoted_1, w_X12_hasNoted_4, w_X12_hasNoted_7, w_X12_hasNoted_8, w_X12_hasNoted_9, w_X12_hasNoted_12, w_X12_hasNoted_13, w_X12_hasNoted_16, w_X12_hasNoted_17, w_X12_hasNoted_18, w_X12_hasNoted_21, w_X12_hasNoted_22, w_X12_hasNoted_23, w_X12_hasNoted_26, w_X12_hasNoted_27, w_X12_hasNoted_30, w_X12_hasNoted_31, w_X12_hasNoted_32, w_X12_hasNoted_35, w_X12_hasNoted_36, w_X12_hasNoted_37, w_X12_hasNoted_40, w_X12_hasNoted_41, w_X12_hasNoted_44, w_X12_hasNoted_45, pm_1i_c, pm_2i_c, pm_1l_c, pm_2l_c, pm_1a_c, pm_ia_c, pm_iia_c, pm_va_c, pm_cp_c, pm_k0_c, pm_k1_c, pm_k2_c, pm_k3_c, pm_s1_c, pm_s2_c, pm_s3_c, pm_s4_c, pm_ri_c, pm_ra_c, pm_rn_c, pm_rk_i, pm_rk_z, pm_rk_a, pm_vk_i, pm_vk_z, pm_vk_a, pm_cti, pm_ctr, pm_ldi_z, pm_ldi_s, pm_lda_z, pm_lda_s, pm_cat_n, pm_cat_i, pm_cat_r, pm_cat_l, pm_obj, pm_arr, pm_opt, pm_ird, pm_aln, List.getElem?_cons_zero, List.getElem?_cons_succ, List.set_cons_zero, List.set_cons_succ, List.length_cons, List.length_nil, List.length_set, true_and, and_true, Nat.add_zero, Nat.zero_add, Nat.le_refl, Nat.reduceAdd, Nat.reduceLT, Nat.reduceLeDiff, Nat.zero_le, not_false_eq_true, not_true_eq_false, false_implies, implies_true, true_implies, Nat.zero_lt_succ, Nat.lt_add_one, pm_tl_n, pm_tl_s, sc_uL, H0, H1, v0, c0, f0, y]
      refine PM_use (c_M_bitAt key (r := 1) (by omega) d) ?_
      rintro v h1 l1 ⟨rfl, rfl⟩
      by_cases x : nt A (nix key 1) = 1
      · show W_X12_hasNoted _ _ _ _ _ _ _ _ _
        simp only [w_X12_hasNoted_0, w_X12_hasNoted_1, w_X12_hasNoted_4, w_X12_hasNoted_7, w_X12_hasNoted_8, w_X12_hasNoted_9, w_X12_hasNoted_12, w_X12_hasNoted_13, w_X12_hasNoted_16, w_X12_hasNoted_17, w_X12_hasNoted_18, w_X12_hasNoted_21, w_X12_hasNoted_22, w_X12_hasNoted_23, w_X12_hasNoted_26, w_X12_hasNoted_27, w_X12_hasNoted_30, w_X12_hasNoted_31, w_X12_hasNoted_32, w_X12_hasNoted_35, w_X12_hasNoted_36, w_X12_hasNoted_37, w_X12_hasNoted_40, w_X12_hasNoted_41, w_X12_hasNoted_44, w_X12_hasNoted_45, pm_1i_c, pm_2i_c, pm_1l_c, pm_2l_c, pm_1a_c, pm_ia_c, pm_iia_c, pm_va_c, pm_cp_c, pm_k0_c, pm_k1_c, pm_k2_c, pm_k3_c, pm_s1_c, pm_s2_c, pm_s3_c, pm_s4_c, pm_ri_c, pm_ra_c, pm_rn_c, pm_rk_i, pm_rk_z, pm_rk_a, pm_vk_i, pm_vk_z, pm_vk_a, pm_cti, pm_ctr, pm_ldi_z, pm_ldi_s, pm_lda_z, pm_lda_s, pm_cat_n, pm_cat_i, pm_cat_r, pm_cat_l, pm_obj, pm_arr, pm_opt, pm_ird, pm_aln, List.getElem?_cons_zero, List.getElem?_cons_succ, List.set_cons_zero, List.set_cons_succ, List.length_cons, List.length_nil, List.length_set, true_and, and_true, Nat.add_zero, Nat.zero_add, Nat.le_refl, Nat.reduceAdd, Nat.reduceLT, Nat.reduceLeDiff, Nat.zero_le, not_false_eq_true, not_true_eq_false, false_implies, implies_true, true_implies, Nat.zero_lt_succ, Nat.lt_add_one, pm_tl_n, pm_tl_s, sc_uL, H0, H1, v1, c1, f1, x]
        simp
      · show W_X12_hasNoted _ _ _ _ _ _ _ _ _
        simp only [w_X12_hasNoted_0, w_X12_hasNoted_1, w_X12_hasNoted_4, w_X12_hasNoted_7, w_X12_hasNoted_8, w_X12_hasNoted_9, w_X12_hasNoted_12, w_X12_hasNoted_13, w_X12_hasNoted_16, w_X12_hasNoted_17, w_X12_hasNoted_18, w_X12_hasNoted_21, w_X12_hasNoted_22, w_X12_hasNoted_23, w_X12_hasNoted_26, w_X12_hasNoted_27, w_X12_hasNoted_30, w_X12_hasNoted_31, w_X12_hasNoted_32, w_X12_hasNoted_35, w_X12_hasNoted_36, w_X12_hasNoted_37, w_X12_hasNoted_40, w_X12_hasNoted_41, w_X12_hasNoted_44, w_X12_hasNoted_45, pm_1i_c, pm_2i_c, pm_1l_c, pm_2l_c, pm_1a_c, pm_ia_c, pm_iia_c, pm_va_c, pm_cp_c, pm_k0_c, pm_k1_c, pm_k2_c, pm_k3_c, pm_s1_c, pm_s2_c, pm_s3_c, pm_s4_c, pm_ri_c, pm_ra_c, pm_rn_c, pm_rk_i, pm_rk_z, pm_rk_a, pm_vk_i, pm_vk_z, pm_vk_a, pm_cti, pm_ctr, pm_ldi_z, pm_ldi_s, pm_lda_z, pm_lda_s, pm_cat_n, pm_cat_i, pm_cat_r, pm_cat_l, pm_obj, pm_arr, pm_opt, pm_ird, pm_aln, List.getElem?_cons_zero, List.getElem?_cons_succ, List.set_cons_zero, List.set_cons_succ, List.length_cons, List.length_nil, List.length_set, true_and, and_true, Nat.add_zero, Nat.zero_add, Nat.le_refl, Nat.reduceAdd, Nat.reduceLT, Nat.reduceLeDiff, Nat.zero_le, not_false_eq_true, not_true_eq_false, false_implies, implies_true, true_implies, Nat.zero_lt_succ, Nat.lt_add_one, pm_tl_n, pm_tl_s, sc_uL, H0, H1, v1, c1, f1, x]
        simp
    · show W_X12_hasNoted _ _ _ _ _ _ _ _ _
      simp only [w_X12_hasNoted_0, w_X12_hasNoted_1, w_X12_hasNoted_4, w_X12_hasNoted_7, w_X12_hasNoted_8, w_X12_hasNoted_9, w_X12_hasNoted_12, w_X12_hasNoted_13, w_X12_hasNoted_16, w_X12_hasNoted_17, w_X12_hasNoted_18, w_X12_hasNoted_21, w_X12_hasNoted_22, w_X12_hasNoted_23, w_X12_hasNoted_26, w_X12_hasNoted_27, w_X12_hasNoted_30, w_X12_hasNoted_31, w_X12_hasNoted_32, w_X12_hasNoted_35, w_X12_hasNoted_36, w_X12_hasNoted_37, w_X12_hasNoted_40, w_X12_hasNoted_41, w_X12_hasNoted_44, w_X12_hasNoted_45, pm_1i_c, pm_2i_c, pm_1l_c, pm_2l_c, pm_1a_c, pm_ia_c, pm_iia_c, pm_va_c, pm_cp_c, pm_k0_c, pm_k1_c, pm_k2_c, pm_k3_c, pm_s1_c, pm_s2_c, pm_s3_c, pm_s4_c, pm_ri_c, pm_ra_c, pm_rn_c, pm_rk_i, pm_rk_z, pm_rk_a, pm_vk_i, pm_vk_z, pm_vk_a, pm_cti, pm_ctr, pm_ldi_z, pm_ldi_s, pm_lda_z, pm_lda_s, pm_cat_n, pm_cat_i, pm_cat_r, pm_cat_l, pm_obj, pm_arr, pm_opt, pm_ird, pm_aln, List.getElem?_cons_zero, List.getElem?_cons_succ, List.set_cons_zero, List.set_cons_succ, List.length_cons, List.length_nil, List.length_set, true_and, and_true, Nat.add_zero, Nat.zero_add, Nat.le_refl, Nat.reduceAdd, Nat.reduceLT, Nat.reduceLeDiff, Nat.zero_le, not_false_eq_true, not_true_eq_false, false_implies, implies_true, true_implies, Nat.zero_lt_succ, Nat.lt_add_one, pm_tl_n, pm_tl_s, sc_uL, H0, H1, v0, c0, f0, y]
      simp
  · simp only [w_X12_hasNoted_0, w_X12_hasNoted_1, w_X12_hasNoted_4, w_X12_hasNoted_7, w_X12_hasNoted_8, w_X12_hasNoted_9, w_X12_hasNoted_12, w_X12_hasNoted_13, w_X12_hasNoted_16, w_X12_hasNoted_17, w_X12_hasNoted_18, w_X12_hasNoted_21, w_X12_hasNoted_22, w_X12_hasNoted_23, w_X12_hasNoted_26, w_X12_hasNoted_27, w_X12_hasNoted_30, w_X12_hasNoted_31, w_X12_hasNoted_32, w_X12_hasNoted_35, w_X12_hasNoted_36, w_X12_hasNoted_37, w_X12_hasNoted_40, w_X12_hasNoted_41, w_X12_hasNoted_44, w_X12_hasNoted_45, pm_1i_c, pm_2i_c, pm_1l_c, pm_2l_c, pm_1a_c, pm_ia_c, pm_iia_c, pm_va_c, pm_cp_c, pm_k0_c, pm_k1_c, pm_k2_c, pm_k3_c, pm_s1_c, pm_s2_c, pm_s3_c, pm_s4_c, pm_ri_c, pm_ra_c, pm_rn_c, pm_rk_i, pm_rk_z, pm_rk_a, pm_vk_i, pm_vk_z, pm_vk_a, pm_cti, pm_ctr, pm_ldi_z, pm_ldi_s, pm_lda_z, pm_lda_s, pm_cat_n, pm_cat_i, pm_cat_r, pm_cat_l, pm_obj, pm_arr, pm_opt, pm_ird, pm_aln, List.getElem?_cons_zero, List.getElem?_cons_succ, List.set_cons_zero, List.set_cons_succ, List.length_cons, List.length_nil, List.length_set, true_and, and_true, Nat.add_zero, Nat.zero_add, Nat.le_refl, Nat.reduceAdd, Nat.reduceLT, Nat.reduceLeDiff, Nat.zero_le, not_false_eq_true, not_true_eq_false, false_implies, implies_true, true_implies, Nat.zero_lt_succ, Nat.lt_add_one, H0, H1, ix_1684, vi_1684, s14, z]
    simp
theorem c_M_estimateOf (H : md_ h m o A) (V : wdV A) (key : Int32) (d : Nat) : PM (d + 4) 183 [.ref m, .int key] h (fun v h' => v = some (.int (estF A key)) ∧ h' = h) := by
  have H2 := H
  obtain ⟨H0, f, H1, R⟩ := H
  unfold mO at H0
  refine en_X12_estimateOf rfl rfl ?_
  have loop : ∀ n r, 4 - r = n → r ≤ 4 → W_X12_estimateOf (d + 3) (h.length + 0) 0 (fun v h' => v = some (.int (estF A key)) ∧ h' = h) 5 [some (.ref m), some (.int key), some (.int (estL A key r)), some (.int (nI r))] [] h 0 := by
    intro n
    induction n with
    | zero =>
      intro r hn hr
      have : r = 4 := by omega
      subst this
      have e1 : ¬ nI 4 < 4 := by decide
      rw [w_X12_estimateOf_5]
      simp only [w_X12_estimateOf_6, w_X12_estimateOf_7, w_X12_estimateOf_10, w_X12_estimateOf_11, w_X12_estimateOf_12, w_X12_estimateOf_15, w_X12_estimateOf_16, w_X12_estimateOf_17, w_X12_estimateOf_18, w_X12_estimateOf_21, w_X12_estimateOf_22, w_X12_estimateOf_25, w_X12_estimateOf_26, w_X12_estimateOf_29, w_X12_estimateOf_32, w_X12_estimateOf_33, w_X12_estimateOf_34, w_X12_estimateOf_35, w_X12_estimateOf_38, w_X12_estimateOf_41, w_X12_estimateOf_42, w_X12_estimateOf_45, w_X12_estimateOf_46, w_X12_estimateOf_47, pm_1i_c, pm_2i_c, pm_1l_c, pm_2l_c, pm_1a_c, pm_ia_c, pm_iia_c, pm_va_c, pm_cp_c, pm_k0_c, pm_k1_c, pm_k2_c, pm_k3_c, pm_s1_c, pm_s2_c, pm_s3_c, pm_s4_c, pm_ri_c, pm_ra_c, pm_rn_c, pm_rk_i, pm_rk_z, pm_rk_a, pm_vk_i, pm_vk_z, pm_vk_a, pm_cti, pm_ctr, pm_ldi_z, pm_ldi_s, pm_lda_z, pm_lda_s, pm_cat_n, pm_cat_i, pm_cat_r, pm_cat_l, pm_obj, pm_arr, pm_opt, pm_ird, pm_aln, List.getElem?_cons_zero, List.getElem?_cons_succ, List.set_cons_zero, List.set_cons_succ, List.length_cons, List.length_nil, List.length_set, true_and, and_true, Nat.add_zero, Nat.zero_add, Nat.le_refl, Nat.reduceAdd, Nat.reduceLT, Nat.reduceLeDiff, Nat.zero_le, not_false_eq_true, not_true_eq_false, false_implies, implies_true, true_implies, Nat.zero_lt_succ, Nat.lt_add_one, H0, e1]
      refine PM_use (c_M_hasNoted H2 key d) ?_
      rintro v h1 l1 ⟨rfl, rfl⟩
      unfold estF
      cases notd A key
      · show W_X12_estimateOf _ _ _ _ _ _ _ _ _
        simp only [w_X12_estimateOf_38, w_X12_estimateOf_41, w_X12_estimateOf_42, w_X12_estimateOf_45, w_X12_estimateOf_46, w_X12_estimateOf_47, pm_1i_c, pm_2i_c, pm_1l_c, pm_2l_c, pm_1a_c, pm_ia_c, pm_iia_c, pm_va_c, pm_cp_c, pm_k0_c, pm_k1_c, pm_k2_c, pm_k3_c, pm_s1_c, pm_s2_c, pm_s3_c, pm_s4_c, pm_ri_c, pm_ra_c, pm_rn_c, pm_rk_i, pm_rk_z, pm_rk_a, pm_vk_i, pm_vk_z, pm_vk_a, pm_cti, pm_ctr, pm_ldi_z, pm_ldi_s, pm_lda_z, pm_lda_s, pm_cat_n, pm_cat_i, pm_cat_r, pm_cat_l, pm_obj, pm_arr, pm_opt, pm_ird, pm_aln, List.getElem?_cons_zero, List.getElem?_cons_succ, List.set_cons_zero, List.set_cons_succ, List.length_cons, List.length_nil, List.length_set, true_and, and_true, Nat.add_zero, Nat.zero_add, Nat.le_refl, Nat.reduceAdd, Nat.reduceLT, Nat.reduceLeDiff, Nat.zero_le, not_false_eq_true, not_true_eq_false, false_implies, implies_true, true_implies, Nat.zero_lt_succ, Nat.lt_add_one, pm_tl_n, pm_tl_s, sc_uL, Bool.false_eq_true, if_false, Int32.add_zero]
      · show W_X12_estimateOf _ _ _ _ _ _ _ _ _
        simp only [w_X12_estimateOf_38, w_X12_estimateOf_41, w_X12_estimateOf_42, w_X12_estimateOf_45, w_X12_estimateOf_46, w_X12_estimateOf_47, pm_1i_c, pm_2i_c, pm_1l_c, pm_2l_c, pm_1a_c, pm_ia_c, pm_iia_c, pm_va_c, pm_cp_c, pm_k0_c, pm_k1_c, pm_k2_c, pm_k3_c, pm_s1_c, pm_s2_c, pm_s3_c, pm_s4_c, pm_ri_c, pm_ra_c, pm_rn_c, pm_rk_i, pm_rk_z, pm_rk_a, pm_vk_i, pm_vk_z, pm_vk_a, pm_cti, pm_ctr, pm_ldi_z, pm_ldi_s, pm_lda_z, pm_lda_s, pm_cat_n, pm_cat_i, pm_cat_r, pm_cat_l, pm_obj, pm_arr, pm_opt, pm_ird, pm_aln, List.getElem?_cons_zero, List.getElem?_cons_succ, List.set_cons_zero, List.set_cons_succ, List.length_cons, List.length_nil, List.length_set, true_and, and_true, Nat.add_zero, Nat.zero_add, Nat.le_refl, Nat.reduceAdd, Nat.reduceLT, Nat.reduceLeDiff, Nat.zero_le, not_false_eq_true, not_true_eq_false, false_implies, implies_true, true_implies, Nat.zero_lt_succ, Nat.lt_add_one, pm_tl_n, pm_tl_s, sc_uL, if_true, show ¬ (1 : Int32) = 0 by decide]
    | succ n ih =>
      intro r hn hr
      have e1 : nI r < 4 := nI_lt (b := 4) (by omega) (by omega)
      have ci := cix_lt V key (show r < 4 by omega)
      have vi : vp_in (nI (cix A key r)) 2195 := vp_in_nI (by omega) (by omega)
      have cl : (nI (cix A key r)).toNatClampNeg = cix A key r := nI_clamp (by omega)
      have fe := R.c ci
      have K := ih (r + 1) (by omega) (by omega)
      have es : estL A key (r + 1) = if cn A (cix A key r) < estL A key r then cn A (cix A key r) else estL A key r := rfl
      rw [es] at K
      rw [w_X12_estimateOf_5]
      simp only [w_X12_estimateOf_6, w_X12_estimateOf_7, w_X12_estimateOf_10, w_X12_estimateOf_11, w_X12_estimateOf_12, w_X12_estimateOf_15, w_X12_estimateOf_16, w_X12_estimateOf_17, w_X12_estimateOf_18, w_X12_estimateOf_21, w_X12_estimateOf_22, w_X12_estimateOf_25, w_X12_estimateOf_26, w_X12_estimateOf_29, w_X12_estimateOf_32, w_X12_estimateOf_33, w_X12_estimateOf_34, w_X12_estimateOf_35, w_X12_estimateOf_38, w_X12_estimateOf_41, w_X12_estimateOf_42, w_X12_estimateOf_45, w_X12_estimateOf_46, w_X12_estimateOf_47, pm_1i_c, pm_2i_c, pm_1l_c, pm_2l_c, pm_1a_c, pm_ia_c, pm_iia_c, pm_va_c, pm_cp_c, pm_k0_c, pm_k1_c, pm_k2_c, pm_k3_c, pm_s1_c, pm_s2_c, pm_s3_c, pm_s4_c, pm_ri_c, pm_ra_c, pm_rn_c, pm_rk_i, pm_rk_z, pm_rk_a, pm_vk_i, pm_vk_z, pm_vk_a, pm_cti, pm_ctr, pm_ldi_z, pm_ldi_s, pm_lda_z, pm_lda_s, pm_cat_n, pm_cat_i, pm_cat_r, pm_cat_l, pm_obj, pm_arr, pm_opt, pm_ird, pm_aln, List.getElem?_cons_zero, List.getElem?_cons_succ, List.set_cons_zero, List.set_cons_succ, List.length_cons, List.length_nil, List.length_set, true_and, and_true, Nat.add_zero, Nat.zero_add, Nat.le_refl, Nat.reduceAdd, Nat.reduceLT, Nat.reduceLeDiff, Nat.zero_le, not_false_eq_true, not_true_eq_false, false_implies, implies_true, true_implies, Nat.zero_lt_succ, Nat.lt_add_one, H0, e1]
      refine PM_use (c_M_counterAt H2 V key (show r < 4 by omega) d) ?_
      rintro v h1 l1 ⟨rfl, rfl⟩
      show W_X12_estimateOf _ _ _ _ _ _ _ _ _
      simp only [w_X12_estimateOf_21, w_X12_estimateOf_22, w_X12_estimateOf_25, w_X12_estimateOf_26, w_X12_estimateOf_29, pm_1i_c, pm_2i_c, pm_1l_c, pm_2l_c, pm_1a_c, pm_ia_c, pm_iia_c, pm_va_c, pm_cp_c, pm_k0_c, pm_k1_c, pm_k2_c, pm_k3_c, pm_s1_c, pm_s2_c, pm_s3_c, pm_s4_c, pm_ri_c, pm_ra_c, pm_rn_c, pm_rk_i, pm_rk_z, pm_rk_a, pm_vk_i, pm_vk_z, pm_vk_a, pm_cti, pm_ctr, pm_ldi_z, pm_ldi_s, pm_lda_z, pm_lda_s, pm_cat_n, pm_cat_i, pm_cat_r, pm_cat_l, pm_obj, pm_arr, pm_opt, pm_ird, pm_aln, List.getElem?_cons_zero, List.getElem?_cons_succ, List.set_cons_zero, List.set_cons_succ, List.length_cons, List.length_nil, List.length_set, true_and, and_true, Nat.add_zero, Nat.zero_add, Nat.le_refl, Nat.reduceAdd, Nat.reduceLT, Nat.reduceLeDiff, Nat.zero_le, not_false_eq_true, not_true_eq_false, false_implies, implies_true, true_implies, Nat.zero_lt_succ, Nat.lt_add_one, pm_tl_n, pm_tl_s, sc_uL, H1, vi, cl, fe, nI_1]
      exact K
  simp only [w_X12_estimateOf_0, w_X12_estimateOf_2, w_X12_estimateOf_3, w_X12_estimateOf_4, pm_1i_c, pm_2i_c, pm_1l_c, pm_2l_c, pm_1a_c, pm_ia_c, pm_iia_c, pm_va_c, pm_cp_c, pm_k0_c, pm_k1_c, pm_k2_c, pm_k3_c, pm_s1_c, pm_s2_c, pm_s3_c, pm_s4_c, pm_ri_c, pm_ra_c, pm_rn_c, pm_rk_i, pm_rk_z, pm_rk_a, pm_vk_i, pm_vk_z, pm_vk_a, pm_cti, pm_ctr, pm_ldi_z, pm_ldi_s, pm_lda_z, pm_lda_s, pm_cat_n, pm_cat_i, pm_cat_r, pm_cat_l, pm_obj, pm_arr, pm_opt, pm_ird, pm_aln, List.getElem?_cons_zero, List.getElem?_cons_succ, List.set_cons_zero, List.set_cons_succ, List.length_cons, List.length_nil, List.length_set, true_and, and_true, Nat.add_zero, Nat.zero_add, Nat.le_refl, Nat.reduceAdd, Nat.reduceLT, Nat.reduceLeDiff, Nat.zero_le, not_false_eq_true, not_true_eq_false, false_implies, implies_true, true_implies, Nat.zero_lt_succ, Nat.lt_add_one]
  exact loop 4 0 rfl (by omega)
end MB
