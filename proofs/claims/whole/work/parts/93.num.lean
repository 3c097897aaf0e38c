/-! AdmissionDeskModel: a trace's numbers, against the class's. -/
theorem fuF_id {b : Bool} {s : XZ} (h : ¬ s.1.2 = -1) : fuF b s = s := by
  unfold fuF xFa faF
  rw [if_neg h]
  split <;> rfl
theorem fuF_t {s : XZ} : fuF true s = s := rfl
theorem sm_.mv {bs : List Int32} {dm : Int32} {s : PS} {p p' : Nat} {fa : Int32} (S : sm_ bs dm s p fa) (hf : ¬ fa = -1) (hp : p' ≤ bs.length) : sm_ bs dm s p' fa := by
  rcases S.2 with ⟨-, b, -⟩ | c
  · exact absurd b hf
  · exact ⟨hp, Or.inr c⟩
section TR
variable {h0 h h' : pmH} {m : Nat} {o : Nat → Int32} {bs : List Int32} {p b dp n : Nat} {fa : Int32} {cs ks : List Int32} {s : XZ}
theorem nnV_rng (V : NV (cuF bs 5).1 (cuF bs 5).2.2) (q : PS) : ∃ a, a < 100000 ∧ nnV (cuF bs 5).1 (cuF bs 5).2.2 q = nI a := by
  unfold nnV
  split
  · rename_i c
    unfold taB at c
    rw [decide_eq_true_eq] at c
    exact V _ c.2
  · exact ⟨0, by omega, rfl⟩
theorem c_Z_num (P : pr_ h0 h m o bs p b dp n fa cs ks) (T : tap_ h0 m bs) (V : NV (cuF bs 5).1 (cuF bs 5).2.2) (S : sm_ bs 5 s.1 p fa) (hf : fa = -1) (l r : Int32) (d : Nat) : PM (d + 3) 164 [.ref m, .int 5, .int l, .int r] h (fun x h' => ∃ y p' b' fa', x = some (.int y) ∧ pr_ h0 h' m o bs p' b' dp n fa' cs ks ∧ sm_ bs 5 (fuF (inB (nnV (cuF bs 5).1 (cuF bs 5).2.2 s.1) l r) (xNd (cuF bs 5).1 267 s)).1 p' fa' ∧ (fa' = -1 → y = nnV (cuF bs 5).1 (cuF bs 5).2.2 s.1 ∧ inB y l r = true ∧ neF (cuF bs 5).1 267 s.1 = (s.1.1 + 1, s.1.2))) := by
  have L4 := T.1
  have KL := cuF_kl1 (dm := 5) L4
  have SL := cuF_sl0 (dm := 5) L4
  refine PM_use (c_Y_number P T S.1 hf (many := 5) (by omega) l r d) ?_
  rintro x h' - ⟨y, rfl, hy, P'⟩
  have R := S.rt hf
  have kp := skp_le (bs := bs) S.1
  have sf := S.ff.mpr hf
  obtain ⟨b1, b2, b3, b4⟩ := beR_stop isD (bs.length - skp bs p) (skp bs p) rfl kp.2
  obtain ⟨e, he⟩ : ∃ e, e = beR isD bs (skp bs p) := ⟨_, rfl⟩
  unfold nmB at P'
  rw [← he] at b1 b2 b3 b4 P' hy
  -- it fails at this token
  have bad : ¬ (cuF bs 5).1.getD s.1.1 (-1) = 267 → decide (¬ e - skp bs p = 0 ∧ e - skp bs p ≤ 5) = false → ∃ y' p' b' fa', some (Value.int y) = some (Value.int y') ∧ pr_ h0 h' m o bs p' b' dp n fa' cs ks ∧ sm_ bs 5 (fuF (inB (nnV (cuF bs 5).1 (cuF bs 5).2.2 s.1) l r) (xNd (cuF bs 5).1 267 s)).1 p' fa' ∧ (fa' = -1 → y' = nnV (cuF bs 5).1 (cuF bs 5).2.2 s.1 ∧ inB y' l r = true ∧ neF (cuF bs 5).1 267 s.1 = (s.1.1 + 1, s.1.2)) := fun hk hd => by
    rw [hd, Bool.false_and, if_neg (by decide)] at P'
    have nt : taB (cuF bs 5).1 267 s.1 = false := decide_eq_false (fun z => hk z.2)
    have en : xNd (cuF bs 5).1 267 s = (faF (nI s.1.1) s.1, s.2) := by
      unfold xNd neF
      rw [nt, if_neg (by decide)]
    have Kf := S.fl L4
    rw [if_pos hf] at Kf
    have n1 : ¬ nI (skp bs p) = -1 := nI_ne1 (by omega)
    refine ⟨y, _, _, _, rfl, P', ?_, fun z => absurd z n1⟩
    rw [en, fuF_id (fun z => n1 (Kf.ff.mp z))]
    exact Kf.mv n1 b2
  by_cases c : skp bs p < bs.length ∧ isD (bs.getD (skp bs p) (-1)) = true
  · obtain ⟨a1, a2, a3, a4, a5, a6⟩ := RT_num R c.1 c.2
    have lt := beR_lt isD c.1 c.2
    rw [← he] at a2 a5 a6 lt
    by_cases c5 : e - skp bs p ≤ 5
    · have c5' : ¬ (5 : Int32) < nI (e - skp bs p) := nI_nlt (a := 5) c5 (by omega)
      rw [if_neg c5'] at a2 a5
      have tb : taB (cuF bs 5).1 267 s.1 = true := decide_eq_true ⟨sf, a2⟩
      have en : neF (cuF bs 5).1 267 s.1 = (s.1.1 + 1, s.1.2) := by
        unfold neF
        rw [if_pos tb]
      have ev : nnV (cuF bs 5).1 (cuF bs 5).2.2 s.1 = nuF bs (skp bs p) e := by
        unfold nnV
        rw [if_pos tb]
        exact a5
      have yv := (hy c5).trans ev.symm
      rw [decide_eq_true (show ¬ e - skp bs p = 0 ∧ e - skp bs p ≤ 5 from ⟨by omega, c5⟩), Bool.true_and, ← ev] at P'
      have ex : xNd (cuF bs 5).1 267 s = ((s.1.1 + 1, s.1.2), s.2) := by
        unfold xNd
        rw [en]
      cases ci : inB (nnV (cuF bs 5).1 (cuF bs 5).2.2 s.1) l r with
      | true =>
        rw [ci, if_pos rfl] at P'
        refine ⟨y, _, _, _, rfl, P', ?_, fun _ => ⟨yv, by rw [yv]; exact ci, en⟩⟩
        rw [fuF_t, ex]
        exact ⟨b2, Or.inl ⟨sf, rfl, a6⟩⟩
      | false =>
        rw [ci, if_neg (by decide)] at P'
        have n1 : ¬ nI (skp bs p) = -1 := nI_ne1 (by omega)
        refine ⟨y, _, _, _, rfl, P', ?_, fun z => absurd z n1⟩
        have e3 : (fuF false ((s.1.1 + 1, s.1.2), s.2)).1 = (s.1.1 + 1, nI s.1.1) := by
          show faF (nI (s.1.1 + 1) - 1) (s.1.1 + 1, s.1.2) = _
          unfold faF
          rw [if_pos sf, show nI (s.1.1 + 1) - 1 = nI s.1.1 from nI_pred _]
        rw [ex, e3]
        have i2 := R.2.1
        exact ⟨b2, Or.inr ⟨nI_ne1 (by omega), n1, (RT_fb R KL (by omega)).symm⟩⟩
    · have c5' : (5 : Int32) < nI (e - skp bs p) := nI_lt (a := 5) (by omega) (by omega)
      rw [if_pos c5'] at a2
      exact bad (by rw [a2]; decide) (decide_eq_false (fun z => c5 z.2))
  · obtain ⟨k1, -⟩ := kd_nd T.2.1 R c
    refine bad k1 (decide_eq_false (fun z => z.1 ?_))
    have ee : e = skp bs p := by
      rw [he]
      by_cases c1 : skp bs p < bs.length
      · refine beR_out isD c1 ?_
        cases y : isD (bs.getD (skp bs p) (-1)) with
        | true => exact absurd ⟨c1, y⟩ c
        | false => rfl
      · exact beR_end isD (by omega)
    omega
end TR
