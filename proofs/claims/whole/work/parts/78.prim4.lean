/-! AdmissionDeskModel: words taken. -/
theorem isL_n {v : Nat} (hv : v < 256) : isL (nI v) = true ↔ (97 ≤ v ∧ v ≤ 122) := by
  unfold isL
  rw [decide_eq_true_eq, show (97 : Int32) = nI 97 from rfl, show (122 : Int32) = nI 122 from rfl, nI_ltI (by omega) (by omega), nI_ltI (by omega) (by omega)]
  omega
theorem isD_n {v : Nat} (hv : v < 256) : isD (nI v) = true ↔ (48 ≤ v ∧ v ≤ 57) := by
  unfold isD
  rw [decide_eq_true_eq, show (48 : Int32) = nI 48 from rfl, show (57 : Int32) = nI 57 from rfl, nI_ltI (by omega) (by omega), nI_ltI (by omega) (by omega)]
  omega
theorem atV_l {bs : List Int32} (H : byts bs) (k : Nat) : atV bs k 97 122 = true ↔ (k < bs.length ∧ isL (bs.getD k (-1)) = true) := by
  have a := atV_r H (k := k) (a := 97) (b := 122) (by omega) (by omega)
  rw [show (97 : Int32) = nI 97 from rfl, show (122 : Int32) = nI 122 from rfl, a]
  refine and_congr_right (fun hk => ?_)
  obtain ⟨v, hv, e⟩ := byts_at H hk
  rw [e, isL_n hv]
  constructor
  · rintro ⟨w, e2, z⟩
    have : v = w := (nI_inj (by omega) (by omega)).mp e2
    omega
  · exact fun z => ⟨v, rfl, by omega⟩
theorem iwG_t (bs : List Int32) (w a b : Nat) : ∀ f j, iwG bs w a b f j = true ↔ ((∀ r, j ≤ r → r < j + f → wdc (w + r) = sgF bs a b r) ∧ b - a < 5)
  | 0, j => by
    show decide (b - a < 5) = true ↔ _
    rw [decide_eq_true_eq]
    exact ⟨fun z => ⟨fun r a b => by omega, z⟩, fun z => z.2⟩
  | f + 1, j => by
    show (if wdc (w + j) = sgF bs a b j then iwG bs w a b f (j + 1) else false) = true ↔ _
    by_cases c : wdc (w + j) = sgF bs a b j
    · rw [if_pos c, iwG_t bs w a b f (j + 1)]
      refine ⟨fun z => ⟨fun r h1 h2 => ?_, z.2⟩, fun z => ⟨fun r h1 h2 => z.1 r (by omega) (by omega), z.2⟩⟩
      by_cases e : r = j
      · rw [e]
        exact c
      · exact z.1 r (by omega) (by omega)
    · rw [if_neg c]
      exact ⟨fun z => absurd z (by decide), fun z => absurd (z.1 j (Nat.le_refl _) (by omega)) c⟩
theorem wdc_u : ∀ i, i < 11 → ∀ j, j < 11 → (∀ r, r < 5 → wdc (5 * i + r) = wdc (5 * j + r)) → i = j := by decide +kernel
theorem woG_k (bs : List Int32) (a b k : Nat) (hk : k < 11) : ∀ f i, f + i = 11 → (woG bs a b f i = nI (256 + k) ↔ (i ≤ k ∧ iwG bs (5 * k) a b 5 0 = true))
  | 0, i, h => by
    show (268 : Int32) = nI (256 + k) ↔ _
    refine ⟨fun e => ?_, fun z => by omega⟩
    have := (nI_inj (a := 268) (b := 256 + k) (by omega) (by omega)).mp e
    omega
  | f + 1, i, h => by
    have es : woG bs a b (f + 1) i = if iwG bs (5 * i) a b 5 0 = true then nI (256 + i) else woG bs a b f (i + 1) := rfl
    rw [es]
    by_cases c : iwG bs (5 * i) a b 5 0 = true
    · rw [if_pos c]
      refine ⟨fun e => ?_, fun z => ?_⟩
      · have := (nI_inj (a := 256 + i) (b := 256 + k) (by omega) (by omega)).mp e
        rw [show k = i by omega]
        exact ⟨Nat.le_refl _, c⟩
      · have x := ((iwG_t bs (5 * i) a b 5 0).mp c).1
        have y := ((iwG_t bs (5 * k) a b 5 0).mp z.2).1
        rw [wdc_u i (by omega) k hk (fun r hr => (x r (by omega) (by omega)).trans (y r (by omega) (by omega)).symm)]
    · rw [if_neg c, woG_k bs a b k hk f (i + 1) (by omega)]
      refine ⟨fun z => ⟨by omega, z.2⟩, fun z => ⟨?_, z.2⟩⟩
      rcases Nat.lt_or_ge i k with y | y
      · exact y
      · rw [show i = k by omega] at c
        exact absurd z.2 c
/-- the word of a code, as the model names it -/
def wdk (i : Nat) (t : String) : Prop := i < 11 ∧ 1 ≤ t.length ∧ t.length ≤ 4 ∧ (∀ r, r < 5 → wdc (5 * i + r) = if r < t.length then nI ((t.toList.getD r 'a').toNat) else 32) ∧ ∀ r, r < t.length → 97 ≤ (t.toList.getD r 'a').toNat ∧ (t.toList.getD r 'a').toNat ≤ 122
theorem wdk_cand : wdk 0 "cand" := by unfold wdk; decide +kernel
theorem wdk_vict : wdk 1 "vict" := by unfold wdk; decide +kernel
theorem wdk_hits : wdk 2 "hits" := by unfold wdk; decide +kernel
theorem wdk_asks : wdk 3 "asks" := by unfold wdk; decide +kernel
theorem wdk_out : wdk 4 "out" := by unfold wdk; decide +kernel
theorem wdk_door : wdk 5 "door" := by unfold wdk; decide +kernel
theorem wdk_room : wdk 6 "room" := by unfold wdk; decide +kernel
theorem wdk_key : wdk 7 "key" := by unfold wdk; decide +kernel
theorem wdk_and : wdk 8 "and" := by unfold wdk; decide +kernel
theorem wdk_or : wdk 9 "or" := by unfold wdk; decide +kernel
theorem wdk_not : wdk 10 "not" := by unfold wdk; decide +kernel
section MS
variable {bs : List Int32} {dm : Int32} {p ix : Nat} {s : PS} {fa : Int32} {i : Nat} {t : String}
theorem woF_w (H : byts bs) (W : wdk i t) {a : Nat} (ha : a ≤ bs.length) : woF bs a (beR isL bs a) = nI (256 + i) ↔ (beR isL bs a - a = t.length ∧ ∀ r, r < t.length → bs.getD (a + r) (-1) = nI ((t.toList.getD r 'a').toNat)) := by
  obtain ⟨w1, w2, w3, w4, w5⟩ := W
  obtain ⟨b1, b2, b3, b4⟩ := beR_stop isL _ a rfl ha
  unfold woF
  rw [woG_k bs a _ i w1 11 0 (by omega), iwG_t]
  constructor
  · rintro ⟨-, h1, h2⟩
    have q : beR isL bs a - a = t.length := by
      rcases Nat.lt_trichotomy (beR isL bs a - a) t.length with z | z | z
      · have e := (w4 _ (by omega)).symm.trans (h1 (beR isL bs a - a) (by omega) (by omega))
        rw [if_pos z] at e
        unfold sgF at e
        rw [if_neg (by omega)] at e
        obtain ⟨u1, u2⟩ := w5 _ z
        have := (nI_inj (a := _) (b := 32) (by omega) (by omega)).mp e
        omega
      · exact z
      · have e := (w4 t.length (by omega)).symm.trans (h1 t.length (by omega) (by omega))
        rw [if_neg (by omega)] at e
        unfold sgF at e
        rw [if_pos (by omega)] at e
        have l := b3 (a + t.length) (by omega) (by omega)
        rw [← e] at l
        exact absurd l (by decide)
    refine ⟨q, fun r hr => ?_⟩
    have e := (w4 r (by omega)).symm.trans (h1 r (by omega) (by omega))
    rw [if_pos hr] at e
    unfold sgF at e
    rw [if_pos (by omega)] at e
    exact e.symm
  · rintro ⟨h1, h2⟩
    refine ⟨Nat.zero_le _, fun r _ hr => ?_, by omega⟩
    rw [w4 r (by omega)]
    unfold sgF
    by_cases c : r < t.length
    · rw [if_pos c, if_pos (by omega), h2 r c]
    · rw [if_neg c, if_neg (by omega)]
theorem RT_wd (H : byts bs) (R : RT bs dm p ix) (W : wdk i t) : (cuF bs dm).1.getD ix (-1) = nI (256 + i) ↔ (beR isL bs (skp bs p) - skp bs p = t.length ∧ ∀ r, r < t.length → bs.getD (skp bs p + r) (-1) = nI ((t.toList.getD r 'a').toNat)) := by
  have w1 := W.1
  have w2 := W.2.1
  have no : beR isL bs (skp bs p) = skp bs p → ¬ (cuF bs dm).1.getD ix (-1) = nI (256 + i) → ((cuF bs dm).1.getD ix (-1) = nI (256 + i) ↔ (beR isL bs (skp bs p) - skp bs p = t.length ∧ ∀ r, r < t.length → bs.getD (skp bs p + r) (-1) = nI ((t.toList.getD r 'a').toNat))) := fun e n => ⟨fun z => absurd z n, fun z => by
    rw [e] at z
    omega⟩
  by_cases c : skp bs p < bs.length
  · obtain ⟨v, hv, e⟩ := byts_at H c
    cases cd : isD (bs.getD (skp bs p) (-1)) with
    | true =>
      obtain ⟨a1, a2, a3, a4, a5, a6⟩ := RT_num R c cd
      refine no (beR_out isL c ?_) (fun z => ?_)
      · cases y : isL (bs.getD (skp bs p) (-1)) with
        | true =>
          rw [e, isL_n hv] at y
          rw [e, isD_n hv] at cd
          omega
        | false => rfl
      · rw [a2] at z
        split at z
        · have := (nI_inj (a := 268) (b := 256 + i) (by omega) (by omega)).mp z
          omega
        · have := (nI_inj (a := 267) (b := 256 + i) (by omega) (by omega)).mp z
          omega
    | false =>
      cases cl : isL (bs.getD (skp bs p) (-1)) with
      | true =>
        obtain ⟨a1, a2, a3, a4, a5⟩ := RT_word R c cd cl
        rw [a2]
        exact woF_w H W (by omega)
      | false =>
        obtain ⟨a1, a2, a3, a4, a5⟩ := RT_sign R c cd cl
        refine no (beR_out isL c cl) (fun z => ?_)
        rw [a2, e] at z
        have := (nI_inj (a := v) (b := 256 + i) (by omega) (by omega)).mp z
        omega
  · have se : skp bs p = bs.length := by
      have := (skp_le R.1).2
      omega
    refine no (beR_end isL (by omega)) (fun z => ?_)
    rw [(RT_end R se).2] at z
    exact nI_ne1 (by omega) z.symm
theorem sm_.wb (S : sm_ bs dm s p fa) (H : byts bs) (W : wdk i t) : taB (cuF bs dm).1 (nI (256 + i)) s = true ↔ (fa = -1 ∧ beR isL bs (skp bs p) - skp bs p = t.length ∧ ∀ r, r < t.length → bs.getD (skp bs p + r) (-1) = nI ((t.toList.getD r 'a').toNat)) := by
  unfold taB
  rw [decide_eq_true_eq]
  refine ⟨fun ⟨a, b⟩ => ?_, fun ⟨a, b⟩ => ?_⟩
  · have hf := S.ff.mp a
    exact ⟨hf, (RT_wd H (S.rt hf) W).mp b⟩
  · exact ⟨S.ff.mpr a, (RT_wd H (S.rt a) W).mpr b⟩
theorem sm_.wk (S : sm_ bs dm s p fa) (H : byts bs) (W : wdk i t) (c : taB (cuF bs dm).1 (nI (256 + i)) s = true) : sm_ bs dm (taF (cuF bs dm).1 (nI (256 + i)) s) (skp bs p + t.length) fa := by
  unfold taF
  rw [if_pos c]
  obtain ⟨c1, c2, c3⟩ := (S.wb H W).mp c
  have R := S.rt c1
  have w2 := W.2.1
  have sl : skp bs p < bs.length := by
    rcases Nat.lt_or_ge (skp bs p) bs.length with z | z
    · exact z
    · rw [beR_end isL z] at c2
      omega
  obtain ⟨b1, b2, b3, b4⟩ := beR_stop isL (bs.length - skp bs p) (skp bs p) rfl (Nat.le_of_lt sl)
  have l := b3 (skp bs p) (Nat.le_refl _) (by omega)
  obtain ⟨v, hv, e⟩ := byts_at H sl
  have nd : isD (bs.getD (skp bs p) (-1)) = false := by
    cases y : isD (bs.getD (skp bs p) (-1)) with
    | true =>
      rw [e, isD_n hv] at y
      rw [e, isL_n hv] at l
      omega
    | false => rfl
  obtain ⟨a1, a2, a3, a4, a5⟩ := RT_word R sl nd l
  rw [show beR isL bs (skp bs p) = skp bs p + t.length by omega] at a5
  exact ⟨a5.1, Or.inl ⟨S.ff.mpr c1, c1, a5⟩⟩
end MS
