/-! AdmissionDeskModel: its reader against the tokens: signs and failing. -/
def sgn (v : Nat) : Prop := v < 128 ∧ isB (nI v) = false ∧ isD (nI v) = false ∧ isL (nI v) = false
/-- the class's place and the model's: both where the same token begins, or both failed at the same byte -/
def sm_ (bs : List Int32) (dm : Int32) (s : PS) (p : Nat) (fa : Int32) : Prop := p ≤ bs.length ∧ ((s.2 = -1 ∧ fa = -1 ∧ RT bs dm p s.1) ∨ (¬ s.2 = -1 ∧ ¬ fa = -1 ∧ fa = fbF (cuF bs dm).2.1 (nI bs.length) s.2))
theorem woG_big (bs : List Int32) (a b : Nat) : ∀ f i, f + i ≤ 11 → ∃ w, 256 ≤ w ∧ w ≤ 268 ∧ woG bs a b f i = nI w ∧ w ≠ 267
  | 0, i, _ => ⟨268, by omega, by omega, rfl, by omega⟩
  | f + 1, i, h => by
    have es : woG bs a b (f + 1) i = if iwG bs (5 * i) a b 5 0 = true then nI (256 + i) else woG bs a b f (i + 1) := rfl
    rw [es]
    split
    · exact ⟨256 + i, by omega, by omega, rfl, by omega⟩
    · exact woG_big bs a b f (i + 1) (by omega)
section MS
variable {bs : List Int32} {dm : Int32} {p ix : Nat} {s : PS} {fa : Int32}
theorem RT_sg (H : byts bs) (R : RT bs dm p ix) {v : Nat} (hv : sgn v) : (cuF bs dm).1.getD ix (-1) = nI v ↔ (skp bs p < bs.length ∧ bs.getD (skp bs p) (-1) = nI v) := by
  obtain ⟨v1, v2, v3, v4⟩ := hv
  have big : ∀ w, 256 ≤ w → w ≤ 268 → ¬ nI w = nI v := fun w a b e => by
    have := (nI_inj (a := w) (b := v) (by omega) (by omega)).mp e
    omega
  by_cases c : skp bs p < bs.length
  · cases cd : isD (bs.getD (skp bs p) (-1)) with
    | true =>
      obtain ⟨a1, a2, a3, a4, a5, a6⟩ := RT_num R c cd
      rw [a2]
      refine ⟨fun e => ?_, fun e => ?_⟩
      · split at e
        · exact absurd e (big 268 (by omega) (by omega))
        · exact absurd e (big 267 (by omega) (by omega))
      · rw [e.2, v3] at cd
        cases cd
    | false =>
      cases cl : isL (bs.getD (skp bs p) (-1)) with
      | true =>
        obtain ⟨a1, a2, a3, a4, a5⟩ := RT_word R c cd cl
        obtain ⟨w, w1, w2, w3, -⟩ := woG_big bs (skp bs p) (beR isL bs (skp bs p)) 11 0 (by omega)
        have w3 : woF bs (skp bs p) (beR isL bs (skp bs p)) = nI w := w3
        rw [a2, w3]
        refine ⟨fun e => absurd e (big w w1 w2), fun e => ?_⟩
        rw [e.2, v4] at cl
        cases cl
      | false =>
        obtain ⟨a1, a2, a3, a4, a5⟩ := RT_sign R c cd cl
        rw [a2]
        exact ⟨fun e => ⟨c, e⟩, fun e => e.2⟩
  · have se : skp bs p = bs.length := by
      have := (skp_le R.1).2
      omega
    rw [(RT_end R se).2]
    exact ⟨fun e => absurd e.symm (nI_ne1 (by omega)), fun e => absurd e.1 c⟩
/-- where the token begins, as a failing tells it -/
theorem RT_fb (R : RT bs dm p ix) (hk : (cuF bs dm).1.length ≤ 400) (hl : (cuF bs dm).2.1.length < 2 ^ 31) : fbF (cuF bs dm).2.1 (nI bs.length) (nI ix) = nI (skp bs p) := by
  have K : ∀ x, ix < (cuF bs dm).2.1.length → (cuF bs dm).2.1.getD ix (-1) = x → fbF (cuF bs dm).2.1 (nI bs.length) (nI ix) = x := fun x a b => by
    unfold fbF
    rw [if_pos (nI_lt a hl), rw_getN (by omega), b]
  by_cases c : skp bs p < bs.length
  · cases cd : isD (bs.getD (skp bs p) (-1)) with
    | true =>
      obtain ⟨a1, a2, a3, a4, a5, a6⟩ := RT_num R c cd
      exact K _ a4 a3
    | false =>
      cases cl : isL (bs.getD (skp bs p) (-1)) with
      | true =>
        obtain ⟨a1, a2, a3, a4, a5⟩ := RT_word R c cd cl
        exact K _ a4 a3
      | false =>
        obtain ⟨a1, a2, a3, a4, a5⟩ := RT_sign R c cd cl
        exact K _ a4 a3
  · have se : skp bs p = bs.length := by
      have := (skp_le R.1).2
      omega
    have e := (RT_skp R).2.2
    rw [se, tkS_e (Nat.le_refl _)] at e
    have e1 : (cuF bs dm).2.1.drop ix = [] := congrArg (fun z => z.2.1) e
    have := List.drop_eq_nil_iff.mp e1
    unfold fbF
    rw [if_neg (nI_nlt this (by have := R.2.1; omega)), se]
theorem sm_.pl (S : sm_ bs dm s p fa) : p ≤ bs.length := S.1
theorem sm_.ff (S : sm_ bs dm s p fa) : s.2 = -1 ↔ fa = -1 := by
  rcases S.2 with ⟨a, b, -⟩ | ⟨a, b, -⟩
  · exact ⟨fun _ => b, fun _ => a⟩
  · exact ⟨fun z => absurd z a, fun z => absurd z b⟩
theorem sm_.rt (S : sm_ bs dm s p fa) (hf : fa = -1) : RT bs dm p s.1 := by
  rcases S.2 with ⟨a, b, c⟩ | ⟨a, b, -⟩
  · exact c
  · exact absurd hf b
theorem sm_.sk (S : sm_ bs dm s p fa) : sm_ bs dm s (skp bs p) fa := by
  refine ⟨(skp_le S.1).2, ?_⟩
  rcases S.2 with ⟨a, b, c⟩ | c
  · exact Or.inl ⟨a, b, RT_skp c⟩
  · exact Or.inr c
theorem sm_.tb (S : sm_ bs dm s p fa) (H : byts bs) {v : Nat} (hv : sgn v) : taB (cuF bs dm).1 (nI v) s = (decide (fa = -1) && atV bs (skp bs p) (nI v) (nI v)) := by
  rw [Bool.eq_iff_iff, Bool.and_eq_true, decide_eq_true_eq, atV_s H hv.1]
  unfold taB
  rw [decide_eq_true_eq]
  refine ⟨fun ⟨a, b⟩ => ?_, fun ⟨a, b⟩ => ?_⟩
  · have hf := S.ff.mp a
    exact ⟨hf, (RT_sg H (S.rt hf) hv).mp b⟩
  · exact ⟨S.ff.mpr a, (RT_sg H (S.rt a) hv).mpr b⟩
/-- a sign taken -/
theorem sm_.tk (S : sm_ bs dm s p fa) (H : byts bs) {v : Nat} (hv : sgn v) : sm_ bs dm (taF (cuF bs dm).1 (nI v) s) (if taB (cuF bs dm).1 (nI v) s = true then skp bs p + 1 else skp bs p) fa := by
  unfold taF
  by_cases c : taB (cuF bs dm).1 (nI v) s = true
  · rw [if_pos c, if_pos c]
    rw [S.tb H hv, Bool.and_eq_true, decide_eq_true_eq, atV_s H hv.1] at c
    obtain ⟨c1, c2, c3⟩ := c
    have R := S.rt c1
    obtain ⟨a1, a2, a3, a4, a5⟩ := RT_sign R c2 (by rw [c3]; exact hv.2.2.1) (by rw [c3]; exact hv.2.2.2)
    exact ⟨by omega, Or.inl ⟨S.ff.mpr c1, c1, a5⟩⟩
  · rw [if_neg c, if_neg c]
    exact S.sk
theorem cuF_kl (hl : bs.length ≤ 400) : ∀ k, k ≤ bs.length → (tkS bs dm k).1.length + k ≤ bs.length := by
  have key : ∀ z k, bs.length - k = z → k ≤ bs.length → (tkS bs dm k).1.length + k ≤ bs.length := by
    intro z
    induction z using Nat.strongRecOn with
    | ind z ih =>
      intro k hz hk
      by_cases c : k < bs.length
      · obtain ⟨l1, l2⟩ := coF_lt (dm := dm) c ([], [], [])
        have i := ih (bs.length - (coF bs dm k ([], [], [])).1) (by omega) _ rfl l2
        have l3 : (coF bs dm k ([], [], [])).2.1.length ≤ 1 := by
          unfold coF
          dsimp only
          split
          · exact Nat.zero_le _
          · split
            · split
              · exact Nat.le_refl _
              · exact Nat.le_refl _
            · split
              · exact Nat.le_refl _
              · exact Nat.le_refl _
        rw [tkS_s c]
        unfold tsA
        dsimp only
        rw [List.length_append]
        omega
      · rw [tkS_e (by omega)]
        exact (show 0 + k ≤ _ by omega)
  exact fun k hk => key _ k rfl hk
theorem cuF_kl1 (hl : bs.length ≤ 400) : (cuF bs dm).1.length ≤ 400 := by
  have := cuF_kl (dm := dm) hl 0 (Nat.zero_le _)
  rw [cuF_t hl]
  omega
theorem cuF_sl (hl : bs.length ≤ 400) : ∀ k, k ≤ bs.length → (tkS bs dm k).2.1.length + k ≤ bs.length := by
  have key : ∀ z k, bs.length - k = z → k ≤ bs.length → (tkS bs dm k).2.1.length + k ≤ bs.length := by
    intro z
    induction z using Nat.strongRecOn with
    | ind z ih =>
      intro k hz hk
      by_cases c : k < bs.length
      · obtain ⟨l1, l2⟩ := coF_lt (dm := dm) c ([], [], [])
        have i := ih (bs.length - (coF bs dm k ([], [], [])).1) (by omega) _ rfl l2
        have l3 : (coF bs dm k ([], [], [])).2.2.1.length ≤ 1 := by
          unfold coF
          dsimp only
          split
          · exact Nat.zero_le _
          · split
            · split
              · exact Nat.le_refl _
              · exact Nat.le_refl _
            · split
              · exact Nat.le_refl _
              · exact Nat.le_refl _
        rw [tkS_s c]
        unfold tsA
        dsimp only
        rw [List.length_append]
        omega
      · rw [tkS_e (by omega)]
        exact (show 0 + k ≤ _ by omega)
  exact fun k hk => key _ k rfl hk
theorem cuF_sl0 (hl : bs.length ≤ 400) : (cuF bs dm).2.1.length ≤ 400 := by
  have := cuF_sl (dm := dm) hl 0 (Nat.zero_le _)
  rw [cuF_t hl]
  omega
/-- it fails where the next token begins -/
theorem sm_.fl (S : sm_ bs dm s p fa) (hl : bs.length ≤ 400) : sm_ bs dm (faF (nI s.1) s) p (if fa = -1 then nI (skp bs p) else fa) := by
  have hs := cuF_sl0 (dm := dm) hl
  unfold faF
  by_cases c : fa = -1
  · rw [if_pos c, if_pos (S.ff.mpr c)]
    have R := S.rt c
    have := (skp_le R.1).2
    have i2 : s.1 ≤ (cuF bs dm).1.length := R.2.1
    have i3 := cuF_kl1 (dm := dm) hl
    exact ⟨S.1, Or.inr ⟨nI_ne1 (by omega), nI_ne1 (by omega), (RT_fb R i3 (by omega)).symm⟩⟩
  · rw [if_neg c, if_neg (fun z => c (S.ff.mp z))]
    exact S
end MS
