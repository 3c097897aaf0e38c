/-! The law told: what the row of numbers then holds. -/
theorem mlw_of {es e' : List Int32} {z : Nat} {f' : Nat → Int32} (F : FrP false es e' z) (hz : z ≤ 60) (hl : e'.length ≤ 400) (h1 : f' 1694 = nI e'.length) (h2 : ∀ k, k < e'.length → f' (1695 + k) = e'.getD k (-1)) : mlw f' (fun f => lawE (es.take 400) (fctL f)) := by
  obtain ⟨a1, a2, a3, v, a4, a5⟩ := F
  refine ⟨e', h1, by omega, h2, ?_, fun fc => ?_⟩
  · have := a3 0 []
    rw [List.append_nil] at this
    rw [this]
    rfl
  · have x4 := a4 fc [] (by show 0 + z ≤ 60; omega)
    have x5 := a5 fc []
    rw [List.take_of_length_le (by omega)]
    show decide _ = decide ((es.foldl (stp (fctL fc)) []).getLastD (-1) = 1)
    rw [x4, x5]
    rfl
theorem rep_lw {A : AD} {f f' : Nat → Int32} {es e' : List Int32} {n z : Nat} (R : rep f A) (F : FrP false es e' z) (hz : z ≤ 60) (hl : e'.length ≤ 400) (h0 : ∀ k, k < 1693 → f' k = f k) (h1 : f' 1693 = nI n) (h2 : f' 1694 = nI e'.length) (h3 : ∀ k, k < e'.length → f' (1695 + k) = e'.getD k (-1)) : rep f' (lwB A (nI n) (es.take 400)) := by
  obtain ⟨r1, r2, r3, r4, r5, r6, r7⟩ := R
  have L := mlw_of F hz hl h2 h3
  have ec : ∀ k, cn (lwB A (nI n) (es.take 400)) k = cn A k := fun k => rfl
  have en : ∀ k, nt (lwB A (nI n) (es.take 400)) k = nt A k := fun k => rfl
  have el : ∀ k, li (lwB A (nI n) (es.take 400)) k = li A k := fun k => rfl
  have ew : lw (lwB A (nI n) (es.take 400)) = (fun f => lawE (es.take 400) (fctL f)) := rfl
  have eq : ∀ i, i ≠ 23 → sc (lwB A (nI n) (es.take 400)) i = sc A i := fun i hi => sc_ne hi
  have e23 : sc (lwB A (nI n) (es.take 400)) 23 = nI n := sc_23 A _ _
  refine ⟨fun k hk => by rw [h0 _ (by omega), ec]; exact r1 k hk, fun k hk => by rw [h0 _ (by omega), en]; exact r2 k hk, fun p p1 p2 => ?_, ?_, ?_, fun i hi => ?_, Or.inr (by rw [ew]; exact L)⟩
  · obtain ⟨x1, x2, x3⟩ := r3 p p1 p2
    rw [el]
    exact ⟨x1, by rw [h0 _ (by omega)]; exact x2, fun k hk => by rw [h0 _ (by omega)]; exact x3 k hk⟩
  · obtain ⟨x1, x2, x3⟩ := r4
    rw [el]
    exact ⟨x1, by rw [h0 _ (by omega)]; exact x2, fun k hk => by rw [h0 _ (by omega)]; exact x3 k hk⟩
  · obtain ⟨x1, x2, x3⟩ := r5
    rw [el]
    exact ⟨x1, by rw [h0 _ (by omega)]; exact x2, fun k hk => by rw [h0 _ (by omega)]; exact x3 k hk⟩
  · by_cases c : i = 23
    · rw [c, e23]
      exact h1
    · rw [h0 _ (by omega), eq i c]
      exact r6 i hi
