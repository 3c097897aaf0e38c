/-! Pieces of a law, as the class and as the model tell them. -/
def FrP (b : Bool) (e e' : List Int32) (n : Nat) : Prop := 1 ≤ n ∧ e.length ≤ e'.length ∧ (∀ k rest, mdp k (e' ++ rest) = mdp (k + 1) rest) ∧ ∃ v : (Nat → Int32) → Int32, (∀ f st, st.length + n ≤ 60 → e.foldl (stp (fctL f)) st = st ++ [v f]) ∧ ∀ f st, e'.foldl (mst f) st = st ++ [if b = true then 1 - v f else v f]
theorem app60_l {st : List Int32} (h : st.length < 60) (x : Int32) : app60 st x = st ++ [x] := by
  unfold app60
  rw [if_pos h]
theorem FrP_one {x x' : Int32} (g : (Nat → Int32) → Int32) (h1 : ∀ f st, st.length < 60 → stp (fctL f) st x = st ++ [g f]) (h2 : ∀ f st, mst f st x' = st ++ [g f]) (h3 : ¬ x' < 1000 ∨ x' < 20) : FrP false [x] [x'] 1 := by
  refine ⟨Nat.le_refl _, Nat.le_refl _, fun k rest => ?_, g, fun f st hs => h1 f st (by omega), fun f st => h2 f st⟩
  show mdp k (x' :: rest) = _
  rw [mdp, if_pos h3]
theorem FrP_num {v : Nat} (hv : v < 10000) : FrP false [16 + nI v] [1000 + nI v] 1 := by
  have e1 : (16 : Int32) + nI v = nI (16 + v) := nI_add 16 v
  have e2 : (1000 : Int32) + nI v = nI (1000 + v) := nI_add 1000 v
  have g1 : ¬ nI (16 + v) < 16 := nI_nlt (b := 16) (by omega) (by omega)
  have g2 : ¬ nI (1000 + v) < 1000 := nI_nlt (b := 1000) (by omega) (by omega)
  have m1 : nI (16 + v) - 16 = nI v := by
    rw [show (16 : Int32) = nI 16 from rfl, pk_sub (by omega)]
    exact congrArg nI (by omega)
  have m2 : nI (1000 + v) - 1000 = nI v := by
    rw [show (1000 : Int32) = nI 1000 from rfl, pk_sub (by omega)]
    exact congrArg nI (by omega)
  rw [e1, e2]
  refine FrP_one (fun _ => nI v) (fun f st hs => ?_) (fun f st => ?_) (Or.inl g2)
  · unfold stp
    rw [if_neg g1, app60_l hs, m1]
  · unfold mst
    rw [if_pos (Or.inl g2), if_neg g2, m2]
theorem FrP_fact {i : Nat} (hi : i < 8) : FrP false [nI i] [nI i] 1 := by
  have h : i = 0 ∨ i = 1 ∨ i = 2 ∨ i = 3 ∨ i = 4 ∨ i = 5 ∨ i = 6 ∨ i = 7 := by omega
  have g1 : nI i < 16 := nI_lt (b := 16) (by omega) (by omega)
  have g2 : nI i < 8 := nI_lt (b := 8) (by omega) (by omega)
  have g3 : nI i < 1000 := nI_lt (b := 1000) (by omega) (by omega)
  have g4 : nI i < 20 := nI_lt (b := 20) (by omega) (by omega)
  refine FrP_one (fun f => f i) (fun f st hs => ?_) (fun f st => ?_) (Or.inr g4)
  · unfold stp
    rw [if_pos g1, if_pos g2, app60_l hs]
    rcases h with rfl | rfl | rfl | rfl | rfl | rfl | rfl | rfl <;> rfl
  · unfold mst
    rw [if_pos (Or.inr g4), if_pos g3]
    rcases h with rfl | rfl | rfl | rfl | rfl | rfl | rfl | rfl <;> rfl
theorem mdp_2 {c : Int32} {k : Nat} {rest : List Int32} (h1 : c < 1000) (h2 : ¬ c < 20) (h3 : ¬ c = 25) : mdp (k + 2) (c :: rest) = mdp (k + 1) rest := by
  rw [mdp, if_neg (fun z => z.elim (fun y => y h1) h2), if_neg h3, if_pos (by omega)]
  rfl
theorem FrP_join {e1 e1' e2 e2' : List Int32} {n1 n2 : Nat} {c c' : Int32} (F1 : FrP false e1 e1' n1) (F2 : FrP false e2 e2' n2) (c1 : c < 16) (c2 : ¬ c < 8) (c3 : ¬ c = 13) (d1 : c' < 1000) (d2 : ¬ c' < 20) (d3 : ¬ c' = 25) (hj : ∀ l r, jnI c l r = mjn c' l r) : FrP false (e1 ++ e2 ++ [c]) (e1' ++ e2' ++ [c']) (n1 + n2) := by
  obtain ⟨a1, a2, a3, v1, a4, a5⟩ := F1
  obtain ⟨b1, b2, b3, v2, b4, b5⟩ := F2
  refine ⟨by omega, ?_, fun k rest => ?_, fun f => jnI c (v1 f) (v2 f), fun f st hs => ?_, fun f st => ?_⟩
  · simp only [List.length_append, List.length_cons, List.length_nil]
    omega
  · rw [List.append_assoc, List.append_assoc, a3, b3]
    exact mdp_2 d1 d2 d3
  · rw [List.foldl_append, List.foldl_append, a4 f st (by omega), b4 f (st ++ [v1 f]) (by rw [List.length_append, List.length_singleton]; omega)]
    rw [List.foldl_cons, List.foldl_nil, ← stp_j c1 c2 c3, List.dropLast_concat, List.dropLast_concat, List.getLastD_concat, List.getLastD_concat, app60_l (by omega)]
  · rw [List.foldl_append, List.foldl_append, show e1'.foldl (mst f) st = st ++ [v1 f] from a5 f st, show e2'.foldl (mst f) (st ++ [v1 f]) = st ++ [v1 f] ++ [v2 f] from b5 f _, List.foldl_cons, List.foldl_nil]
    show _ = st ++ [jnI c (v1 f) (v2 f)]
    unfold mst
    rw [if_neg (fun z => z.elim (fun y => y d1) d2), if_neg d3, List.dropLast_concat, List.dropLast_concat, List.getLastD_concat, List.getLastD_concat, hj]
theorem FrP_not {b : Bool} {e e' : List Int32} {n : Nat} (F : FrP b e e' n) : FrP (!b) e (e' ++ [25]) n := by
  obtain ⟨a1, a2, a3, v, a4, a5⟩ := F
  refine ⟨a1, ?_, fun k rest => ?_, v, a4, fun f st => ?_⟩
  · rw [List.length_append]
    omega
  · rw [List.append_assoc, a3]
    show mdp (k + 1) (25 :: rest) = _
    rw [mdp, if_neg (by decide), if_pos rfl, if_pos (by omega)]
  · rw [List.foldl_append, a5 f st, List.foldl_cons, List.foldl_nil]
    unfold mst
    rw [if_neg (by decide), if_pos rfl, List.dropLast_concat, List.getLastD_concat]
    cases b with
    | true =>
      simp only [Bool.not_true, Bool.false_eq_true, if_true, if_false]
      congr 2
      rw [Int32.sub_eq_add_neg, Int32.sub_eq_add_neg, Int32.neg_add, Int32.sub_eq_add_neg, Int32.neg_neg, ← Int32.add_assoc, show (1 : Int32) + -1 = 0 by decide, Int32.zero_add]
    | false => rfl
theorem FrP_fin {b : Bool} {e e' : List Int32} {n : Nat} (F : FrP b e e' n) (hl : b = true → (e ++ [13]).length ≤ e'.length) : FrP false (if b = true then e ++ [13] else e) e' n := by
  obtain ⟨a1, a2, a3, v, a4, a5⟩ := F
  cases b with
  | false => exact ⟨a1, a2, a3, v, a4, a5⟩
  | true =>
    refine ⟨a1, hl rfl, a3, fun f => 1 - v f, fun f st hs => ?_, fun f st => a5 f st⟩
    rw [if_pos rfl, List.foldl_append, a4 f st hs, List.foldl_cons, List.foldl_nil]
    rw [← stp_t (by decide) (by decide) rfl, List.dropLast_concat, List.getLastD_concat, app60_l (by omega)]
