/-! What is told of the latest asks: both ways to tell it. -/
section MY
variable {h h' : pmH} {m : Nat} {o : Nat → Int32} {A A' K K' B : AD} {bs ws bs' ws' xs : List Int32} {ik ft : Int32}
/-- x stands at j -/
theorem agM_1 (xs : List Int32) (x : Int32) : ∀ k, (agM xs x k = 0 ∧ ∀ j, j < k → xs.getD j (-1) ≠ x) ∨ ∃ a, a < k ∧ agM xs x k = a + 1 ∧ xs.getD a (-1) = x ∧ ∀ j, a < j → j < k → xs.getD j (-1) ≠ x
  | 0 => Or.inl ⟨rfl, fun j hj => by omega⟩
  | k + 1 => by
    have e : agM xs x (k + 1) = if xs.getD k (-1) = x then k + 1 else agM xs x k := rfl
    rw [e]
    by_cases c : xs.getD k (-1) = x
    · rw [if_pos c]
      exact Or.inr ⟨k, by omega, rfl, c, fun j h1 h2 => by omega⟩
    · rw [if_neg c]
      rcases agM_1 xs x k with ⟨e1, e2⟩ | ⟨a, a1, a2, a3, a4⟩
      · refine Or.inl ⟨e1, fun j hj => ?_⟩
        by_cases ej : j = k
        · rw [ej]
          exact c
        · exact e2 j (by omega)
      · refine Or.inr ⟨a, by omega, a2, a3, fun j h1 h2 => ?_⟩
        by_cases ej : j = k
        · rw [ej]
          exact c
        · exact a4 j h1 (by omega)
theorem ndN_1 (xs : List Int32) (hl : xs.length ≤ 100) (y : Int32) : ∀ z k, xs.length - k = z → k ≤ xs.length → (ndN xs y k = 100 ∧ ∀ j, k ≤ j → j < xs.length → xs.getD j (-1) ≠ y) ∨ (k ≤ ndN xs y k ∧ ndN xs y k < xs.length ∧ xs.getD (ndN xs y k) (-1) = y ∧ ∀ j, k ≤ j → j < ndN xs y k → xs.getD j (-1) ≠ y)
  | 0, k, hz, hk => Or.inl ⟨ndN_e xs y (by omega), fun j h1 h2 => by omega⟩
  | z + 1, k, hz, hk => by
    have hk2 : k < xs.length := by omega
    rw [ndN_s xs y hk2]
    by_cases c : xs.getD k (-1) = y
    · rw [if_pos c]
      exact Or.inr ⟨Nat.le_refl _, hk2, c, fun j h1 h2 => by omega⟩
    · rw [if_neg c]
      rcases ndN_1 xs hl y z (k + 1) (by omega) (by omega) with ⟨e1, e2⟩ | ⟨a1, a2, a3, a4⟩
      · refine Or.inl ⟨e1, fun j h1 h2 => ?_⟩
        by_cases ej : j = k
        · rw [ej]
          exact c
        · exact e2 j (by omega) h2
      · refine Or.inr ⟨by omega, a2, a3, fun j h1 h2 => ?_⟩
        by_cases ej : j = k
        · rw [ej]
          exact c
        · exact a4 j (by omega) h2
/-- how many unlike ones -/
def dst : List Int32 → Nat
  | [] => 0
  | x :: l => dst l + if x ∈ l then 0 else 1
theorem dst_app (x : Int32) : ∀ l : List Int32, dst (l ++ [x]) = dst l + if x ∈ l then 0 else 1
  | [] => rfl
  | y :: l => by
    have e1 : dst (y :: l ++ [x]) = dst (l ++ [x]) + if y ∈ l ++ [x] then 0 else 1 := rfl
    have e2 : dst (y :: l) = dst l + if y ∈ l then 0 else 1 := rfl
    rw [e1, e2, dst_app x l]
    by_cases c1 : y = x
    · subst c1
      have m1 : y ∈ l ++ [y] := List.mem_append.mpr (Or.inr (List.mem_singleton.mpr rfl))
      have m2 : y ∈ y :: l := List.mem_cons_self
      rw [if_pos m1, if_pos m2]
    · have m1 : y ∈ l ++ [x] ↔ y ∈ l := by
        rw [List.mem_append, List.mem_singleton]
        exact ⟨fun z => z.resolve_right c1, Or.inl⟩
      have m2 : x ∈ y :: l ↔ x ∈ l := by
        rw [List.mem_cons]
        exact ⟨fun z => z.resolve_left (Ne.symm c1), Or.inr⟩
      by_cases a : y ∈ l <;> by_cases b : x ∈ l
      · rw [if_pos b, if_pos (m1.mpr a), if_pos a, if_pos (m2.mpr b)]
      · rw [if_neg b, if_pos (m1.mpr a), if_pos a, if_neg (fun z => b (m2.mp z))]
      · rw [if_pos b, if_neg (fun z => a (m1.mp z)), if_neg a, if_pos (m2.mpr b)]
      · rw [if_neg b, if_neg (fun z => a (m1.mp z)), if_neg a, if_neg (fun z => b (m2.mp z))]
theorem dst_le : ∀ l : List Int32, dst l ≤ l.length
  | [] => Nat.le_refl _
  | x :: l => by
    have := dst_le l
    have e2 : dst (x :: l) = dst l + if x ∈ l then 0 else 1 := rfl
    rw [e2, List.length_cons]
    split <;> omega
theorem mem_take_at {xs : List Int32} {x : Int32} {k : Nat} (hk : k ≤ xs.length) : x ∈ xs.take k ↔ ∃ j, j < k ∧ xs.getD j (-1) = x := by
  refine ⟨fun z => ?_, fun ⟨j, j1, j2⟩ => ?_⟩
  · obtain ⟨j, j1, j2⟩ := mem_getD z
    rw [List.length_take] at j1
    refine ⟨j, by omega, ?_⟩
    rw [List.getD_eq_getElem?_getD, List.getElem?_take, if_pos (by omega), ← List.getD_eq_getElem?_getD] at j2
    exact j2
  · rw [← j2, List.mem_iff_getElem?]
    refine ⟨j, ?_⟩
    rw [List.getElem?_take, if_pos j1, List.getD_eq_getElem?_getD, List.getElem?_eq_getElem (show j < xs.length by omega)]
    rfl
theorem mem_drop_at {xs : List Int32} {x : Int32} {k : Nat} : x ∈ xs.drop k ↔ ∃ j, k ≤ j ∧ j < xs.length ∧ xs.getD j (-1) = x := by
  refine ⟨fun z => ?_, fun ⟨j, j0, j1, j2⟩ => ?_⟩
  · obtain ⟨j, j1, j2⟩ := mem_getD z
    rw [List.length_drop] at j1
    refine ⟨k + j, by omega, by omega, ?_⟩
    rw [List.getD_eq_getElem?_getD, List.getElem?_drop, ← List.getD_eq_getElem?_getD] at j2
    exact j2
  · rw [← j2, List.mem_iff_getElem?]
    refine ⟨j - k, ?_⟩
    rw [List.getElem?_drop, show k + (j - k) = j by omega, List.getD_eq_getElem?_getD, List.getElem?_eq_getElem j1]
    rfl
theorem unS_d (xs : List Int32) : ∀ k, k ≤ xs.length → unS xs k = dst (xs.take k)
  | 0, _ => by rw [List.take_zero]; rfl
  | k + 1, hk => by
    rw [unS_s, unS_d xs k (by omega), rw_take_succ (show k < xs.length by omega), dst_app]
    have e : xs.getD k 0 = xs.getD k (-1) := by
      rw [List.getD_eq_getElem?_getD, List.getD_eq_getElem?_getD, List.getElem?_eq_getElem (show k < xs.length by omega)]
      rfl
    rw [e]
    unfold agA
    rcases agM_1 xs (xs.getD k (-1)) k with ⟨e1, e2⟩ | ⟨a, a1, a2, a3, a4⟩
    · have nm : ¬ xs.getD k (-1) ∈ xs.take k := fun z => by
        obtain ⟨j, j1, j2⟩ := (mem_take_at (by omega)).mp z
        exact e2 j j1 j2
      rw [e1, if_pos rfl, if_neg nm]
    · have nm : xs.getD k (-1) ∈ xs.take k := (mem_take_at (by omega)).mpr ⟨a, a1, a3⟩
      rw [a2, if_neg (by omega), if_pos nm]
      rfl
theorem drop_at {xs : List Int32} {k : Nat} (hk : k < xs.length) : xs.drop k = xs.getD k (-1) :: xs.drop (k + 1) := by
  rw [List.drop_eq_getElem_cons hk, List.getD_eq_getElem?_getD, List.getElem?_eq_getElem hk]
  rfl
theorem dst_drop {xs : List Int32} (hl : xs.length ≤ 100) {k : Nat} (hk : k < xs.length) : dst (xs.drop k) = dst (xs.drop (k + 1)) + if ndN xs (xs.getD k (-1)) (k + 1) = 100 then 1 else 0 := by
  have e2 : dst (xs.getD k (-1) :: xs.drop (k + 1)) = dst (xs.drop (k + 1)) + if xs.getD k (-1) ∈ xs.drop (k + 1) then 0 else 1 := rfl
  rw [drop_at hk, e2]
  congr 1
  rcases ndN_1 xs hl (xs.getD k (-1)) _ (k + 1) rfl (by omega) with ⟨e1, e2⟩ | ⟨a1, a2, a3, a4⟩
  · have nm : ¬ xs.getD k (-1) ∈ xs.drop (k + 1) := fun z => by
      obtain ⟨j, j0, j1, j2⟩ := mem_drop_at.mp z
      exact e2 j j0 j1 j2
    rw [if_neg nm, if_pos e1]
  · have nm : xs.getD k (-1) ∈ xs.drop (k + 1) := mem_drop_at.mpr ⟨_, a1, a2, a3⟩
    rw [if_pos nm, if_neg (by omega)]
/-- unlike ones from i to j -/
def unl (xs : List Int32) (i j : Nat) : Prop := ∀ a b, i ≤ a → a < b → b < j → xs.getD a (-1) ≠ xs.getD b (-1)
theorem lgS_s (xs : List Int32) (k : Nat) : lgS xs (k + 1) = (max (lgS xs k).1 (k - max (lgS xs k).2 (agA xs k) + 1), max (lgS xs k).2 (agA xs k)) := rfl
theorem lgS_un (xs : List Int32) : ∀ k, (lgS xs k).2 ≤ k ∧ unl xs (lgS xs k).2 k ∧ (∀ i, i ≤ k → unl xs i k → (lgS xs k).2 ≤ i) ∧ (∃ i j, i ≤ j ∧ j ≤ k ∧ unl xs i j ∧ (lgS xs k).1 = j - i) ∧ ∀ i j, i ≤ j → j ≤ k → unl xs i j → j - i ≤ (lgS xs k).1
  | 0 => ⟨Nat.le_refl _, fun a b _ _ hb => by omega, fun i _ _ => Nat.zero_le _, ⟨0, 0, Nat.le_refl _, Nat.le_refl _, fun a b _ _ hb => by omega, rfl⟩, fun i j h1 h2 _ => by omega⟩
  | k + 1 => by
    obtain ⟨i1, i2, i3, ⟨pi, pj, q1, q2, q3, q4⟩, i5⟩ := lgS_un xs k
    obtain ⟨s, hs⟩ : ∃ s, s = max (lgS xs k).2 (agA xs k) := ⟨_, rfl⟩
    rw [lgS_s, ← hs]
    dsimp only
    have al : agA xs k ≤ k := agM_le _ _ _
    have U : unl xs s (k + 1) := by
      intro a b ha hab hb
      by_cases c : b = k
      · rw [c]
        unfold agA at hs
        rcases agM_1 xs (xs.getD k (-1)) k with ⟨e1, e2⟩ | ⟨a', a1, a2, a3, a4⟩
        · exact e2 a (by omega)
        · exact a4 a (by omega) (by omega)
      · exact i2 a b (by omega) hab (by omega)
    have Mi : ∀ i, i ≤ k + 1 → unl xs i (k + 1) → s ≤ i := by
      intro i hi hu
      by_cases ck : i = k + 1
      · omega
      have h1 := i3 i (by omega) (fun a b ha hab hb => hu a b ha hab (by omega))
      have h2 : agA xs k ≤ i := by
        unfold agA
        rcases agM_1 xs (xs.getD k (-1)) k with ⟨e1, e2⟩ | ⟨a', a1, a2, a3, a4⟩
        · omega
        · rcases Nat.lt_or_ge a' i with z | z
          · omega
          · exact absurd a3 (hu a' k z a1 (by omega))
      omega
    refine ⟨by omega, U, Mi, ?_, fun i j hij hj hu => ?_⟩
    · by_cases c : (lgS xs k).1 ≤ k - s + 1
      · exact ⟨s, k + 1, by omega, Nat.le_refl _, U, by omega⟩
      · exact ⟨pi, pj, q1, by omega, q3, by omega⟩
    · by_cases c : j = k + 1
      · subst c
        have := Mi i hij hu
        omega
      · have := i5 i j hij (by omega) hu
        omega
/-- two asks for one key, none between -/
def nbr (xs : List Int32) (a b : Nat) : Prop := a < b ∧ xs.getD a (-1) = xs.getD b (-1) ∧ ∀ c, a < c → c < b → xs.getD c (-1) ≠ xs.getD b (-1)
theorem max_int (x y : Int32) : (if x < y then y else x).toInt = max x.toInt y.toInt := by
  by_cases c : x < y
  · have := Int32.lt_iff_toInt_lt.mp c
    rw [if_pos c]
    omega
  · have : ¬ x.toInt < y.toInt := fun z => c (Int32.lt_iff_toInt_lt.mpr z)
    rw [if_neg c]
    omega
theorem wgS_nb (xs : List Int32) (hl : xs.length ≤ 100) : ∀ k, k ≤ xs.length → ((wgS xs k).toInt = -1 ∨ ∃ a b, nbr xs a b ∧ b < k ∧ (wgS xs k).toInt = (b - a - 1 : Nat)) ∧ ∀ a b, nbr xs a b → b < k → ((b - a - 1 : Nat) : Int) ≤ (wgS xs k).toInt
  | 0, _ => ⟨Or.inl rfl, fun a b _ hb => by omega⟩
  | k + 1, hk => by
    obtain ⟨i1, i2⟩ := wgS_nb xs hl k (by omega)
    rw [wgS_s]
    unfold agA
    rcases agM_1 xs (xs.getD k (-1)) k with ⟨e1, e2⟩ | ⟨a', a1, a2, a3, a4⟩
    · rw [e1, if_pos rfl]
      refine ⟨i1.imp id (fun ⟨a, b, q1, q2, q3⟩ => ⟨a, b, q1, by omega, q3⟩), fun a b hn hb => ?_⟩
      by_cases c : b = k
      · rw [c] at hn
        exact absurd hn.2.1 (e2 a hn.1)
      · exact i2 a b hn (by omega)
    · rw [a2, if_neg (by omega)]
      have nb : nbr xs a' k := ⟨a1, a3, fun c h1 h2 => a4 c h1 h2⟩
      have tI : (nI (k - (a' + 1))).toInt = ((k - a' - 1 : Nat) : Int) := by
        rw [nI_toInt (by omega)]
        omega
      refine ⟨Or.inr ?_, fun a b hn hb => ?_⟩
      · rw [max_int, tI]
        by_cases c : (wgS xs k).toInt ≤ ((k - a' - 1 : Nat) : Int)
        · exact ⟨a', k, nb, by omega, by omega⟩
        · rcases i1 with z | ⟨a, b, q1, q2, q3⟩
          · omega
          · exact ⟨a, b, q1, by omega, by omega⟩
      · rw [max_int, tI]
        by_cases c : b = k
        · subst c
          have : a = a' := by
            rcases Nat.lt_trichotomy a a' with z | z | z
            · exact absurd a3 (hn.2.2 a' z a1)
            · exact z
            · exact absurd hn.2.1 (a4 a z hn.1)
          omega
        · have := i2 a b hn (by omega)
          omega
/-- the key asked for most often, and how often -/
theorem cmS_inv (xs : List Int32) (hx : ∀ x ∈ xs, ∃ n, n < 100000 ∧ x = nI n) : ∀ k, k ≤ xs.length → (k = 0 ∧ cmS xs k = (-1, 0)) ∨ ((cmS xs k).1 ≠ -1 ∧ (cmS xs k).2 = xs.count (cmS xs k).1)
  | 0, _ => Or.inl ⟨rfl, rfl⟩
  | k + 1, hk => by
    refine Or.inr ?_
    have hm := getD_mem (l := xs) (j := k) (by omega)
    obtain ⟨n, n1, n2⟩ := hx _ hm
    have ne : xs.getD k (-1) ≠ -1 := by
      rw [n2]
      exact nI_ne1 (by omega)
    have cp := mem_ct.mp hm
    rw [cmS_s]
    rcases cmS_inv xs hx k (by omega) with ⟨_, e⟩ | ⟨e1, e2⟩
    · rw [e, if_pos (Or.inl cp)]
      exact ⟨ne, rfl⟩
    · split
      · exact ⟨ne, rfl⟩
      · exact ⟨e1, e2⟩
end MY
