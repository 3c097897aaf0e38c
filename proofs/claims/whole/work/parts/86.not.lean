/-! 'not', and how much of it is looked at. -/
section NT
variable {K N : List Int32}
theorem ntF_b : ∀ (f : Nat) (b : Bool) (s : LZ), ntF K f b s = (xor b (ntF K f false s).1, (ntF K f false s).2)
  | 0, b, s => by
    show (b, s) = (xor b false, s)
    rw [Bool.xor_false]
  | f + 1, b, s => by
    rw [ntF_s, ntF_s]
    by_cases c : taB K 266 s.1 = true
    · rw [if_pos c, if_pos c, ntF_b f (!b), ntF_b f (!false)]
      cases b <;> cases (ntF K f false (lTk K 266 s)).1 <;> rfl
    · rw [if_neg c, if_neg c, Bool.xor_false]
theorem lTk_yes {k : Int32} {s : LZ} (c : taB K k s.1 = true) : lTk K k s = ((s.1.1 + 1, s.1.2), s.2) := by
  unfold lTk taF
  rw [if_pos c]
theorem ntF_f : ∀ (f f' : Nat) (b : Bool) (s : LZ), K.length ≤ f + s.1.1 → K.length ≤ f' + s.1.1 → ntF K f b s = ntF K f' b s
  | 0, f', b, s, h1, h2 => by
    have c : ¬ taB K 266 s.1 = true := fun z => by
      have := (taB_ll (by decide) z).2
      omega
    cases f' with
    | zero => rfl
    | succ f' =>
      rw [ntF_s, if_neg c]
      rfl
  | f + 1, 0, b, s, h1, h2 => by
    have c : ¬ taB K 266 s.1 = true := fun z => by
      have := (taB_ll (by decide) z).2
      omega
    rw [ntF_s, if_neg c]
    rfl
  | f + 1, f' + 1, b, s, h1, h2 => by
    rw [ntF_s, ntF_s]
    by_cases c : taB K 266 s.1 = true
    · rw [if_pos c, if_pos c]
      have e := lTk_yes c
      exact ntF_f f f' (!b) _ (by rw [e]; show _ ≤ f + (s.1.1 + 1); omega) (by rw [e]; show _ ≤ f' + (s.1.1 + 1); omega)
    · rw [if_neg c, if_neg c]
end NT
section ML
variable {bs : List Int32} {p : Nat} {cs : List Int32} {s s' s'' s3 : LZ} {p1 p2 p3 n1 n3 : Nat} {fa1 fa3 c c' : Int32} {cs1 cs3 : List Int32}
/-- as Rl, the value turned or not -/
def Rlb (bs : List Int32) (b : Bool) (s s1 : LZ) (cs : List Int32) (p p' n' : Nat) (fa' : Int32) (cs' : List Int32) : Prop := sm_ bs 4 s1.1 p' fa' ∧ p ≤ p' ∧ cs'.length + p ≤ cs.length + p' ∧ (fa' = -1 → p < p' ∧ s.1.1 < s1.1.1 ∧ n' = s1.2.1 ∧ n' ≤ 60 ∧ ∃ e e' z, s1.2.2 = s.2.2 ++ e ∧ cs' = cs ++ e' ∧ n' = s.2.1 + z ∧ FrP b e e' z ∧ (b = true → (e ++ [13]).length ≤ e'.length))
theorem Rl.b (R : Rl bs s s' cs p p1 n1 fa1 cs1) : Rlb bs false s s' cs p p1 n1 fa1 cs1 := by
  obtain ⟨a1, a2, a3, a4⟩ := R
  refine ⟨a1, a2, a3, fun z => ?_⟩
  obtain ⟨u1, u2, u3, u4, e, e', y, u5, u6, u7, u8⟩ := a4 z
  exact ⟨u1, u2, u3, u4, e, e', y, u5, u6, u7, u8, fun w => by cases w⟩
theorem Rlb.fin {b : Bool} (R : Rlb bs b s s' cs p p1 n1 fa1 cs1) : Rl bs s (if b = true then lSt 13 s' else s') cs p p1 n1 fa1 cs1 := by
  obtain ⟨a1, a2, a3, a4⟩ := R
  cases b with
  | false =>
    refine ⟨a1, a2, a3, fun z => ?_⟩
    obtain ⟨u1, u2, u3, u4, e, e', y, u5, u6, u7, u8, -⟩ := a4 z
    exact ⟨u1, u2, u3, u4, e, e', y, u5, u6, u7, u8⟩
  | true =>
    rw [if_pos rfl]
    refine ⟨a1, a2, a3, fun z => ?_⟩
    obtain ⟨u1, u2, u3, u4, e, e', y, u5, u6, u7, u8, u9⟩ := a4 z
    refine ⟨u1, u2, u3, u4, e ++ [13], e', y, ?_, u6, u7, ?_⟩
    · show s'.2.2 ++ [13] = _
      rw [u5, List.append_assoc]
    · have := FrP_fin u8 u9
      rw [if_pos rfl] at this
      exact this
/-- one 'not' more before it -/
theorem Rlb.nt {b : Bool} (R : Rlb bs b s'' s' cs p2 p1 n1 fa1 cs1) (e2 : s''.2 = s.2) (e3 : s''.1.1 = s.1.1 + 1) (hp : p < p2) : Rlb bs (!b) s s' cs p p1 n1 fa1 (cs1 ++ [25]) := by
  obtain ⟨a1, a2, a3, a4⟩ := R
  have l1 : (cs1 ++ [25]).length = cs1.length + 1 := by
    rw [List.length_append]
    rfl
  refine ⟨a1, by omega, by omega, fun z => ?_⟩
  obtain ⟨u1, u2, u3, u4, e, e', y, u5, u6, u7, u8, u9⟩ := a4 z
  refine ⟨by omega, by omega, u3, u4, e, e' ++ [25], y, by rw [u5, e2], ?_, by rw [u7, e2], FrP_not u8, fun _ => ?_⟩
  · rw [u6, List.append_assoc]
  · rw [List.length_append, List.length_append]
    have := u8.2.1
    show e.length + 1 ≤ e'.length + 1
    omega
/-- a bracket around it -/
theorem Rl.br (R : Rl bs s'' s' cs p2 p1 n1 fa1 cs1) (e2 : s''.2 = s.2) (e3 : s''.1.1 = s.1.1 + 1) (hp : p < p2) (S : sm_ bs 4 (lNd (cuF bs 4).1 41 s').1 p3 fa3) (h1 : p1 ≤ p3) (h2 : ¬ fa1 = -1 → fa3 = fa1) (h3 : fa3 = -1 → s'.1.1 ≤ (lNd (cuF bs 4).1 41 s').1.1) : Rl bs s (lNd (cuF bs 4).1 41 s') cs p p3 n1 fa3 cs1 := by
  obtain ⟨a1, a2, a3, a4⟩ := R
  refine ⟨S, by omega, by omega, fun z => ?_⟩
  have h3 := h3 z
  have z1 : fa1 = -1 := by
    by_cases y : fa1 = -1
    · exact y
    · exact absurd ((h2 y).symm.trans z) y
  obtain ⟨u1, u2, u3, u4, e, e', y, u5, u6, u7, u8⟩ := a4 z1
  exact ⟨by omega, by omega, u3, u4, e, e', y, by show s'.2.2 = _; rw [u5, e2], u6, by rw [u7, e2], u8⟩
end ML
