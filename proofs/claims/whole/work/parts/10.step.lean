/-! Steps as rewriting rules: what a point of a method's run comes to. -/
theorem pm_enter {mt : List pmE} {mi : Nat} {e : pmE} (he : mt[mi]? = some e) {d mc ms : Nat} {args : List Value} {h : pmH} {Post : pmQ} (hl : args.length ≤ e.2.2.1) (hc : ∀ v ∈ args, v.category = 1) (k : pm_W pm_ro0 (pm_Met mt d) (h.length + mc) ms Post e.2.2.2.1 e.2.2.2.2.2 0 (args.map some ++ List.replicate (e.2.2.1 - args.length) none) [] h 0) : pm_Met mt (d + 1) mi mc ms args h Post := by
  unfold pm_Met
  rw [he]
  exact ⟨hl, hc, k⟩
theorem pm_W_eq {ro : pmRO} {C : pmCall} {Nx Sx : Nat} {Q : pmQ} {rt : Option FieldType} {L : List (Option pmI)} (hC : pm_mn C C) {pc : Nat} {lv : pmL} {st : List Value} {h : pmH} {us : Nat} : pm_W ro C Nx Sx Q rt L pc lv st h us ↔ pm_S ro C Nx Sx Q rt L (pm_W ro C Nx Sx Q rt L) (pm_W ro C Nx Sx Q rt L) pc lv st h us :=
  ⟨fun q => q (pm_S ro C Nx Sx Q rt L (pm_W ro C Nx Sx Q rt L) (pm_W ro C Nx Sx Q rt L)) (fun _ _ _ _ _ z => pm_S_m hC (fun _ _ => id) (fun _ _ _ _ _ => pm_W_mk hC) (fun _ _ _ _ _ => pm_W_mk hC) _ _ _ _ _ z), pm_W_mk hC⟩
theorem pW_eq {d Nx Sx : Nat} {Q : pmQ} {rt : Option FieldType} {L : List (Option pmI)} {pc : Nat} {lv : pmL} {st : List Value} {h : pmH} {us : Nat} {i : Instr} {len : Nat} {cv : Int32} {r : List Nat} (hat : pm_at L pc = some (i, len, cv, r)) : pm_W pm_ro0 (pm_Met pm_MT d) Nx Sx Q rt L pc lv st h us ↔ pm_I pm_ro0 (pm_Met pm_MT d) Nx Sx Q rt (pm_W pm_ro0 (pm_Met pm_MT d) Nx Sx Q rt L) (pm_W pm_ro0 (pm_Met pm_MT d) Nx Sx Q rt L) i len cv r pc lv st h us := by
  rw [pm_W_eq (pm_Met_mn _ _)]
  unfold pm_S
  rw [hat]
def pm_k0 (st : List Value) (k : Nat → List Value → Prop) : Prop := match st with
  | .ref a :: r => k a r
  | _ => False
def pm_k1 (st : List Value) (k : Nat → Value → List Value → Prop) : Prop := match st with
  | x :: .ref a :: r => k a x r
  | _ => False
def pm_k2 (st : List Value) (k : Nat → Value → Value → List Value → Prop) : Prop := match st with
  | y :: x :: .ref a :: r => k a x y r
  | _ => False
def pm_k3 (st : List Value) (k : Nat → Value → Value → Value → List Value → Prop) : Prop := match st with
  | z :: y :: x :: .ref a :: r => k a x y z r
  | _ => False
def pm_k5 (st : List Value) (k : Nat → Value → Value → Value → Value → Value → List Value → Prop) : Prop := match st with
  | v :: u :: z :: y :: x :: .ref a :: r => k a x y z u v r
  | _ => False
def pm_s3 (st : List Value) (k : Value → Value → Value → List Value → Prop) : Prop := match st with
  | z :: y :: x :: r => k x y z r
  | _ => False
def pm_s4 (st : List Value) (k : Value → Value → Value → Value → List Value → Prop) : Prop := match st with
  | u :: z :: y :: x :: r => k x y z u r
  | _ => False
section PIV
variable {C : pmCall} {Nx Sx mi mc ms ci pc us : Nat} {K KC : pmK} {t : List Nat} {lv : pmL} {st : List Value} {h : pmH}
theorem pm_v0 : pm_inv C Nx Sx K KC (0 :: mi :: 0 :: mc :: ms :: ci :: t) pc lv st h us ↔ pm_k0 st fun a r => pm_obj h a ci fun _ => pm_cat r ≤ 8 ∧ h.length + mc ≤ Nx ∧ us + ms ≤ Sx ∧ C mi mc ms [.ref a] h (fun v h' => KC (pc + 3) lv (v.toList ++ r) h' (us + ms)) := by
  rcases st with _ | ⟨x, st⟩
  · simp [pm_inv, pm_1a, pm_k0]
  · cases x <;> simp [pm_inv, pm_1a, pm_k0]
theorem pm_v1 : pm_inv C Nx Sx K KC (0 :: mi :: 1 :: mc :: ms :: ci :: t) pc lv st h us ↔ pm_k1 st fun a x r => pm_obj h a ci fun _ => pm_cat r ≤ 8 ∧ h.length + mc ≤ Nx ∧ us + ms ≤ Sx ∧ C mi mc ms [.ref a, x] h (fun v h' => KC (pc + 3) lv (v.toList ++ r) h' (us + ms)) := by
  rcases st with _ | ⟨x, _ | ⟨y, st⟩⟩
  · simp [pm_inv, pm_1a, pm_k1]
  · simp [pm_inv, pm_1a, pm_k1]
  · cases y <;> simp [pm_inv, pm_1a, pm_k1]
theorem pm_v2 : pm_inv C Nx Sx K KC (0 :: mi :: 2 :: mc :: ms :: ci :: t) pc lv st h us ↔ pm_k2 st fun a x y r => pm_obj h a ci fun _ => pm_cat r ≤ 8 ∧ h.length + mc ≤ Nx ∧ us + ms ≤ Sx ∧ C mi mc ms [.ref a, x, y] h (fun v h' => KC (pc + 3) lv (v.toList ++ r) h' (us + ms)) := by
  rcases st with _ | ⟨x, _ | ⟨y, _ | ⟨z, st⟩⟩⟩
  · simp [pm_inv, pm_1a, pm_k2]
  · simp [pm_inv, pm_1a, pm_k2]
  · simp [pm_inv, pm_1a, pm_k2]
  · cases z <;> simp [pm_inv, pm_1a, pm_k2]
theorem pm_v3 : pm_inv C Nx Sx K KC (0 :: mi :: 3 :: mc :: ms :: ci :: t) pc lv st h us ↔ pm_k3 st fun a x y z r => pm_obj h a ci fun _ => pm_cat r ≤ 8 ∧ h.length + mc ≤ Nx ∧ us + ms ≤ Sx ∧ C mi mc ms [.ref a, x, y, z] h (fun v h' => KC (pc + 3) lv (v.toList ++ r) h' (us + ms)) := by
  rcases st with _ | ⟨x, _ | ⟨y, _ | ⟨z, _ | ⟨u, st⟩⟩⟩⟩
  · simp [pm_inv, pm_1a, pm_k3]
  · simp [pm_inv, pm_1a, pm_k3]
  · simp [pm_inv, pm_1a, pm_k3]
  · simp [pm_inv, pm_1a, pm_k3]
  · cases u <;> simp [pm_inv, pm_1a, pm_k3]
theorem pm_n1 : pm_inv C Nx Sx K KC (1 :: mi :: 1 :: mc :: ms :: ci :: t) pc lv st h us ↔ pm_s1 st fun x r => pm_cat r ≤ 8 ∧ h.length + mc ≤ Nx ∧ us + ms ≤ Sx ∧ C mi mc ms [x] h (fun v h' => KC (pc + 3) lv (v.toList ++ r) h' (us + ms)) := by
  rcases st with _ | ⟨x, st⟩ <;> simp [pm_inv, pm_s1]
theorem pm_n2 : pm_inv C Nx Sx K KC (1 :: mi :: 2 :: mc :: ms :: ci :: t) pc lv st h us ↔ pm_s2 st fun x y r => pm_cat r ≤ 8 ∧ h.length + mc ≤ Nx ∧ us + ms ≤ Sx ∧ C mi mc ms [x, y] h (fun v h' => KC (pc + 3) lv (v.toList ++ r) h' (us + ms)) := by
  rcases st with _ | ⟨x, _ | ⟨y, st⟩⟩ <;> simp [pm_inv, pm_s2]
theorem pm_n3 : pm_inv C Nx Sx K KC (1 :: mi :: 3 :: mc :: ms :: ci :: t) pc lv st h us ↔ pm_s3 st fun x y z r => pm_cat r ≤ 8 ∧ h.length + mc ≤ Nx ∧ us + ms ≤ Sx ∧ C mi mc ms [x, y, z] h (fun v h' => KC (pc + 3) lv (v.toList ++ r) h' (us + ms)) := by
  rcases st with _ | ⟨x, _ | ⟨y, _ | ⟨z, st⟩⟩⟩ <;> simp [pm_inv, pm_s3]
theorem pm_n4 : pm_inv C Nx Sx K KC (1 :: mi :: 4 :: mc :: ms :: ci :: t) pc lv st h us ↔ pm_s4 st fun x y z u r => pm_cat r ≤ 8 ∧ h.length + mc ≤ Nx ∧ us + ms ≤ Sx ∧ C mi mc ms [x, y, z, u] h (fun v h' => KC (pc + 3) lv (v.toList ++ r) h' (us + ms)) := by
  rcases st with _ | ⟨x, _ | ⟨y, _ | ⟨z, _ | ⟨u, st⟩⟩⟩⟩ <;> simp [pm_inv, pm_s4]
theorem pm_i0 : pm_inv C Nx Sx K KC (2 :: mi :: 0 :: mc :: ms :: ci :: t) pc lv st h us ↔ pm_k0 st fun a r => pm_cat r ≤ 8 ∧ h.length + mc ≤ Nx ∧ us + ms ≤ Sx ∧ C mi mc ms [.ref a] h (fun v h' => KC (pc + 3) lv (v.toList ++ r) h' (us + ms)) := by
  rcases st with _ | ⟨x, st⟩
  · simp [pm_inv, pm_1a, pm_k0]
  · cases x <;> simp [pm_inv, pm_1a, pm_k0]
theorem pm_i1 : pm_inv C Nx Sx K KC (2 :: mi :: 1 :: mc :: ms :: ci :: t) pc lv st h us ↔ pm_k1 st fun a x r => pm_cat r ≤ 8 ∧ h.length + mc ≤ Nx ∧ us + ms ≤ Sx ∧ C mi mc ms [.ref a, x] h (fun v h' => KC (pc + 3) lv (v.toList ++ r) h' (us + ms)) := by
  rcases st with _ | ⟨x, _ | ⟨y, st⟩⟩
  · simp [pm_inv, pm_1a, pm_k1]
  · simp [pm_inv, pm_1a, pm_k1]
  · cases y <;> simp [pm_inv, pm_1a, pm_k1]
theorem pm_j0 : pm_inv C Nx Sx K KC (3 :: mi :: 0 :: mc :: ms :: ci :: t) pc lv st h us ↔ pm_k0 st fun a r => pm_cat r ≤ 8 ∧ h.length + mc ≤ Nx ∧ us + ms ≤ Sx ∧ C mi mc ms [.ref a] h (fun v h' => KC (pc + 3) lv (v.toList ++ r) h' (us + ms)) := by
  rcases st with _ | ⟨x, st⟩
  · simp [pm_inv, pm_1a, pm_k0]
  · cases x <;> simp [pm_inv, pm_1a, pm_k0]
end PIV
/-! rules for a known stack, known locals -/
theorem pm_1i_c {x : Int32} {r : List Value} {k : Int32 → List Value → Prop} : pm_1i (.int x :: r) k ↔ k x r := Iff.rfl
theorem pm_2i_c {x y : Int32} {r : List Value} {k : Int32 → Int32 → List Value → Prop} : pm_2i (.int y :: .int x :: r) k ↔ k x y r := Iff.rfl
theorem pm_1l_c {x : Int64} {r : List Value} {k : Int64 → List Value → Prop} : pm_1l (.long x :: r) k ↔ k x r := Iff.rfl
theorem pm_2l_c {x y : Int64} {r : List Value} {k : Int64 → Int64 → List Value → Prop} : pm_2l (.long y :: .long x :: r) k ↔ k x y r := Iff.rfl
theorem pm_1a_c {x : Nat} {r : List Value} {k : Nat → List Value → Prop} : pm_1a (.ref x :: r) k ↔ k x r := Iff.rfl
theorem pm_ia_c {i : Int32} {x : Nat} {r : List Value} {k : Int32 → Nat → List Value → Prop} : pm_ia (.int i :: .ref x :: r) k ↔ k i x r := Iff.rfl
theorem pm_iia_c {i j : Int32} {x : Nat} {r : List Value} {k : Int32 → Int32 → Nat → List Value → Prop} : pm_iia (.int j :: .int i :: .ref x :: r) k ↔ k j i x r := Iff.rfl
theorem pm_va_c {v : Value} {x : Nat} {r : List Value} {k : Value → Nat → List Value → Prop} : pm_va (v :: .ref x :: r) k ↔ k v x r := Iff.rfl
theorem pm_cp_c {n dp sp : Int32} {a a0 : Nat} {r : List Value} {k : Int32 → Int32 → Nat → Int32 → Nat → List Value → Prop} : pm_cp (.int n :: .int dp :: .ref a :: .int sp :: .ref a0 :: r) k ↔ k n dp a sp a0 r := Iff.rfl
theorem pm_k0_c {a : Nat} {r : List Value} {k : Nat → List Value → Prop} : pm_k0 (.ref a :: r) k ↔ k a r := Iff.rfl
theorem pm_k1_c {a : Nat} {x : Value} {r : List Value} {k : Nat → Value → List Value → Prop} : pm_k1 (x :: .ref a :: r) k ↔ k a x r := Iff.rfl
theorem pm_k2_c {a : Nat} {x y : Value} {r : List Value} {k : Nat → Value → Value → List Value → Prop} : pm_k2 (y :: x :: .ref a :: r) k ↔ k a x y r := Iff.rfl
theorem pm_k3_c {a : Nat} {x y z : Value} {r : List Value} {k : Nat → Value → Value → Value → List Value → Prop} : pm_k3 (z :: y :: x :: .ref a :: r) k ↔ k a x y z r := Iff.rfl
theorem pm_s1_c {x : Value} {r : List Value} {k : Value → List Value → Prop} : pm_s1 (x :: r) k ↔ k x r := Iff.rfl
theorem pm_s2_c {x y : Value} {r : List Value} {k : Value → Value → List Value → Prop} : pm_s2 (y :: x :: r) k ↔ k x y r := Iff.rfl
theorem pm_s3_c {x y z : Value} {r : List Value} {k : Value → Value → Value → List Value → Prop} : pm_s3 (z :: y :: x :: r) k ↔ k x y z r := Iff.rfl
theorem pm_s4_c {x y z u : Value} {r : List Value} {k : Value → Value → Value → Value → List Value → Prop} : pm_s4 (u :: z :: y :: x :: r) k ↔ k x y z u r := Iff.rfl
theorem pm_ri_c {x : Int32} {k : Int32 → Prop} : pm_ri [.int x] k ↔ k x := Iff.rfl
theorem pm_ra_c {x : Nat} {k : Nat → Prop} : pm_ra [.ref x] k ↔ k x := Iff.rfl
theorem pm_rn_c {k : Prop} : pm_rn [] k ↔ k := Iff.rfl
theorem pm_rk_i {x : Int32} : pm_rk (some .int) (.int x) ↔ True := Iff.rfl
theorem pm_rk_z {x : Int32} : pm_rk (some .boolean) (.int x) ↔ (x = 0 ∨ x = 1) := Iff.rfl
theorem pm_rk_a {n : String} {x : Nat} : pm_rk (some (.object n)) (.ref x) ↔ True := Iff.rfl
theorem pm_vk_i {x : Int32} : pm_vk 0 (.int x) ↔ True := Iff.rfl
theorem pm_vk_z {x : Int32} : pm_vk 1 (.int x) ↔ (x = 0 ∨ x = 1) := Iff.rfl
theorem pm_vk_a {x : Nat} : pm_vk 2 (.ref x) ↔ True := Iff.rfl
theorem pm_cti {x : Int32} : (Value.int x).category = 1 := rfl
theorem pm_ctr {x : Nat} : (Value.ref x).category = 1 := rfl
theorem pm_ldi_z {x : Int32} {l : pmL} {k : Int32 → Prop} : pm_ldi (some (.int x) :: l) 0 k ↔ k x := Iff.rfl
theorem pm_ldi_s {y : Option Value} {l : pmL} {n : Nat} {k : Int32 → Prop} : pm_ldi (y :: l) (n + 1) k ↔ pm_ldi l n k := by simp [pm_ldi]
theorem pm_lda_z {x : Nat} {l : pmL} {k : Nat → Prop} : pm_lda (some (.ref x) :: l) 0 k ↔ k x := Iff.rfl
theorem pm_lda_s {y : Option Value} {l : pmL} {n : Nat} {k : Nat → Prop} : pm_lda (y :: l) (n + 1) k ↔ pm_lda l n k := by simp [pm_lda]
theorem pm_cat_n : pm_cat [] = 0 := rfl
theorem pm_cat_i {x : Int32} {r : List Value} : pm_cat (.int x :: r) = pm_cat r + 1 := by simp [pm_cat, Value.category, Nat.add_comm]
theorem pm_cat_r {x : Nat} {r : List Value} : pm_cat (.ref x :: r) = pm_cat r + 1 := by simp [pm_cat, Value.category, Nat.add_comm]
theorem pm_cat_l {x : Int64} {r : List Value} : pm_cat (.long x :: r) = pm_cat r + 2 := by simp [pm_cat, Value.category, Nat.add_comm]
theorem pm_tl_n {r : List Value} : (none : Option Value).toList ++ r = r := rfl
theorem pm_tl_s {v : Value} {r : List Value} : (some v).toList ++ r = v :: r := rfl
/-! a callee's contract, used -/
abbrev PM (d mi : Nat) (args : List Value) (h : pmH) (Post : pmQ) : Prop := pm_Met pm_MT d mi 0 0 args h Post
theorem PM_len {d mi mc ms : Nat} {args : List Value} {h : pmH} {P : pmQ} (q : pm_Met pm_MT d mi mc ms args h P) : pm_Met pm_MT d mi mc ms args h (fun v h' => h'.length = h.length + mc ∧ P v h') := by
  cases d with
  | zero => exact q.elim
  | succ d =>
    unfold pm_Met at q ⊢
    split at q
    · refine ⟨q.1, q.2.1, fun P0 hP0 => q.2.2 P0 fun pc lv st h us z => hP0 _ _ _ _ _ ?_⟩
      unfold pm_S at z ⊢
      split at z
      · rename_i i len cv r _
        revert z
        cases i with
        | ireturn => exact pm_ri_m fun _ z => ⟨z.1, z.2.1, z.2.2.1, z.2.1, z.2.2.2⟩
        | areturn => exact pm_ra_m fun _ z => ⟨z.1, z.2.1, z.2.2.1, z.2.1, z.2.2.2⟩
        | return_ => exact pm_rn_m fun z => ⟨z.1, z.2.1, z.2.2.1, z.2.1, z.2.2.2⟩
        | ifCond cd off => cases cd <;> exact id
        | if_icmp cd off => cases cd <;> exact id
        | new j => unfold pm_I; dsimp only; split <;> first | exact fun z => ⟨z.1, z.2.1, z.2.2.1, z.2.1, z.2.2.2⟩ | exact id
        | _ => exact id
      · exact z
    · exact q.elim
theorem PM_use {d mi mc ms : Nat} {args : List Value} {h : pmH} {P Q : pmQ} (q : pm_Met pm_MT d mi mc ms args h P) (k : ∀ v h', h'.length = h.length + mc → P v h' → Q v h') : pm_Met pm_MT d mi mc ms args h Q := pm_Met_mn _ _ _ _ _ _ _ _ _ (fun v h' z => k v h' z.1 z.2) (PM_len q)
