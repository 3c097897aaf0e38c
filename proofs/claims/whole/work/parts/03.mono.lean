/-! The pure machine is monotone; a run by steps. -/
theorem pm_1i_m {st : List Value} {k k' : Int32 → List Value → Prop} (h : ∀ x r, k x r → k' x r) : pm_1i st k → pm_1i st k' := by
  unfold pm_1i; split
  · exact h _ _
  · exact id
theorem pm_2i_m {st : List Value} {k k' : Int32 → Int32 → List Value → Prop} (h : ∀ x y r, k x y r → k' x y r) : pm_2i st k → pm_2i st k' := by
  unfold pm_2i; split
  · exact h _ _ _
  · exact id
theorem pm_1l_m {st : List Value} {k k' : Int64 → List Value → Prop} (h : ∀ x r, k x r → k' x r) : pm_1l st k → pm_1l st k' := by
  unfold pm_1l; split
  · exact h _ _
  · exact id
theorem pm_2l_m {st : List Value} {k k' : Int64 → Int64 → List Value → Prop} (h : ∀ x y r, k x y r → k' x y r) : pm_2l st k → pm_2l st k' := by
  unfold pm_2l; split
  · exact h _ _ _
  · exact id
theorem pm_1a_m {st : List Value} {k k' : Nat → List Value → Prop} (h : ∀ x r, k x r → k' x r) : pm_1a st k → pm_1a st k' := by
  unfold pm_1a; split
  · exact h _ _
  · exact id
theorem pm_ia_m {st : List Value} {k k' : Int32 → Nat → List Value → Prop} (h : ∀ x y r, k x y r → k' x y r) : pm_ia st k → pm_ia st k' := by
  unfold pm_ia; split
  · exact h _ _ _
  · exact id
theorem pm_iia_m {st : List Value} {k k' : Int32 → Int32 → Nat → List Value → Prop} (h : ∀ x y z r, k x y z r → k' x y z r) : pm_iia st k → pm_iia st k' := by
  unfold pm_iia; split
  · exact h _ _ _ _
  · exact id
theorem pm_lia_m {st : List Value} {k k' : Int64 → Int32 → Nat → List Value → Prop} (h : ∀ x y z r, k x y z r → k' x y z r) : pm_lia st k → pm_lia st k' := by
  unfold pm_lia; split
  · exact h _ _ _ _
  · exact id
theorem pm_va_m {st : List Value} {k k' : Value → Nat → List Value → Prop} (h : ∀ x y r, k x y r → k' x y r) : pm_va st k → pm_va st k' := by
  unfold pm_va; split
  · exact h _ _ _
  · exact id
theorem pm_s1_m {st : List Value} {k k' : Value → List Value → Prop} (h : ∀ x r, k x r → k' x r) : pm_s1 st k → pm_s1 st k' := by
  unfold pm_s1; split
  · exact h _ _
  · exact id
theorem pm_s2_m {st : List Value} {k k' : Value → Value → List Value → Prop} (h : ∀ x y r, k x y r → k' x y r) : pm_s2 st k → pm_s2 st k' := by
  unfold pm_s2; split
  · exact h _ _ _
  · exact id
theorem pm_ri_m {st : List Value} {k k' : Int32 → Prop} (h : ∀ x, k x → k' x) : pm_ri st k → pm_ri st k' := by
  unfold pm_ri; split
  · exact h _
  · exact id
theorem pm_ra_m {st : List Value} {k k' : Nat → Prop} (h : ∀ x, k x → k' x) : pm_ra st k → pm_ra st k' := by
  unfold pm_ra; split
  · exact h _
  · exact id
theorem pm_rn_m {st : List Value} {k k' : Prop} (h : k → k') : pm_rn st k → pm_rn st k' := by
  unfold pm_rn; split
  · exact h
  · exact id
theorem pm_ird_m {ro : pmRO} {h : pmH} {a : Nat} {k k' : Nat → (Nat → Int32) → Prop} (m : ∀ n f, k n f → k' n f) : pm_ird ro h a k → pm_ird ro h a k' := by
  unfold pm_ird; split
  · exact m _ _
  · exact id
  · split
    · exact m _ _
    · exact id
theorem pm_aln_m {ro : pmRO} {h : pmH} {a : Nat} {k k' : Nat → Prop} (m : ∀ n, k n → k' n) : pm_aln ro h a k → pm_aln ro h a k' := by
  unfold pm_aln; split
  · exact And.imp id (m _)
  · exact id
  · split
    · exact m _
    · exact id
theorem pm_cp_m {st : List Value} {k k' : Int32 → Int32 → Nat → Int32 → Nat → List Value → Prop} (h : ∀ x y z u v r, k x y z u v r → k' x y z u v r) : pm_cp st k → pm_cp st k' := by
  unfold pm_cp; split
  · exact h _ _ _ _ _ _
  · exact id
theorem pm_ldi_m {lv : pmL} {i : Nat} {k k' : Int32 → Prop} (h : ∀ x, k x → k' x) : pm_ldi lv i k → pm_ldi lv i k' := by
  unfold pm_ldi; split
  · exact h _
  · exact id
theorem pm_lda_m {lv : pmL} {i : Nat} {k k' : Nat → Prop} (h : ∀ x, k x → k' x) : pm_lda lv i k → pm_lda lv i k' := by
  unfold pm_lda; split
  · exact h _
  · exact id
theorem pm_obj_m {h : pmH} {a ci : Nat} {k k' : List Value → Prop} (m : ∀ x, k x → k' x) : pm_obj h a ci k → pm_obj h a ci k' := by
  unfold pm_obj; split
  · exact And.imp id (m _)
  · exact id
theorem pm_arr_m {h : pmH} {a : Nat} {k k' : Nat → Nat → (Nat → Int32) → Prop} (m : ∀ t n f, k t n f → k' t n f) : pm_arr h a k → pm_arr h a k' := by
  unfold pm_arr; split
  · exact m _ _ _
  · exact id
theorem pm_arl_m {h : pmH} {a : Nat} {k k' : Nat → (Nat → Int64) → Prop} (m : ∀ n f, k n f → k' n f) : pm_arl h a k → pm_arl h a k' := by
  unfold pm_arl; split
  · exact And.imp id (m _ _)
  · exact id
theorem pm_opt_m {α : Type} {o : Option α} {k k' : α → Prop} (m : ∀ x, k x → k' x) : pm_opt o k → pm_opt o k' := by
  unfold pm_opt; split
  · exact m _
  · exact id
theorem pm_sw_m {x : Int32} {k k' : Nat → Prop} {d : Nat} (m : ∀ t, k t → k' t) : ∀ (ts : List Nat) (c : Int32), pm_sw x k d c ts → pm_sw x k' d c ts
  | [], _ => m d
  | t :: ts, c => fun h => ⟨fun q => m t (h.1 q), fun q => pm_sw_m m ts _ (h.2 q)⟩
theorem pm_imp {a b b' : Prop} (h : b → b') : (a → b) → (a → b') := fun f q => h (f q)
/-- a callee's post may be weakened -/
def pm_mn (C C' : pmCall) : Prop := ∀ mi mc ms args h (P P' : pmQ), (∀ v h', P v h' → P' v h') → C mi mc ms args h P → C' mi mc ms args h P'
set_option maxHeartbeats 4000000 in
theorem pm_inv_m {C C' : pmCall} {Nx Sx : Nat} {K K' KC KC' : pmK} {r : List Nat} {pc : Nat} {lv : pmL} {st : List Value} {h : pmH} {us : Nat} (hC : pm_mn C C') (hK : ∀ pc lv st h us, K pc lv st h us → K' pc lv st h us) (hKC : ∀ pc lv st h us, KC pc lv st h us → KC' pc lv st h us) : pm_inv C Nx Sx K KC r pc lv st h us → pm_inv C' Nx Sx K' KC' r pc lv st h us := by
  unfold pm_inv
  split
  · exact And.imp id (pm_1a_m fun _ _ => pm_obj_m fun _ => And.imp id (And.imp id (And.imp id (hC _ _ _ _ _ _ _ fun _ _ => hKC _ _ _ _ _))))
  · exact And.imp id (And.imp id (And.imp id (And.imp id (hC _ _ _ _ _ _ _ fun _ _ => hKC _ _ _ _ _))))
  · exact And.imp id (pm_1a_m fun _ _ => And.imp id (And.imp id (And.imp id (hC _ _ _ _ _ _ _ fun _ _ => hKC _ _ _ _ _))))
  · exact And.imp id (pm_1a_m fun _ _ => And.imp id (And.imp id (And.imp id (hC _ _ _ _ _ _ _ fun _ _ => hKC _ _ _ _ _))))
  · exact pm_1a_m fun _ _ => And.imp id (hK _ _ _ _ _)
  · exact pm_2i_m fun _ _ _ => And.imp id (hK _ _ _ _ _)
  · exact pm_2i_m fun _ _ _ => And.imp id (hK _ _ _ _ _)
  · exact pm_cp_m fun _ _ _ _ _ _ => pm_arr_m fun _ _ _ => pm_arr_m fun _ _ _ => And.imp id (And.imp id (And.imp id (And.imp id (And.imp id (And.imp id (And.imp id (And.imp id (hK _ _ _ _ _))))))))
  · exact pm_1a_m fun _ _ => pm_opt_m fun _ => And.imp id (hKC _ _ _ _ _)
  · exact pm_ia_m fun _ _ _ => pm_opt_m fun _ => And.imp id (And.imp id (hKC _ _ _ _ _))
  · exact id
set_option maxHeartbeats 8000000 in
theorem pm_I_m {ro : pmRO} {C C' : pmCall} {Nx Sx : Nat} {Q Q' : pmQ} {rt : Option FieldType} {K K' KC KC' : pmK} (hC : pm_mn C C') (hQ : ∀ v h, Q v h → Q' v h) (hK : ∀ pc lv st h us, K pc lv st h us → K' pc lv st h us) (hKC : ∀ pc lv st h us, KC pc lv st h us → KC' pc lv st h us) (i : Instr) (len : Nat) (cv : Int32) (r : List Nat) (pc : Nat) (lv : pmL) (st : List Value) (h : pmH) (us : Nat) : pm_I ro C Nx Sx Q rt K KC i len cv r pc lv st h us → pm_I ro C' Nx Sx Q' rt K' KC' i len cv r pc lv st h us := by
  cases i with
  | ifCond c off => cases c <;> exact pm_1i_m fun _ _ => And.imp (pm_imp (hK _ _ _ _ _)) (pm_imp (hK _ _ _ _ _))
  | if_icmp c off => cases c <;> exact pm_2i_m fun _ _ _ => And.imp (pm_imp (hK _ _ _ _ _)) (pm_imp (hK _ _ _ _ _))
  | ldc j => unfold pm_I; dsimp only; split <;> first | exact hK _ _ _ _ _ | exact id
  | dup => exact pm_s1_m fun _ _ => And.imp id (hK _ _ _ _ _)
  | dup2 => exact pm_s2_m fun _ _ _ => And.imp id (And.imp id (hK _ _ _ _ _))
  | pop => exact pm_s1_m fun _ _ => And.imp id (hK _ _ _ _ _)
  | tableswitch d lo hi offs => unfold pm_I; dsimp only; split <;> first | exact pm_1i_m fun _ _ => pm_sw_m (fun _ => hK _ _ _ _ _) _ _ | exact id
  | getfield j => unfold pm_I; dsimp only; split <;> first | exact pm_1a_m fun _ _ => pm_obj_m fun _ => pm_opt_m fun _ => hK _ _ _ _ _ | exact id
  | putfield j => unfold pm_I; dsimp only; split <;> first | exact pm_va_m fun _ _ _ => And.imp id (pm_obj_m fun _ => And.imp id (hK _ _ _ _ _)) | exact id
  | arraylength => exact pm_1a_m fun _ _ => pm_aln_m fun _ => hK _ _ _ _ _
  | iaload => exact pm_ia_m fun _ _ _ => pm_ird_m fun _ _ => And.imp id (hK _ _ _ _ _)
  | new j => unfold pm_I; dsimp only; split <;> first | exact And.imp id (And.imp id (And.imp id (hQ _ _))) | exact And.imp id (And.imp id (And.imp id (hK _ _ _ _ _))) | exact id
  | newarray j => unfold pm_I; dsimp only; split <;> first | exact pm_1i_m fun _ _ => And.imp id (And.imp id (And.imp id (And.imp id (And.imp id (hK _ _ _ _ _))))) | exact id
  | invokevirtual j => exact pm_inv_m hC hK hKC
  | invokestatic j => exact pm_inv_m hC hK hKC
  | invokespecial j => exact pm_inv_m hC hK hKC
  | ireturn => exact pm_ri_m fun _ => And.imp id (And.imp id (And.imp id (hQ _ _)))
  | areturn => exact pm_ra_m fun _ => And.imp id (And.imp id (And.imp id (hQ _ _)))
  | return_ => exact pm_rn_m (And.imp id (And.imp id (And.imp id (hQ _ _))))
  | baload => exact pm_ia_m fun _ _ _ => pm_arr_m fun _ _ _ => And.imp id (And.imp id (hK _ _ _ _ _))
  | laload => exact pm_ia_m fun _ _ _ => pm_arl_m fun _ _ => And.imp id (hK _ _ _ _ _)
  | iastore => exact pm_iia_m fun _ _ _ _ => pm_arr_m fun _ _ _ => And.imp id (And.imp id (hK _ _ _ _ _))
  | bastore => exact pm_iia_m fun _ _ _ _ => pm_arr_m fun _ _ _ => And.imp id (And.imp id (hK _ _ _ _ _))
  | lastore => exact pm_lia_m fun _ _ _ _ => pm_arl_m fun _ _ => And.imp id (hK _ _ _ _ _)
  | idiv => exact pm_2i_m fun _ _ _ => And.imp id (hK _ _ _ _ _)
  | irem => exact pm_2i_m fun _ _ _ => And.imp id (hK _ _ _ _ _)
  | iconst n => exact hK _ _ _ _ _
  | bipush n => exact hK _ _ _ _ _
  | sipush n => exact hK _ _ _ _ _
  | lconst n => exact hK _ _ _ _ _
  | ldc_w n => exact hK _ _ _ _ _
  | ldc2_w n => exact hK _ _ _ _ _
  | getstatic n => exact hK _ _ _ _ _
  | goto n => exact hK _ _ _ _ _
  | iload_n n => exact pm_ldi_m fun _ => hK _ _ _ _ _
  | iload n => exact pm_ldi_m fun _ => hK _ _ _ _ _
  | iinc n z => exact pm_ldi_m fun _ => hK _ _ _ _ _
  | aload_n n => exact pm_lda_m fun _ => hK _ _ _ _ _
  | aload n => exact pm_lda_m fun _ => hK _ _ _ _ _
  | istore_n n => exact pm_1i_m fun _ _ => And.imp id (hK _ _ _ _ _)
  | istore n => exact pm_1i_m fun _ _ => And.imp id (hK _ _ _ _ _)
  | ineg => exact pm_1i_m fun _ _ => hK _ _ _ _ _
  | i2b => exact pm_1i_m fun _ _ => hK _ _ _ _ _
  | i2l => exact pm_1i_m fun _ _ => hK _ _ _ _ _
  | astore_n n => exact pm_1a_m fun _ _ => And.imp id (hK _ _ _ _ _)
  | astore n => exact pm_1a_m fun _ _ => And.imp id (hK _ _ _ _ _)
  | iadd => exact pm_2i_m fun _ _ _ => hK _ _ _ _ _
  | isub => exact pm_2i_m fun _ _ _ => hK _ _ _ _ _
  | imul => exact pm_2i_m fun _ _ _ => hK _ _ _ _ _
  | iand => exact pm_2i_m fun _ _ _ => hK _ _ _ _ _
  | ior => exact pm_2i_m fun _ _ _ => hK _ _ _ _ _
  | ixor => exact pm_2i_m fun _ _ _ => hK _ _ _ _ _
  | ishr => exact pm_2i_m fun _ _ _ => hK _ _ _ _ _
  | iushr => exact pm_2i_m fun _ _ _ => hK _ _ _ _ _
  | ladd => exact pm_2l_m fun _ _ _ => hK _ _ _ _ _
  | lmul => exact pm_2l_m fun _ _ _ => hK _ _ _ _ _
  | lcmp => exact pm_2l_m fun _ _ _ => hK _ _ _ _ _
  | _ => exact id
theorem pm_S_m {ro : pmRO} {C C' : pmCall} {Nx Sx : Nat} {Q Q' : pmQ} {rt : Option FieldType} {L : List (Option pmI)} {K K' KC KC' : pmK} (hC : pm_mn C C') (hQ : ∀ v h, Q v h → Q' v h) (hK : ∀ pc lv st h us, K pc lv st h us → K' pc lv st h us) (hKC : ∀ pc lv st h us, KC pc lv st h us → KC' pc lv st h us) (pc : Nat) (lv : pmL) (st : List Value) (h : pmH) (us : Nat) : pm_S ro C Nx Sx Q rt L K KC pc lv st h us → pm_S ro C' Nx Sx Q' rt L K' KC' pc lv st h us := by
  unfold pm_S
  split
  · exact pm_I_m hC hQ hK hKC _ _ _ _ _ _ _ _ _
  · exact id
theorem pm_W_mk {ro : pmRO} {C : pmCall} {Nx Sx : Nat} {Q : pmQ} {rt : Option FieldType} {L : List (Option pmI)} (hC : pm_mn C C) {pc : Nat} {lv : pmL} {st : List Value} {h : pmH} {us : Nat} (k : pm_S ro C Nx Sx Q rt L (pm_W ro C Nx Sx Q rt L) (pm_W ro C Nx Sx Q rt L) pc lv st h us) : pm_W ro C Nx Sx Q rt L pc lv st h us :=
  fun P hP => hP _ _ _ _ _ (pm_S_m hC (fun _ _ => id) (fun _ _ _ _ _ q => q P hP) (fun _ _ _ _ _ q => q P hP) _ _ _ _ _ k)
theorem pm_W_m {ro : pmRO} {C C' : pmCall} {Nx Sx : Nat} {Q Q' : pmQ} {rt : Option FieldType} {L : List (Option pmI)} (hC : pm_mn C C') (hQ : ∀ v h, Q v h → Q' v h) {pc : Nat} {lv : pmL} {st : List Value} {h : pmH} {us : Nat} (k : pm_W ro C Nx Sx Q rt L pc lv st h us) : pm_W ro C' Nx Sx Q' rt L pc lv st h us :=
  fun P hP => k P (fun _ _ _ _ _ q => hP _ _ _ _ _ (pm_S_m hC hQ (fun _ _ _ _ _ => id) (fun _ _ _ _ _ => id) _ _ _ _ _ q))
theorem pm_Met_mn (mt : List pmE) : ∀ d, pm_mn (pm_Met mt d) (pm_Met mt d)
  | 0 => fun _ _ _ _ _ _ _ _ q => q.elim
  | d + 1 => fun mi mc ms args h P P' hP q => by
    unfold pm_Met at q ⊢
    split at q
    · exact ⟨q.1, q.2.1, pm_W_m (pm_Met_mn mt d) hP q.2.2⟩
    · exact q
theorem pm_Met_up (mt : List pmE) : ∀ d, pm_mn (pm_Met mt d) (pm_Met mt (d + 1))
  | 0 => fun _ _ _ _ _ _ _ _ q => q.elim
  | d + 1 => fun mi mc ms args h P P' hP q => by
    unfold pm_Met at q ⊢
    split at q
    · exact ⟨q.1, q.2.1, pm_W_m (pm_Met_up mt d) hP q.2.2⟩
    · exact q
theorem pm_Met_le (mt : List pmE) {d d' : Nat} (h : d ≤ d') : pm_mn (pm_Met mt d) (pm_Met mt d') := by
  induction h with
  | refl => exact pm_Met_mn mt d
  | step _ ih => exact fun mi mc ms args h P P' hP q => pm_Met_up mt _ _ _ _ _ _ P' P' (fun _ _ => id) (ih mi mc ms args h P P' hP q)
/-- steps in bulk, by rewriting: n steps at most, none from a stop -/
def pm_R (ro : pmRO) (C : pmCall) (Nx Sx : Nat) (Q : pmQ) (rt : Option FieldType) (L : List (Option pmI)) (stops : List Nat) : Nat → pmK
  | 0 => pm_W ro C Nx Sx Q rt L
  | n + 1 => fun pc lv st h us => if pc ∈ stops then pm_W ro C Nx Sx Q rt L pc lv st h us else pm_S ro C Nx Sx Q rt L (pm_R ro C Nx Sx Q rt L stops n) (pm_W ro C Nx Sx Q rt L) pc lv st h us
theorem pm_R_W {ro : pmRO} {C : pmCall} {Nx Sx : Nat} {Q : pmQ} {rt : Option FieldType} {L : List (Option pmI)} (hC : pm_mn C C) (stops : List Nat) : ∀ (n : Nat) (pc : Nat) (lv : pmL) (st : List Value) (h : pmH) (us : Nat), pm_R ro C Nx Sx Q rt L stops n pc lv st h us → pm_W ro C Nx Sx Q rt L pc lv st h us
  | 0, _, _, _, _, _ => id
  | n + 1, pc, lv, st, h, us => fun q => by
    unfold pm_R at q
    split at q
    · exact q
    · exact pm_W_mk hC (pm_S_m hC (fun _ _ => id) (pm_R_W hC stops n) (fun _ _ _ _ _ => id) _ _ _ _ _ q)
/-- from a stop itself -/
theorem pm_R_S {ro : pmRO} {C : pmCall} {Nx Sx : Nat} {Q : pmQ} {rt : Option FieldType} {L : List (Option pmI)} (hC : pm_mn C C) (stops : List Nat) (n : Nat) {pc : Nat} {lv : pmL} {st : List Value} {h : pmH} {us : Nat} (q : pm_S ro C Nx Sx Q rt L (pm_R ro C Nx Sx Q rt L stops n) (pm_W ro C Nx Sx Q rt L) pc lv st h us) : pm_W ro C Nx Sx Q rt L pc lv st h us :=
  pm_W_mk hC (pm_S_m hC (fun _ _ => id) (pm_R_W hC stops n) (fun _ _ _ _ _ => id) _ _ _ _ _ q)
