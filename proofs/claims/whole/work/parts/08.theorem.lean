/-! SOUNDNESS, five: the closure and the theorem. -/
section PMG
variable {p : Program} {l : Launch} {e : Env} {R : Room} {s : State} {m : MethodId} {args : Array Value} {below : List Frame} {meth : Method} {c : Code} {Qf : State → Prop}
variable {D : va_G} {ct : Nat → ClassId} {b : Nat} {g adV : Nat → Nat} {nL N0 xo : Nat} {cc : ByteArray} {own nm : String} {ex : Bool} {Nx Sx d : Nat}
set_option maxHeartbeats 16000000 in
set_option maxRecDepth 20000 in
theorem pm_close {th : Bool} (I : pm_In p R s m args meth c D ct b g adV nL N0 xo cc own nm ex Nx Sx d) (hex : ex = true ∨ Nx ≤ N0) {mt : List pmE} (hmt : ∀ e ∈ mt, pm_eG false mt e) {C : pmCall} (hC : pm_Cs l mt D ct b g adV d C) (hStr : pm_Str l D ct b g adV) {ro : pmRO} (hro : ∀ a n f, ro a = some (n, f) → va_T .int (g a) n (fun i => .int (f i)) (fun q => b ≤ q) s s.heap) {Q : pmQ} {rt : Option FieldType} (hRet : pm_Ret p l e R s m args below meth c Qf D ct b g N0 xo cc Nx Sx Q rt) {L : List (Option pmI)} (hL : ∀ (pc : Nat) (q : pmI), L[pc]? = some (some q) → decode cc pc = .ok (q.1, q.2.1) ∧ pm_ck th mt own nm pc q = true) (hThr : th = true → pm_Thr p l e R s m args below meth c Qf D ct b g nL N0 xo L Nx Sx Q) (pc : Nat) (lv : pmL) (st : List Value) (h : pmH) (us : Nat) (hS : pm_S ro C Nx Sx Q rt L (pm_Sem p l e R s m args below meth c Qf D ct b g nL N0 xo) (pm_Sem p l e R s m args below meth c Qf D ct b g nL N0 xo) pc lv st h us) : pm_Sem p l e R s m args below meth c Qf D ct b g nL N0 xo pc lv st h us := by
  have I2 := I
  obtain ⟨hx, hb, hml, hown, hts, hE, hnm, hg, hsz, hNx, hSx, hf, hlo⟩ := I
  unfold pm_S at hS
  split at hS
  case h_2 => exact hS.elim
  rename_i i len cv r hat
  have hq : L[pc]? = some (some (i, len, cv, r)) := by
    unfold pm_at at hat
    split at hat
    · rename_i q hq
      rw [hq, hat]
    · cases hat
  obtain ⟨hd, hck⟩ := hL pc _ hq
  dsimp only at hd
  intro H locs ls hR hSS hLs hN
  have bnd : h.length + xo ≤ N0 + R.cells ∧ us ≤ R.slots := ⟨hN.2.1, hN.2.2⟩
  revert hS
  cases i with
  | iconst n =>
    intro hS
    obtain ⟨rfl, rfl⟩ : len = 1 ∧ Int32.ofInt n = cv := by simpa [pm_ck] using hck
    exact lv_iconst hx hb hd rfl (hS H locs ls hR hSS hLs hN)
  | bipush n =>
    intro hS
    obtain ⟨rfl, rfl⟩ : len = 2 ∧ (Int8.ofInt n).toInt32 = cv := by simpa [pm_ck] using hck
    exact lv_bipush hx hb hd rfl (hS H locs ls hR hSS hLs hN)
  | sipush n =>
    intro hS
    obtain ⟨rfl, rfl⟩ : len = 3 ∧ (Int16.ofInt n).toInt32 = cv := by simpa [pm_ck] using hck
    exact lv_sipush hx hb hd rfl (hS H locs ls hR hSS hLs hN)
  | lconst n =>
    intro hS
    obtain rfl : len = 1 := by simpa [pm_ck] using hck
    exact lv_lconst hx hb hd rfl (hS H locs ls hR hSS hLs hN)
  | ldc j =>
    intro hS
    unfold pm_ck at hck
    dsimp only at hck
    rw [Bool.and_eq_true, decide_eq_true_eq] at hck
    obtain ⟨rfl, hck⟩ := hck
    split at hck
    · exact lv_ldc hx hb hown (hts _ (pm_w_in hck)) hd (hS H locs ls hR hSS hLs hN)
    · rename_i k t
      split at hck
      · rename_i q hq2
        rw [Bool.and_eq_true, decide_eq_true_eq, decide_eq_true_eq] at hck
        have hv := hE.2.2.2.1.1 k q hq2
        rw [hck.1, hck.2] at hv
        exact va_ldcS hx hb hown hv hd (hS H locs ls hR hSS hLs hN)
      · cases hck
    · cases hck
  | ldc_w j =>
    intro hS
    unfold pm_ck at hck
    dsimp only at hck
    rw [Bool.and_eq_true, decide_eq_true_eq] at hck
    obtain ⟨rfl, hck⟩ := hck
    split at hck
    · exact lv_ldcw hx hb hown (hts _ (pm_w_in hck)) hd (hS H locs ls hR hSS hLs hN)
    · cases hck
  | ldc2_w j =>
    intro hS
    unfold pm_ck at hck
    dsimp only at hck
    rw [Bool.and_eq_true, decide_eq_true_eq] at hck
    obtain ⟨rfl, hck⟩ := hck
    split at hck
    · exact lv_ldc2 hx hb hown (hts _ (pm_w_in hck)) hd (hS H locs ls hR hSS hLs hN)
    · cases hck
  | iload_n n =>
    intro hS
    obtain rfl : len = 1 := by simpa [pm_ck] using hck
    obtain ⟨x, hl, hS⟩ := pm_ldi_of hS
    exact lv_iload_n hx hb hd rfl (pm_lvl hLs hl) (hS H locs ls hR hSS hLs hN)
  | iload n =>
    intro hS
    obtain rfl : len = 2 := by simpa [pm_ck] using hck
    obtain ⟨x, hl, hS⟩ := pm_ldi_of hS
    exact lv_iload hx hb hd (pm_lvl hLs hl) (hS H locs ls hR hSS hLs hN)
  | aload_n n =>
    intro hS
    obtain rfl : len = 1 := by simpa [pm_ck] using hck
    obtain ⟨x, hl, hS⟩ := pm_lda_of hS
    exact lv_aload_n hx hb hd rfl (pm_lvl hLs hl) (hS H locs ls hR hSS hLs hN)
  | aload n =>
    intro hS
    obtain rfl : len = 2 := by simpa [pm_ck] using hck
    obtain ⟨x, hl, hS⟩ := pm_lda_of hS
    exact lv_aload hx hb hd (pm_lvl hLs hl) (hS H locs ls hR hSS hLs hN)
  | istore_n n =>
    intro hS
    obtain rfl : len = 1 := by simpa [pm_ck] using hck
    obtain ⟨x, rest, rfl, hi, hS⟩ := pm_1i_of hS
    rw [hLs.1] at hi
    exact lv_istore_n hx hb hd rfl (pm_ls_has hLs) hi rfl (fun ls' h' => hS H locs ls' hR hSS (pm_ls_set (x := .int x) hLs hi rfl h') hN)
  | istore n =>
    intro hS
    obtain rfl : len = 2 := by simpa [pm_ck] using hck
    obtain ⟨x, rest, rfl, hi, hS⟩ := pm_1i_of hS
    rw [hLs.1] at hi
    exact lv_istore hx hb hd (pm_ls_has hLs) hi rfl (fun ls' h' => hS H locs ls' hR hSS (pm_ls_set (x := .int x) hLs hi rfl h') hN)
  | astore_n n =>
    intro hS
    obtain rfl : len = 1 := by simpa [pm_ck] using hck
    obtain ⟨x, rest, rfl, hi, hS⟩ := pm_1a_of hS
    rw [hLs.1] at hi
    exact lv_astore_n hx hb hd rfl (pm_ls_has hLs) hi rfl (fun ls' h' => hS H locs ls' hR hSS (pm_ls_set (x := .ref x) hLs hi rfl h') hN)
  | astore n =>
    intro hS
    obtain rfl : len = 2 := by simpa [pm_ck] using hck
    obtain ⟨x, rest, rfl, hi, hS⟩ := pm_1a_of hS
    rw [hLs.1] at hi
    exact lv_astore hx hb hd (pm_ls_has hLs) hi rfl (fun ls' h' => hS H locs ls' hR hSS (pm_ls_set (x := .ref x) hLs hi rfl h') hN)
  | iinc n z =>
    intro hS
    obtain ⟨rfl, rfl⟩ : len = 3 ∧ Int32.ofInt z = cv := by simpa [pm_ck] using hck
    obtain ⟨x, hl, hS⟩ := pm_ldi_of hS
    have hi : n < nL := by rw [← hLs.1]; exact (List.getElem?_eq_some_iff.mp hl).1
    obtain ⟨k, hk⟩ := List.getElem?_of_mem (pm_pl_in.mpr ⟨_, hl, rfl⟩ : (n, pm_mv g (.int x)) ∈ pm_pl g lv)
    exact lv_iinc hx hb hd (pm_ls_has hLs) hk rfl hi rfl (fun ls' h' => hS H locs ls' hR hSS (pm_ls_set (x := .int (x + Int32.ofInt z)) hLs hi rfl h') hN)
  | iadd =>
    intro hS
    obtain rfl : len = 1 := by simpa [pm_ck] using hck
    obtain ⟨x, y, rest, rfl, hS⟩ := pm_2i_of hS
    exact lv_iadd hx hb hd (hS H locs ls hR hSS hLs hN)
  | isub =>
    intro hS
    obtain rfl : len = 1 := by simpa [pm_ck] using hck
    obtain ⟨x, y, rest, rfl, hS⟩ := pm_2i_of hS
    exact lv_isub hx hb hd (hS H locs ls hR hSS hLs hN)
  | imul =>
    intro hS
    obtain rfl : len = 1 := by simpa [pm_ck] using hck
    obtain ⟨x, y, rest, rfl, hS⟩ := pm_2i_of hS
    exact lv_imul hx hb hd (hS H locs ls hR hSS hLs hN)
  | iand =>
    intro hS
    obtain rfl : len = 1 := by simpa [pm_ck] using hck
    obtain ⟨x, y, rest, rfl, hS⟩ := pm_2i_of hS
    exact lv_iand hx hb hd (hS H locs ls hR hSS hLs hN)
  | ior =>
    intro hS
    obtain rfl : len = 1 := by simpa [pm_ck] using hck
    obtain ⟨x, y, rest, rfl, hS⟩ := pm_2i_of hS
    exact lv_ior hx hb hd (hS H locs ls hR hSS hLs hN)
  | ixor =>
    intro hS
    obtain rfl : len = 1 := by simpa [pm_ck] using hck
    obtain ⟨x, y, rest, rfl, hS⟩ := pm_2i_of hS
    exact lv_ixor hx hb hd (hS H locs ls hR hSS hLs hN)
  | idiv =>
    intro hS
    obtain rfl : len = 1 := by simpa [pm_ck] using hck
    obtain ⟨x, y, rest, rfl, hne, hS⟩ := pm_2i_of hS
    exact lv_idiv hx hb hd hne (hS H locs ls hR hSS hLs hN)
  | irem =>
    intro hS
    obtain rfl : len = 1 := by simpa [pm_ck] using hck
    obtain ⟨x, y, rest, rfl, hne, hS⟩ := pm_2i_of hS
    exact lv_irem hx hb hd hne (hS H locs ls hR hSS hLs hN)
  | ishr =>
    intro hS
    obtain rfl : len = 1 := by simpa [pm_ck] using hck
    obtain ⟨x, y, rest, rfl, hS⟩ := pm_2i_of hS
    exact lv_ishr hx hb hd (hS H locs ls hR hSS hLs hN)
  | iushr =>
    intro hS
    obtain rfl : len = 1 := by simpa [pm_ck] using hck
    obtain ⟨x, y, rest, rfl, hS⟩ := pm_2i_of hS
    exact lv_iushr hx hb hd rfl (hS H locs ls hR hSS hLs hN)
  | ineg =>
    intro hS
    obtain rfl : len = 1 := by simpa [pm_ck] using hck
    obtain ⟨x, rest, rfl, hS⟩ := pm_1i_of hS
    exact lv_ineg hx hb hd (hS H locs ls hR hSS hLs hN)
  | i2b =>
    intro hS
    obtain rfl : len = 1 := by simpa [pm_ck] using hck
    obtain ⟨x, rest, rfl, hS⟩ := pm_1i_of hS
    exact lv_i2b hx hb hd rfl (hS H locs ls hR hSS hLs hN)
  | i2l =>
    intro hS
    obtain rfl : len = 1 := by simpa [pm_ck] using hck
    obtain ⟨x, rest, rfl, hS⟩ := pm_1i_of hS
    exact lv_i2l hx hb hd rfl (hS H locs ls hR hSS hLs hN)
  | ladd =>
    intro hS
    obtain rfl : len = 1 := by simpa [pm_ck] using hck
    obtain ⟨x, y, rest, rfl, hS⟩ := pm_2l_of hS
    exact lv_ladd hx hb hd (hS H locs ls hR hSS hLs hN)
  | lmul =>
    intro hS
    obtain rfl : len = 1 := by simpa [pm_ck] using hck
    obtain ⟨x, y, rest, rfl, hS⟩ := pm_2l_of hS
    exact lv_lmul hx hb hd (hS H locs ls hR hSS hLs hN)
  | lcmp =>
    intro hS
    obtain rfl : len = 1 := by simpa [pm_ck] using hck
    obtain ⟨x, y, rest, rfl, hS⟩ := pm_2l_of hS
    exact W.lcmp hx hb hd (hS H locs ls hR hSS hLs hN)
  | dup =>
    intro hS
    obtain rfl : len = 1 := by simpa [pm_ck] using hck
    obtain ⟨v, rest, rfl, h1, hS2⟩ := pm_s1_of hS
    exact lv_dup hx hb hd (by rw [pm_mv_cat]; exact h1) (hS2 H locs ls hR hSS hLs hN)
  | dup2 =>
    intro hS
    obtain rfl : len = 1 := by simpa [pm_ck] using hck
    obtain ⟨w, v, rest, rfl, h1, h2, hS2⟩ := pm_s2_of hS
    exact lv_dup2_11 hx hb hd (by rw [pm_mv_cat]; exact h1) (by rw [pm_mv_cat]; exact h2) (hS2 H locs ls hR hSS hLs hN)
  | pop =>
    intro hS
    obtain rfl : len = 1 := by simpa [pm_ck] using hck
    obtain ⟨v, rest, rfl, h1, hS2⟩ := pm_s1_of hS
    exact lv_pop hx hb hd (by rw [pm_mv_cat]; exact h1) (hS2 H locs ls hR hSS hLs hN)
  | goto off =>
    intro hS
    obtain ⟨rfl, ht⟩ := pm_tgt hck
    exact lv_goto hx hb hd ht (hS H locs ls hR hSS hLs hN)
  | ifCond cd off =>
    intro hS
    obtain ⟨rfl, ht⟩ := pm_tgt hck
    cases cd with
    | eq =>
      obtain ⟨x, rest, rfl, h1, h2⟩ := pm_1i_of hS
      exact lv_if_eq hx hb hd ht (fun z => h1 z H locs ls hR hSS hLs hN) (fun z => h2 z H locs ls hR hSS hLs hN)
    | ne =>
      obtain ⟨x, rest, rfl, h1, h2⟩ := pm_1i_of hS
      exact lv_if_ne hx hb hd ht (fun z => h1 z H locs ls hR hSS hLs hN) (fun z => h2 (by simpa using z) H locs ls hR hSS hLs hN)
    | lt =>
      obtain ⟨x, rest, rfl, h1, h2⟩ := pm_1i_of hS
      exact lv_if_lt hx hb hd ht (fun z => h1 z H locs ls hR hSS hLs hN) (fun z => h2 z H locs ls hR hSS hLs hN)
    | ge =>
      obtain ⟨x, rest, rfl, h1, h2⟩ := pm_1i_of hS
      exact lv_if_ge hx hb hd ht (fun z => h1 (by rw [Int32.not_lt]; exact z) H locs ls hR hSS hLs hN) (fun z => h2 (by rw [← Int32.not_le]; exact z) H locs ls hR hSS hLs hN)
    | gt =>
      obtain ⟨x, rest, rfl, h1, h2⟩ := pm_1i_of hS
      exact lv_if_gt hx hb hd ht (fun z => h1 z H locs ls hR hSS hLs hN) (fun z => h2 z H locs ls hR hSS hLs hN)
    | le =>
      obtain ⟨x, rest, rfl, h1, h2⟩ := pm_1i_of hS
      exact lv_if_le hx hb hd ht (fun z => h1 (by rw [Int32.not_lt]; exact z) H locs ls hR hSS hLs hN) (fun z => h2 (by rw [← Int32.not_le]; exact z) H locs ls hR hSS hLs hN)
  | if_icmp cd off =>
    intro hS
    obtain ⟨rfl, ht⟩ := pm_tgt hck
    cases cd with
    | eq =>
      obtain ⟨x, y, rest, rfl, h1, h2⟩ := pm_2i_of hS
      exact lv_icmp_eq hx hb hd ht (fun z => h1 z H locs ls hR hSS hLs hN) (fun z => h2 z H locs ls hR hSS hLs hN)
    | ne =>
      obtain ⟨x, y, rest, rfl, h1, h2⟩ := pm_2i_of hS
      exact lv_icmp_ne hx hb hd ht (fun z => h1 z H locs ls hR hSS hLs hN) (fun z => h2 (by simpa using z) H locs ls hR hSS hLs hN)
    | lt =>
      obtain ⟨x, y, rest, rfl, h1, h2⟩ := pm_2i_of hS
      exact lv_icmp_lt hx hb hd ht (fun z => h1 z H locs ls hR hSS hLs hN) (fun z => h2 z H locs ls hR hSS hLs hN)
    | ge =>
      obtain ⟨x, y, rest, rfl, h1, h2⟩ := pm_2i_of hS
      exact lv_icmp_ge hx hb hd ht (fun z => h1 (by rw [Int32.not_lt]; exact z) H locs ls hR hSS hLs hN) (fun z => h2 (by rw [← Int32.not_le]; exact z) H locs ls hR hSS hLs hN)
    | gt =>
      obtain ⟨x, y, rest, rfl, h1, h2⟩ := pm_2i_of hS
      exact lv_icmp_gt hx hb hd ht (fun z => h1 z H locs ls hR hSS hLs hN) (fun z => h2 z H locs ls hR hSS hLs hN)
    | le =>
      obtain ⟨x, y, rest, rfl, h1, h2⟩ := pm_2i_of hS
      exact lv_icmp_le hx hb hd ht (fun z => h1 (by rw [Int32.not_lt]; exact z) H locs ls hR hSS hLs hN) (fun z => h2 (by rw [← Int32.not_le]; exact z) H locs ls hR hSS hLs hN)
  | tableswitch dd lo hi offs =>
    intro hS
    unfold pm_ck at hck
    dsimp only at hck
    split at hck
    · simp only [Bool.and_eq_true, decide_eq_true_eq] at hck
      obtain ⟨⟨⟨⟨⟨q1, q2⟩, q3⟩, q4⟩, q5⟩, q6⟩ := hck
      obtain ⟨x, rest, rfl, hS⟩ := pm_1i_of hS
      subst q2
      exact pm_c_sw I2 hd q1 q3 q4 q5 q6 hS H locs ls hR hSS hLs hN
    · cases hck
  | getfield j =>
    intro hS
    unfold pm_ck at hck
    dsimp only at hck
    rw [Bool.and_eq_true, decide_eq_true_eq] at hck
    obtain ⟨rfl, hck⟩ := hck
    split at hck
    · split at hck
      · rename_i Cl hCl
        rw [Bool.and_eq_true, decide_eq_true_eq] at hck
        obtain ⟨a, rest, rfl, hS2⟩ := pm_1a_of hS
        obtain ⟨fs, ha, hS3⟩ := pm_obj_of hS2
        obtain ⟨v, hv, hS4⟩ := pm_opt_of hS3
        exact pm_c_get I2 hd ha hv hCl hck.1 hck.2 hS4 H locs ls hR hSS hLs hN
      · cases hck
    · cases hck
  | putfield j =>
    intro hS
    unfold pm_ck at hck
    dsimp only at hck
    rw [Bool.and_eq_true, decide_eq_true_eq] at hck
    obtain ⟨rfl, hck⟩ := hck
    split at hck
    · split at hck
      · rename_i Cl hCl
        simp only [Bool.and_eq_true, Bool.or_eq_true, decide_eq_true_eq] at hck
        obtain ⟨⟨⟨⟨q1, q2⟩, q3⟩, q4⟩, q5⟩ := hck
        obtain ⟨v, a, rest, rfl, hvk, hS⟩ := pm_va_of hS
        obtain ⟨fs, ha, hkl, hS⟩ := pm_obj_of hS
        exact pm_c_put I2 hd ha hkl (by rw [q2]; exact hvk) hCl q1 q3 q4 (q5.imp id (fun z => ⟨z.1.1.1, z.1.1.2, z.1.2, z.2⟩)) hS H locs ls hR hSS hLs hN
      · cases hck
    · cases hck
  | getstatic j =>
    intro hS
    unfold pm_ck at hck
    dsimp only at hck
    rw [Bool.and_eq_true, decide_eq_true_eq] at hck
    obtain ⟨rfl, hck⟩ := hck
    split at hck
    · exact va_gets hx hb hE.2.2.1 hSS hown (hts _ (pm_w_in hck)) (fun _ z => z) hd (hS H locs ls hR hSS hLs hN)
    · cases hck
  | arraylength =>
    intro hS
    obtain rfl : len = 1 := by simpa [pm_ck] using hck
    obtain ⟨a, rest, rfl, hS2⟩ := pm_1a_of hS
    rcases pm_aln_of hS2 with ⟨x, ha, h1, hS3⟩ | ⟨n, f, hq, hS3⟩
    · exact pm_c_len I2 hd ha h1 hS3 H locs ls hR hSS hLs hN
    · exact pm_c_lenR I2 hd (hro _ _ _ hq) hS3 H locs ls hR hSS hLs hN
  | iaload =>
    intro hS
    obtain rfl : len = 1 := by simpa [pm_ck] using hck
    obtain ⟨i, a, rest, rfl, hS2⟩ := pm_ia_of hS
    rcases pm_ird_of hS2 with ⟨n, f, ha, h1, hS3⟩ | ⟨n, f, hq, h1, hS3⟩
    · exact pm_c_iald I2 hd ha h1 hS3 H locs ls hR hSS hLs hN
    · exact pm_c_ialdR I2 hd (hro _ _ _ hq) h1 hS3 H locs ls hR hSS hLs hN
  | baload =>
    intro hS
    obtain rfl : len = 1 := by simpa [pm_ck] using hck
    obtain ⟨i, a, rest, rfl, hS⟩ := pm_ia_of hS
    obtain ⟨t, n, f, ha, h1, h2, hS⟩ := pm_arr_of hS
    exact pm_c_bald I2 hd ha h1 h2 hS H locs ls hR hSS hLs hN
  | laload =>
    intro hS
    obtain rfl : len = 1 := by simpa [pm_ck] using hck
    obtain ⟨i, a, rest, rfl, hS⟩ := pm_ia_of hS
    obtain ⟨n, f, ha, h2, hS⟩ := pm_arl_of hS
    exact pm_c_lald I2 hd ha h2 hS H locs ls hR hSS hLs hN
  | iastore =>
    intro hS
    obtain rfl : len = 1 := by simpa [pm_ck] using hck
    obtain ⟨x, i, a, rest, rfl, hS⟩ := pm_iia_of hS
    obtain ⟨t, n, f, ha, rfl, h2, hS⟩ := pm_arr_of hS
    exact pm_c_iast I2 hd ha h2 hS H locs ls hR hSS hLs hN
  | bastore =>
    intro hS
    obtain rfl : len = 1 := by simpa [pm_ck] using hck
    obtain ⟨x, i, a, rest, rfl, hS⟩ := pm_iia_of hS
    obtain ⟨t, n, f, ha, h1, h2, hS⟩ := pm_arr_of hS
    exact pm_c_bast I2 hd ha h1 h2 hS H locs ls hR hSS hLs hN
  | lastore =>
    intro hS
    obtain rfl : len = 1 := by simpa [pm_ck] using hck
    obtain ⟨x, i, a, rest, rfl, hS⟩ := pm_lia_of hS
    obtain ⟨n, f, ha, h2, hS⟩ := pm_arl_of hS
    exact pm_c_last I2 hd ha h2 hS H locs ls hR hSS hLs hN
  | new j =>
    intro hS
    unfold pm_ck at hck
    dsimp only at hck
    rw [Bool.and_eq_true, decide_eq_true_eq] at hck
    obtain ⟨rfl, hck⟩ := hck
    split at hck
    · obtain ⟨h0, h1, h2, h3⟩ := hS
      exact hThr hck pc _ _ _ _ _ lv st h us hq h0 h1 h2 h3 H locs ls hR hSS hLs hN
    · rename_i ci nf w1 w2 w3 t hne
      have hS : h.length + 1 ≤ Nx ∧ h.length < 1000000 ∧ us + nf ≤ Sx ∧ pm_Sem p l e R s m args below meth c Qf D ct b g nL N0 xo (pc + 3) lv (.ref h.length :: st) (h ++ [.inr (ci, pm_df ci)]) (us + nf) := by
        unfold pm_I at hS
        dsimp only at hS
        split at hS
        · rename_i k t2 heq
          cases heq
          exact (hne rfl).elim
        · rename_i heq
          cases heq
          exact hS
        · rename_i heq
          exact (heq _ _ _ rfl).elim
      split at hck
      · rename_i Cl hCl
        simp only [Bool.and_eq_true, decide_eq_true_eq] at hck
        obtain ⟨⟨⟨q1, q2⟩, q3⟩, q4⟩ := hck
        subst q1
        obtain ⟨h1, h2, h3, hS⟩ := hS
        exact pm_c_new I2 hex hd hCl (pm_w_in q2) (pm_w_in q3) (pm_w_in q4) h1 h2 h3 hS H locs ls hR hSS hLs hN
      · cases hck
    · cases hck
  | newarray at_ =>
    intro hS
    unfold pm_ck at hck
    dsimp only at hck
    rw [Bool.and_eq_true, decide_eq_true_eq] at hck
    obtain ⟨rfl, hck⟩ := hck
    split at hck
    · simp only [Bool.and_eq_true, decide_eq_true_eq] at hck
      obtain ⟨⟨q1, q2⟩, q3⟩ := hck
      subst q2
      obtain ⟨x, rest, rfl, h1, h2, h3, h4, h5, hS⟩ := pm_1i_of hS
      exact pm_c_newa I2 hex hd q1 (pm_w_in q3) h1 h2 h3 h4 h5 hS H locs ls hR hSS hLs hN
    · cases hck
  | invokevirtual j =>
    intro hS
    unfold pm_ck at hck
    dsimp only at hck
    rw [Bool.and_eq_true, decide_eq_true_eq] at hck
    obtain ⟨rfl, hck⟩ := hck
    rcases pm_cv_of hck with ⟨mi, n, mc, ms, ci, w, t, rfl, h1, h2⟩ | ⟨w, t, rfl, h1⟩ | ⟨w, t, rfl, h1⟩
    · obtain ⟨hn, hS⟩ := hS
      obtain ⟨a, rest, hdr, hS⟩ := pm_1a_of hS
      obtain ⟨fs, ha, q1, q2, q3, hS⟩ := pm_obj_of hS
      exact pm_c_virt I2 hex hmt hC hd h1 h2 hn hdr ha q1 q2 q3 hS H locs ls hR hSS hLs hN
    · obtain ⟨a, rest, rfl, hS⟩ := pm_1a_of hS
      obtain ⟨q, hq, h2, hS⟩ := pm_opt_of hS
      exact pm_c_str I2 hStr hd h1 hq h2 bnd.1 bnd.2 hS H locs ls hR hSS hLs hN
    · obtain ⟨i, a, rest, rfl, hS⟩ := pm_ia_of hS
      obtain ⟨q, hq, h2, h3, hS⟩ := pm_opt_of hS
      exact pm_c_chr I2 hStr hd h1 hq h2 h3 bnd.1 bnd.2 hS H locs ls hR hSS hLs hN
  | invokestatic j =>
    intro hS
    unfold pm_ck at hck
    dsimp only at hck
    rw [Bool.and_eq_true, decide_eq_true_eq] at hck
    obtain ⟨rfl, hck⟩ := hck
    rcases pm_cs_of hck with ⟨mi, n, mc, ms, ci, w, t, rfl, h1⟩ | ⟨t, rfl, h1⟩ | ⟨t, rfl, h1⟩ | ⟨t, rfl, w1, w2, w3, w4⟩
    · obtain ⟨hn, q1, q2, q3, hS⟩ := hS
      exact pm_c_stat I2 hex hmt hC hd h1 hn q1 q2 q3 hS H locs ls hR hSS hLs hN
    · obtain ⟨x, y, rest, rfl, h2, hS⟩ := pm_2i_of hS
      exact (pm_c_mm I2 hd h2).1 h1 hS H locs ls hR hSS hLs hN
    · obtain ⟨x, y, rest, rfl, h2, hS⟩ := pm_2i_of hS
      exact (pm_c_mm I2 hd h2).2 h1 hS H locs ls hR hSS hLs hN
    · obtain ⟨n, dp, a, sp, a0, rest, rfl, hS2⟩ := pm_cp_of hS
      obtain ⟨t0, n0, f, ha0, hS3⟩ := pm_arr_of hS2
      obtain ⟨t1, n1, gg, ha, rfl, rfl, q1, q2, q3, q4, q5, q6, hS4⟩ := pm_arr_of hS3
      exact pm_c_cpy I2 hd w1 w2 w3 w4 ha0 ha q1 q2 q3 q4 q5 q6 hS4 H locs ls hR hSS hLs hN
  | invokespecial j =>
    intro hS
    unfold pm_ck at hck
    dsimp only at hck
    rw [Bool.and_eq_true, decide_eq_true_eq] at hck
    obtain ⟨rfl, hck⟩ := hck
    rcases pm_ci_of hck with ⟨mi, n, mc, ms, ci, w, t, rfl, h1⟩ | ⟨mi, n, mc, ms, ci, w, t, rfl, h1⟩ | ⟨t, rfl, w1, w2, w3⟩
    · obtain ⟨hn, hS⟩ := hS
      obtain ⟨a, rest, hdr, q1, q2, q3, hS⟩ := pm_1a_of hS
      exact pm_c_init I2 hex hmt hC hd h1 hn hdr q1 q2 q3 hS H locs ls hR hSS hLs hN
    · obtain ⟨hn, hS⟩ := hS
      obtain ⟨a, rest, hdr, q1, q2, q3, hS⟩ := pm_1a_of hS
      exact pm_c_init I2 hex hmt hC hd h1 hn hdr q1 q2 q3 hS H locs ls hR hSS hLs hN
    · obtain ⟨a, rest, rfl, h2, hS⟩ := pm_1a_of hS
      exact pm_c_oi I2 hd h2 w1 w2 w3 hS H locs ls hR hSS hLs hN
  | ireturn =>
    intro hS
    obtain rfl : len = 1 := by simpa [pm_ck] using hck
    obtain ⟨x, rfl, h1, h2, h3, h4⟩ := pm_ri_of hS
    exact hRet (some (.int x)) pc h us H locs ls (Or.inl ⟨x, rfl, hd, h1⟩) h2 h3 h4 hR hSS
  | areturn =>
    intro hS
    obtain rfl : len = 1 := by simpa [pm_ck] using hck
    obtain ⟨a, rfl, h1, h2, h3, h4⟩ := pm_ra_of hS
    exact hRet (some (.ref a)) pc h us H locs ls (Or.inr (Or.inl ⟨a, rfl, hd, h1⟩)) h2 h3 h4 hR hSS
  | return_ =>
    intro hS
    obtain rfl : len = 1 := by simpa [pm_ck] using hck
    obtain ⟨rfl, h1, h2, h3, h4⟩ := pm_rn_of hS
    exact hRet none pc h us H locs ls (Or.inr (Or.inr ⟨rfl, hd, h1⟩)) h2 h3 h4 hR hSS
  | _ => exact fun hS => hS.elim
end PMG
section PMH
variable {l : Launch} {D : va_G} {ct : Nat → ClassId} {b : Nat} {g adV : Nat → Nat}
theorem pm_sl1 : ∀ (vs : List Value), (∀ v ∈ vs, v.category = 1) → (lg_sl vs).length = vs.length
  | [], _ => rfl
  | v :: vs, h => by
    have h1 := h v List.mem_cons_self
    have := pm_sl1 vs (fun w hw => h w (List.mem_cons_of_mem _ hw))
    unfold lg_sl at this ⊢
    rw [List.flatMap_cons, if_neg (by omega), List.length_append, this]
    simp
    omega
theorem pm_args_in : ∀ (vs : List Value) (i k : Nat) (v : Value), (∀ v ∈ vs, v.category = 1) → vs[k]? = some v → (i + k, v) ∈ lv_args i vs
  | [], _, _, _, _, h => by simp at h
  | w :: vs, i, k, v, hc, h => by
    have h1 := hc w List.mem_cons_self
    unfold lv_args
    rw [if_neg (by omega)]
    cases k with
    | zero =>
      have : w = v := by simpa using h
      subst this
      exact List.mem_cons_self
    | succ k =>
      have := pm_args_in vs (i + 1) k v (fun w hw => hc w (List.mem_cons_of_mem _ hw)) (by simpa using h)
      rw [show i + (k + 1) = i + 1 + k by omega]
      exact List.mem_cons_of_mem _ this
theorem pm_ls0 {as : List Value} {nL : Nat} (hl : as.length ≤ nL) (hc : ∀ v ∈ as, v.category = 1) : pm_ls g nL (as.map some ++ List.replicate (nL - as.length) none) ((lg_sl (as.map (pm_mv g)) ++ List.replicate (nL - (lg_sl (as.map (pm_mv g))).length) Slot.unset).toArray) := by
  have hc' : ∀ v ∈ as.map (pm_mv g), v.category = 1 := by
    intro v hv
    obtain ⟨w, hw, rfl⟩ := List.mem_map.mp hv
    rw [pm_mv_cat]
    exact hc w hw
  have hlen : (lg_sl (as.map (pm_mv g))).length = as.length := by rw [pm_sl1 _ hc', List.length_map]
  obtain ⟨e1, e2, e3⟩ := lv_entry (as.map (pm_mv g)) (n := nL) (by rw [hlen]; exact hl)
  refine ⟨by simp; omega, e1, e2, fun i v hv => ?_⟩
  have hi : as[i]? = some v := by
    rw [List.getElem?_append] at hv
    split at hv
    · rw [List.getElem?_map] at hv
      cases ha : as[i]? with
      | none => rw [ha] at hv; cases hv
      | some w => rw [ha] at hv; cases hv; rfl
    · rw [List.getElem?_replicate] at hv
      split at hv <;> cases hv
  refine ⟨hc v (List.mem_of_getElem? hi), ?_⟩
  have := e3 _ (pm_args_in _ 0 i (pm_mv g v) hc' (by rw [List.getElem?_map, hi]; rfl))
  rwa [Nat.zero_add] at this
theorem pm_rk_nar {rt : Option FieldType} {x : Int32} (h : pm_rk rt (.int x)) : ∃ ty, rt = some ty ∧ narrow ty (.int x) = .int x := by
  unfold pm_rk at h
  split at h
  · exact ⟨_, rfl, rfl⟩
  · rename_i heq
    cases heq
    rcases h with rfl | rfl
    · exact ⟨_, rfl, rfl⟩
    · exact ⟨_, rfl, rfl⟩
  · rename_i heq
    cases heq
  · exact h.elim
theorem pm_rk_ref {rt : Option FieldType} {a : Nat} (h : pm_rk rt (.ref a)) : ∃ n, rt = some (.object n) := by
  unfold pm_rk at h
  split at h
  · rename_i heq
    cases heq
  · rename_i heq
    cases heq
  · exact ⟨_, rfl⟩
  · exact h.elim
set_option maxHeartbeats 4000000 in
theorem pm_sound {mt : List pmE} (hmt : ∀ e ∈ mt, pm_eG false mt e) (hStr : pm_Str l D ct b g adV) (hg : ∀ k, k < 1000000 → g k = b + k) : ∀ d, pm_Cs l mt D ct b g adV d (pm_Met mt d)
  | 0 => fun _ _ _ _ _ _ _ _ _ _ h => h.elim
  | d + 1 => by
    intro ex mi E hE mc ms as h Post hex hm
    have G := hmt E (List.mem_of_getElem? hE)
    unfold pm_Met at hm
    rw [hE] at hm
    obtain ⟨hlen, hcat, hW⟩ := hm
    refine Met.ofW (cc := E.2.1) (maxL := E.2.2.1) (ret := E.2.2.2.1) G.2.2.1 rfl ?_
    intro p en s m args below meth c s₁ B hml hv
    obtain ⟨rfl, hEn, hR, hsz⟩ := hv
    have hts : ∀ w ∈ pm_WT, w.before ((as.map (pm_mv g)).toArray) s = true := fun w hw => atoms_spec (ws := Cond.code E.1 E.2.1 E.2.2.1 E.2.2.2.1 :: pm_WT) B.pre w (List.mem_cons_of_mem _ hw)
    have hown : s.vm.findClass E.1.cls = some m.cls := findClass_of_methodNamed B.named
    have hnm := (name_of_methodNamed B.named B.method).1
    have hlocks := B.notSynchronized
    have hr := B.returns
    have hb := B.bytes
    have hx := B.exec
    have I : pm_In p (pm_rm (d + 1) mc ms) s m ((as.map (pm_mv g)).toArray) meth c D ct b g adV E.2.2.1 h.length 0 E.2.1 E.1.cls E.1.name ex (h.length + mc) ms d :=
      ⟨hx, hb, hml, hown, hts, hEn, fun z => by rw [hnm]; exact z, hg, fun z => ⟨hsz z, rfl⟩, Nat.le_refl _, Nat.le_refl _, by rw [pm_rm_f]; omega, by rw [pm_rm_l]; omega⟩
    have hro : ∀ a n f, pm_ro0 a = some (n, f) → va_T .int (g a) n (fun i => .int (f i)) (fun q => b ≤ q) s s.heap := by
      intro a n f h0
      unfold pm_ro0 at h0
      split at h0
      · rename_i ha
        cases h0
        rw [ha]
        exact hEn.2.1
      · cases h0
    have hRet : pm_Ret p l en (pm_rm (d + 1) mc ms) s m ((as.map (pm_mv g)).toArray) below meth c (MQ below (pm_Qc D ct b g (h.length + mc) Post) ((as.map (pm_mv g)).toArray) s mc ms (fun q => b ≤ q)) D ct b g h.length 0 E.2.1 (h.length + mc) ms Post E.2.2.2.1 := by
      intro ov pc h' us H locs ls hk h1 h2 h3 hR' hS
      refine W.widen (k := mc) (n := ms) (by omega) h2 ?_
      rcases hk with ⟨x, rfl, hd, hrk⟩ | ⟨a, rfl, hd, hrk⟩ | ⟨rfl, hd, hrt⟩
      · obtain ⟨ty, hty, hn⟩ := pm_rk_nar hrk
        exact W.zret (ty := ty) hx hb (hr.trans hty) hn (fun t ht hW => ⟨⟨some (.int x), h', h1, h3, rfl, by rw [ht]; exact hR'⟩, hS.F ht⟩) hS.2.2 hd
      · obtain ⟨n, hn⟩ := pm_rk_ref hrk
        exact W.aret (rt := .object n) hx hb (hr.trans hn) (Or.inl ⟨n, rfl⟩) (Or.inr ⟨g a, rfl⟩) (fun t ht hW => ⟨⟨some (.ref a), h', h1, h3, rfl, by rw [ht]; exact hR'⟩, hS.F ht⟩) hS.2.2 hd
      · exact W.vret hx hb (hr.trans hrt) (fun t ht hW => ⟨⟨none, h', h1, h3, rfl, by rw [ht]; exact hR'⟩, hS.F ht⟩) hS.2.2 hd
    have K := hW _ (pm_close (Qf := MQ below (pm_Qc D ct b g (h.length + mc) Post) ((as.map (pm_mv g)).toArray) s mc ms (fun q => b ≤ q)) I (hex.imp id (fun z => by omega)) hmt (pm_sound hmt hStr hg d) hStr hro hRet G.2.2.2.2.2.2.2.2 (fun z => by cases z))
    have K2 := K s.heap [] _ hR va_S.rf (pm_ls0 (g := g) hlen hcat) ⟨Nat.le_refl _, Nat.le_add_right _ _, Nat.zero_le _⟩
    rw [lg_entry_eq]
    rw [Nat.sub_self] at K2
    exact K2
end PMH
