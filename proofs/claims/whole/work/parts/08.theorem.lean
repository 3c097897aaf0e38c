/-! SOUNDNESS, five: the closure and the theorem. -/
section PMG
variable {p : Program} {l : Launch} {e : Env} {R : Room} {s : State} {m : MethodId} {args : Array Value} {below : List Frame} {meth : Method} {c : Code} {Qf : State → Prop}
variable {D : va_G} {ct : Nat → ClassId} {b : Nat} {g adV : Nat → Nat} {nL N0 : Nat} {cc : ByteArray} {own nm : String} {ex : Bool} {Nx Sx d : Nat}
set_option maxHeartbeats 16000000 in
set_option maxRecDepth 20000 in
theorem pm_close (I : pm_In p R s m args meth c D ct b g adV nL N0 cc own nm ex Nx Sx d) (hex : ex = true ∨ R.cells = 0) {mt : List pmE} (hmt : ∀ e ∈ mt, pm_eG mt e) {C : pmCall} (hC : pm_Cs l mt D ct b g adV d C) (hStr : pm_Str l D ct b g adV) {ro : pmRO} (hro : ∀ a n f, ro a = some (n, f) → va_T .int (g a) n (fun i => .int (f i)) (fun q => b ≤ q) s s.heap) {Q : pmQ} {rt : Option FieldType} (hRet : pm_Ret p l e R s m args below meth c Qf D ct b g N0 cc Nx Sx Q rt) {L : List (Option pmI)} (hL : ∀ (pc : Nat) (q : pmI), L[pc]? = some (some q) → decode cc pc = .ok (q.1, q.2.1) ∧ pm_ck mt own nm pc q = true) (pc : Nat) (lv : pmL) (st : List Value) (h : pmH) (us : Nat) (hS : pm_S ro C Nx Sx Q rt L (pm_Sem p l e R s m args below meth c Qf D ct b g nL N0) (pm_Sem p l e R s m args below meth c Qf D ct b g nL N0) pc lv st h us) : pm_Sem p l e R s m args below meth c Qf D ct b g nL N0 pc lv st h us := by
  have I2 := I
  obtain ⟨hx, hb, hml, hown, hts, hE, hnm, hg, hsz, hNx, hSx, hf, hlo⟩ := I
  unfold pm_S at hS
  split at hS
  case h_2 => exact hS.elim
  rename_i i len cv r hat
  have hq : L[pc]? = some (some (i, len, cv, r)) := by
    unfold pm_at at hat
    split at hat
    · rename_i q hq
      rw [hq, hat]
    · cases hat
  obtain ⟨hd, hck⟩ := hL pc _ hq
  dsimp only at hd
  intro H locs ls hR hSS hLs hN
  have bnd : h.length ≤ Nx ∧ us ≤ Sx := ⟨by omega, by omega⟩
  revert hS
  cases i with
  | iconst n =>
    intro hS
    obtain ⟨rfl, rfl⟩ : len = 1 ∧ Int32.ofInt n = cv := by simpa [pm_ck] using hck
    exact lv_iconst hx hb hd rfl (hS H locs ls hR hSS hLs hN)
  | bipush n =>
    intro hS
    obtain ⟨rfl, rfl⟩ : len = 2 ∧ (Int8.ofInt n).toInt32 = cv := by simpa [pm_ck] using hck
    exact lv_bipush hx hb hd rfl (hS H locs ls hR hSS hLs hN)
  | sipush n =>
    intro hS
    obtain ⟨rfl, rfl⟩ : len = 3 ∧ (Int16.ofInt n).toInt32 = cv := by simpa [pm_ck] using hck
    exact lv_sipush hx hb hd rfl (hS H locs ls hR hSS hLs hN)
  | lconst n =>
    intro hS
    obtain rfl : len = 1 := by simpa [pm_ck] using hck
    exact lv_lconst hx hb hd rfl (hS H locs ls hR hSS hLs hN)
  | ldc j =>
    intro hS
    unfold pm_ck at hck
    dsimp only at hck
    rw [Bool.and_eq_true, decide_eq_true_eq] at hck
    obtain ⟨rfl, hck⟩ := hck
    split at hck
    · exact lv_ldc hx hb hown (hts _ (pm_w_in hck)) hd (hS H locs ls hR hSS hLs hN)
    · rename_i k t
      split at hck
      · rename_i q hq2
        rw [Bool.and_eq_true, decide_eq_true_eq, decide_eq_true_eq] at hck
        have hv := hE.2.2.2.1 k q hq2
        rw [hck.1, hck.2] at hv
        exact va_ldcS hx hb hown hv hd (hS H locs ls hR hSS hLs hN)
      · cases hck
    · cases hck
  | ldc_w j =>
    intro hS
    unfold pm_ck at hck
    dsimp only at hck
    rw [Bool.and_eq_true, decide_eq_true_eq] at hck
    obtain ⟨rfl, hck⟩ := hck
    split at hck
    · exact lv_ldcw hx hb hown (hts _ (pm_w_in hck)) hd (hS H locs ls hR hSS hLs hN)
    · cases hck
  | ldc2_w j =>
    intro hS
    unfold pm_ck at hck
    dsimp only at hck
    rw [Bool.and_eq_true, decide_eq_true_eq] at hck
    obtain ⟨rfl, hck⟩ := hck
    split at hck
    · exact lv_ldc2 hx hb hown (hts _ (pm_w_in hck)) hd (hS H locs ls hR hSS hLs hN)
    · cases hck
  | iload_n n =>
    intro hS
    obtain rfl : len = 1 := by simpa [pm_ck] using hck
    obtain ⟨x, hl, hS⟩ := pm_ldi_of hS
    exact lv_iload_n hx hb hd rfl (pm_lvl hLs hl) (hS H locs ls hR hSS hLs hN)
  | iload n =>
    intro hS
    obtain rfl : len = 2 := by simpa [pm_ck] using hck
    obtain ⟨x, hl, hS⟩ := pm_ldi_of hS
    exact lv_iload hx hb hd (pm_lvl hLs hl) (hS H locs ls hR hSS hLs hN)
  | aload_n n =>
    intro hS
    obtain rfl : len = 1 := by simpa [pm_ck] using hck
    obtain ⟨x, hl, hS⟩ := pm_lda_of hS
    exact lv_aload_n hx hb hd rfl (pm_lvl hLs hl) (hS H locs ls hR hSS hLs hN)
  | aload n =>
    intro hS
    obtain rfl : len = 2 := by simpa [pm_ck] using hck
    obtain ⟨x, hl, hS⟩ := pm_lda_of hS
    exact lv_aload hx hb hd (pm_lvl hLs hl) (hS H locs ls hR hSS hLs hN)
  | istore_n n =>
    intro hS
    obtain rfl : len = 1 := by simpa [pm_ck] using hck
    obtain ⟨x, rest, rfl, hi, hS⟩ := pm_1i_of hS
    rw [hLs.1] at hi
    exact lv_istore_n hx hb hd rfl (pm_ls_has hLs) hi rfl (fun ls' h' => hS H locs ls' hR hSS (pm_ls_set (x := .int x) hLs hi rfl h') hN)
  | istore n =>
    intro hS
    obtain rfl : len = 2 := by simpa [pm_ck] using hck
    obtain ⟨x, rest, rfl, hi, hS⟩ := pm_1i_of hS
    rw [hLs.1] at hi
    exact lv_istore hx hb hd (pm_ls_has hLs) hi rfl (fun ls' h' => hS H locs ls' hR hSS (pm_ls_set (x := .int x) hLs hi rfl h') hN)
  | astore_n n =>
    intro hS
    obtain rfl : len = 1 := by simpa [pm_ck] using hck
    obtain ⟨x, rest, rfl, hi, hS⟩ := pm_1a_of hS
    rw [hLs.1] at hi
    exact lv_astore_n hx hb hd rfl (pm_ls_has hLs) hi rfl (fun ls' h' => hS H locs ls' hR hSS (pm_ls_set (x := .ref x) hLs hi rfl h') hN)
  | astore n =>
    intro hS
    obtain rfl : len = 2 := by simpa [pm_ck] using hck
    obtain ⟨x, rest, rfl, hi, hS⟩ := pm_1a_of hS
    rw [hLs.1] at hi
    exact lv_astore hx hb hd (pm_ls_has hLs) hi rfl (fun ls' h' => hS H locs ls' hR hSS (pm_ls_set (x := .ref x) hLs hi rfl h') hN)
  | iinc n z =>
    intro hS
    obtain ⟨rfl, rfl⟩ : len = 3 ∧ Int32.ofInt z = cv := by simpa [pm_ck] using hck
    obtain ⟨x, hl, hS⟩ := pm_ldi_of hS
    have hi : n < nL := by rw [← hLs.1]; exact (List.getElem?_eq_some_iff.mp hl).1
    obtain ⟨k, hk⟩ := List.getElem?_of_mem (pm_pl_in.mpr ⟨_, hl, rfl⟩ : (n, pm_mv g (.int x)) ∈ pm_pl g lv)
    exact lv_iinc hx hb hd (pm_ls_has hLs) hk rfl hi rfl (fun ls' h' => hS H locs ls' hR hSS (pm_ls_set (x := .int (x + Int32.ofInt z)) hLs hi rfl h') hN)
  | iadd =>
    intro hS
    obtain rfl : len = 1 := by simpa [pm_ck] using hck
    obtain ⟨x, y, rest, rfl, hS⟩ := pm_2i_of hS
    exact lv_iadd hx hb hd (hS H locs ls hR hSS hLs hN)
  | isub =>
    intro hS
    obtain rfl : len = 1 := by simpa [pm_ck] using hck
    obtain ⟨x, y, rest, rfl, hS⟩ := pm_2i_of hS
    exact lv_isub hx hb hd (hS H locs ls hR hSS hLs hN)
  | imul =>
    intro hS
    obtain rfl : len = 1 := by simpa [pm_ck] using hck
    obtain ⟨x, y, rest, rfl, hS⟩ := pm_2i_of hS
    exact lv_imul hx hb hd (hS H locs ls hR hSS hLs hN)
  | iand =>
    intro hS
    obtain rfl : len = 1 := by simpa [pm_ck] using hck
    obtain ⟨x, y, rest, rfl, hS⟩ := pm_2i_of hS
    exact lv_iand hx hb hd (hS H locs ls hR hSS hLs hN)
  | ior =>
    intro hS
    obtain rfl : len = 1 := by simpa [pm_ck] using hck
    obtain ⟨x, y, rest, rfl, hS⟩ := pm_2i_of hS
    exact lv_ior hx hb hd (hS H locs ls hR hSS hLs hN)
  | ixor =>
    intro hS
    obtain rfl : len = 1 := by simpa [pm_ck] using hck
    obtain ⟨x, y, rest, rfl, hS⟩ := pm_2i_of hS
    exact lv_ixor hx hb hd (hS H locs ls hR hSS hLs hN)
  | idiv =>
    intro hS
    obtain rfl : len = 1 := by simpa [pm_ck] using hck
    obtain ⟨x, y, rest, rfl, hne, hS⟩ := pm_2i_of hS
    exact lv_idiv hx hb hd hne (hS H locs ls hR hSS hLs hN)
  | irem =>
    intro hS
    obtain rfl : len = 1 := by simpa [pm_ck] using hck
    obtain ⟨x, y, rest, rfl, hne, hS⟩ := pm_2i_of hS
    exact lv_irem hx hb hd hne (hS H locs ls hR hSS hLs hN)
  | ishr =>
    intro hS
    obtain rfl : len = 1 := by simpa [pm_ck] using hck
    obtain ⟨x, y, rest, rfl, hS⟩ := pm_2i_of hS
    exact lv_ishr hx hb hd (hS H locs ls hR hSS hLs hN)
  | iushr =>
    intro hS
    obtain rfl : len = 1 := by simpa [pm_ck] using hck
    obtain ⟨x, y, rest, rfl, hS⟩ := pm_2i_of hS
    exact lv_iushr hx hb hd rfl (hS H locs ls hR hSS hLs hN)
  | ineg =>
    intro hS
    obtain rfl : len = 1 := by simpa [pm_ck] using hck
    obtain ⟨x, rest, rfl, hS⟩ := pm_1i_of hS
    exact lv_ineg hx hb hd (hS H locs ls hR hSS hLs hN)
  | i2b =>
    intro hS
    obtain rfl : len = 1 := by simpa [pm_ck] using hck
    obtain ⟨x, rest, rfl, hS⟩ := pm_1i_of hS
    exact lv_i2b hx hb hd rfl (hS H locs ls hR hSS hLs hN)
  | i2l =>
    intro hS
    obtain rfl : len = 1 := by simpa [pm_ck] using hck
    obtain ⟨x, rest, rfl, hS⟩ := pm_1i_of hS
    exact lv_i2l hx hb hd rfl (hS H locs ls hR hSS hLs hN)
  | ladd =>
    intro hS
    obtain rfl : len = 1 := by simpa [pm_ck] using hck
    obtain ⟨x, y, rest, rfl, hS⟩ := pm_2l_of hS
    exact lv_ladd hx hb hd (hS H locs ls hR hSS hLs hN)
  | lmul =>
    intro hS
    obtain rfl : len = 1 := by simpa [pm_ck] using hck
    obtain ⟨x, y, rest, rfl, hS⟩ := pm_2l_of hS
    exact lv_lmul hx hb hd (hS H locs ls hR hSS hLs hN)
  | lcmp =>
    intro hS
    obtain rfl : len = 1 := by simpa [pm_ck] using hck
    obtain ⟨x, y, rest, rfl, hS⟩ := pm_2l_of hS
    exact W.lcmp hx hb hd (hS H locs ls hR hSS hLs hN)
  | dup =>
    intro hS
    obtain rfl : len = 1 := by simpa [pm_ck] using hck
    unfold pm_I at hS
    dsimp only at hS
    split at hS
    · exact lv_dup hx hb hd (by rw [pm_mv_cat]; exact hS.1) (hS.2 H locs ls hR hSS hLs hN)
    · exact hS.elim
  | dup2 =>
    intro hS
    obtain rfl : len = 1 := by simpa [pm_ck] using hck
    unfold pm_I at hS
    dsimp only at hS
    split at hS
    · exact lv_dup2_11 hx hb hd (by rw [pm_mv_cat]; exact hS.1) (by rw [pm_mv_cat]; exact hS.2.1) (hS.2.2 H locs ls hR hSS hLs hN)
    · exact hS.elim
  | pop =>
    intro hS
    obtain rfl : len = 1 := by simpa [pm_ck] using hck
    unfold pm_I at hS
    dsimp only at hS
    split at hS
    · exact lv_pop hx hb hd (by rw [pm_mv_cat]; exact hS.1) (hS.2 H locs ls hR hSS hLs hN)
    · exact hS.elim
  | goto off =>
    intro hS
    obtain ⟨rfl, ht⟩ := pm_tgt hck
    exact lv_goto hx hb hd ht (hS H locs ls hR hSS hLs hN)
  | ifCond cd off =>
    intro hS
    obtain ⟨rfl, ht⟩ := pm_tgt hck
    cases cd with
    | eq =>
      obtain ⟨x, rest, rfl, h1, h2⟩ := pm_1i_of hS
      exact lv_if_eq hx hb hd ht (fun z => h1 z H locs ls hR hSS hLs hN) (fun z => h2 z H locs ls hR hSS hLs hN)
    | ne =>
      obtain ⟨x, rest, rfl, h1, h2⟩ := pm_1i_of hS
      exact lv_if_ne hx hb hd ht (fun z => h1 z H locs ls hR hSS hLs hN) (fun z => h2 (by simpa using z) H locs ls hR hSS hLs hN)
    | lt =>
      obtain ⟨x, rest, rfl, h1, h2⟩ := pm_1i_of hS
      exact lv_if_lt hx hb hd ht (fun z => h1 z H locs ls hR hSS hLs hN) (fun z => h2 z H locs ls hR hSS hLs hN)
    | ge =>
      obtain ⟨x, rest, rfl, h1, h2⟩ := pm_1i_of hS
      exact lv_if_ge hx hb hd ht (fun z => h1 (by rw [Int32.not_lt]; exact z) H locs ls hR hSS hLs hN) (fun z => h2 (by rw [← Int32.not_le]; exact z) H locs ls hR hSS hLs hN)
    | gt =>
      obtain ⟨x, rest, rfl, h1, h2⟩ := pm_1i_of hS
      exact lv_if_gt hx hb hd ht (fun z => h1 z H locs ls hR hSS hLs hN) (fun z => h2 z H locs ls hR hSS hLs hN)
    | le =>
      obtain ⟨x, rest, rfl, h1, h2⟩ := pm_1i_of hS
      exact lv_if_le hx hb hd ht (fun z => h1 (by rw [Int32.not_lt]; exact z) H locs ls hR hSS hLs hN) (fun z => h2 (by rw [← Int32.not_le]; exact z) H locs ls hR hSS hLs hN)
  | if_icmp cd off =>
    intro hS
    obtain ⟨rfl, ht⟩ := pm_tgt hck
    cases cd with
    | eq =>
      obtain ⟨x, y, rest, rfl, h1, h2⟩ := pm_2i_of hS
      exact lv_icmp_eq hx hb hd ht (fun z => h1 z H locs ls hR hSS hLs hN) (fun z => h2 z H locs ls hR hSS hLs hN)
    | ne =>
      obtain ⟨x, y, rest, rfl, h1, h2⟩ := pm_2i_of hS
      exact lv_icmp_ne hx hb hd ht (fun z => h1 z H locs ls hR hSS hLs hN) (fun z => h2 (by simpa using z) H locs ls hR hSS hLs hN)
    | lt =>
      obtain ⟨x, y, rest, rfl, h1, h2⟩ := pm_2i_of hS
      exact lv_icmp_lt hx hb hd ht (fun z => h1 z H locs ls hR hSS hLs hN) (fun z => h2 z H locs ls hR hSS hLs hN)
    | ge =>
      obtain ⟨x, y, rest, rfl, h1, h2⟩ := pm_2i_of hS
      exact lv_icmp_ge hx hb hd ht (fun z => h1 (by rw [Int32.not_lt]; exact z) H locs ls hR hSS hLs hN) (fun z => h2 (by rw [← Int32.not_le]; exact z) H locs ls hR hSS hLs hN)
    | gt =>
      obtain ⟨x, y, rest, rfl, h1, h2⟩ := pm_2i_of hS
      exact lv_icmp_gt hx hb hd ht (fun z => h1 z H locs ls hR hSS hLs hN) (fun z => h2 z H locs ls hR hSS hLs hN)
    | le =>
      obtain ⟨x, y, rest, rfl, h1, h2⟩ := pm_2i_of hS
      exact lv_icmp_le hx hb hd ht (fun z => h1 (by rw [Int32.not_lt]; exact z) H locs ls hR hSS hLs hN) (fun z => h2 (by rw [← Int32.not_le]; exact z) H locs ls hR hSS hLs hN)
  | tableswitch dd lo hi offs =>
    intro hS
    unfold pm_ck at hck
    dsimp only at hck
    split at hck
    · simp only [Bool.and_eq_true, decide_eq_true_eq] at hck
      obtain ⟨⟨⟨⟨⟨q1, q2⟩, q3⟩, q4⟩, q5⟩, q6⟩ := hck
      obtain ⟨x, rest, rfl, hS⟩ := pm_1i_of hS
      subst q2
      exact pm_c_sw I2 hd q1 q3 q4 q5 q6 hS H locs ls hR hSS hLs hN
    · cases hck
  | getfield j =>
    intro hS
    unfold pm_ck at hck
    dsimp only at hck
    rw [Bool.and_eq_true, decide_eq_true_eq] at hck
    obtain ⟨rfl, hck⟩ := hck
    split at hck
    · split at hck
      · rename_i Cl hCl
        rw [Bool.and_eq_true, decide_eq_true_eq] at hck
        obtain ⟨a, rest, rfl, hS2⟩ := pm_1a_of hS
        obtain ⟨fs, ha, hS3⟩ := pm_obj_of hS2
        obtain ⟨v, hv, hS4⟩ := pm_opt_of hS3
        exact pm_c_get I2 hd ha hv hCl hck.1 hck.2 hS4 H locs ls hR hSS hLs hN
      · cases hck
    · cases hck
  | putfield j =>
    intro hS
    unfold pm_ck at hck
    dsimp only at hck
    rw [Bool.and_eq_true, decide_eq_true_eq] at hck
    obtain ⟨rfl, hck⟩ := hck
    split at hck
    · split at hck
      · rename_i Cl hCl
        simp only [Bool.and_eq_true, Bool.or_eq_true, decide_eq_true_eq] at hck
        obtain ⟨⟨⟨⟨q1, q2⟩, q3⟩, q4⟩, q5⟩ := hck
        obtain ⟨v, a, rest, rfl, hvk, hS⟩ := pm_va_of hS
        obtain ⟨fs, ha, hkl, hS⟩ := pm_obj_of hS
        exact pm_c_put I2 hd ha hkl (by rw [q2]; exact hvk) hCl q1 q3 q4 (q5.imp id (fun z => ⟨z.1.1.1, z.1.1.2, z.1.2, z.2⟩)) hS H locs ls hR hSS hLs hN
      · cases hck
    · cases hck
  | getstatic j =>
    intro hS
    unfold pm_ck at hck
    dsimp only at hck
    rw [Bool.and_eq_true, decide_eq_true_eq] at hck
    obtain ⟨rfl, hck⟩ := hck
    split at hck
    · exact va_gets hx hb hE.2.2.1 hSS hown (hts _ (pm_w_in hck)) (fun _ z => z) hd (hS H locs ls hR hSS hLs hN)
    · cases hck
  | arraylength =>
    intro hS
    obtain rfl : len = 1 := by simpa [pm_ck] using hck
    obtain ⟨a, rest, rfl, hS2⟩ := pm_1a_of hS
    clear hS
    split at hS2
    · rename_i q ha
      exact pm_c_len I2 hd ha hS2.1 hS2.2 H locs ls hR hSS hLs hN
    · exact hS2.elim
    · obtain ⟨q, hq, hS3⟩ := pm_opt_of hS2
      exact pm_c_lenR I2 hd (hro _ _ _ hq) hS3 H locs ls hR hSS hLs hN
  | iaload =>
    intro hS
    obtain rfl : len = 1 := by simpa [pm_ck] using hck
    obtain ⟨i, a, rest, rfl, hS2⟩ := pm_ia_of hS
    clear hS
    split at hS2
    · rename_i n f ha
      exact pm_c_iald I2 hd ha hS2.1 hS2.2 H locs ls hR hSS hLs hN
    · exact hS2.elim
    · obtain ⟨q, hq, hS3⟩ := pm_opt_of hS2
      exact pm_c_ialdR I2 hd (hro _ _ _ hq) hS3.1 hS3.2 H locs ls hR hSS hLs hN
  | baload =>
    intro hS
    obtain rfl : len = 1 := by simpa [pm_ck] using hck
    obtain ⟨i, a, rest, rfl, hS⟩ := pm_ia_of hS
    obtain ⟨t, n, f, ha, h1, h2, hS⟩ := pm_arr_of hS
    exact pm_c_bald I2 hd ha h1 h2 hS H locs ls hR hSS hLs hN
  | laload =>
    intro hS
    obtain rfl : len = 1 := by simpa [pm_ck] using hck
    obtain ⟨i, a, rest, rfl, hS⟩ := pm_ia_of hS
    obtain ⟨n, f, ha, h2, hS⟩ := pm_arl_of hS
    exact pm_c_lald I2 hd ha h2 hS H locs ls hR hSS hLs hN
  | iastore =>
    intro hS
    obtain rfl : len = 1 := by simpa [pm_ck] using hck
    obtain ⟨x, i, a, rest, rfl, hS⟩ := pm_iia_of hS
    obtain ⟨t, n, f, ha, rfl, h2, hS⟩ := pm_arr_of hS
    exact pm_c_iast I2 hd ha h2 hS H locs ls hR hSS hLs hN
  | bastore =>
    intro hS
    obtain rfl : len = 1 := by simpa [pm_ck] using hck
    obtain ⟨x, i, a, rest, rfl, hS⟩ := pm_iia_of hS
    obtain ⟨t, n, f, ha, h1, h2, hS⟩ := pm_arr_of hS
    exact pm_c_bast I2 hd ha h1 h2 hS H locs ls hR hSS hLs hN
  | lastore =>
    intro hS
    obtain rfl : len = 1 := by simpa [pm_ck] using hck
    obtain ⟨x, i, a, rest, rfl, hS⟩ := pm_lia_of hS
    obtain ⟨n, f, ha, h2, hS⟩ := pm_arl_of hS
    exact pm_c_last I2 hd ha h2 hS H locs ls hR hSS hLs hN
  | new j =>
    intro hS
    unfold pm_ck at hck
    dsimp only at hck
    rw [Bool.and_eq_true, decide_eq_true_eq] at hck
    obtain ⟨rfl, hck⟩ := hck
    split at hck
    · split at hck
      · rename_i Cl hCl
        simp only [Bool.and_eq_true, decide_eq_true_eq] at hck
        obtain ⟨⟨⟨q1, q2⟩, q3⟩, q4⟩ := hck
        subst q1
        obtain ⟨h1, h2, h3, hS⟩ := hS
        exact pm_c_new I2 hex hd hCl (pm_w_in q2) (pm_w_in q3) (pm_w_in q4) h1 h2 h3 hS H locs ls hR hSS hLs hN
      · cases hck
    · cases hck
  | newarray at_ =>
    intro hS
    unfold pm_ck at hck
    dsimp only at hck
    rw [Bool.and_eq_true, decide_eq_true_eq] at hck
    obtain ⟨rfl, hck⟩ := hck
    split at hck
    · simp only [Bool.and_eq_true, decide_eq_true_eq] at hck
      obtain ⟨⟨q1, q2⟩, q3⟩ := hck
      subst q2
      obtain ⟨x, rest, rfl, h1, h2, h3, h4, h5, hS⟩ := pm_1i_of hS
      exact pm_c_newa I2 hex hd q1 (pm_w_in q3) h1 h2 h3 h4 h5 hS H locs ls hR hSS hLs hN
    · cases hck
  | invokevirtual j =>
    intro hS
    unfold pm_ck at hck
    dsimp only at hck
    rw [Bool.and_eq_true, decide_eq_true_eq] at hck
    obtain ⟨rfl, hck⟩ := hck
    rcases pm_cv_of hck with ⟨mi, n, mc, ms, ci, w, t, rfl, h1, h2⟩ | ⟨w, t, rfl, h1⟩ | ⟨w, t, rfl, h1⟩
    · obtain ⟨hn, hS⟩ := hS
      obtain ⟨a, rest, hdr, hS⟩ := pm_1a_of hS
      obtain ⟨fs, ha, q1, q2, q3, hS⟩ := pm_obj_of hS
      exact pm_c_virt I2 hex hmt hC hd h1 h2 hn hdr ha q1 q2 q3 hS H locs ls hR hSS hLs hN
    · obtain ⟨a, rest, rfl, hS⟩ := pm_1a_of hS
      obtain ⟨q, hq, h2, hS⟩ := pm_opt_of hS
      exact pm_c_str I2 hStr hd h1 hq h2 bnd.1 bnd.2 hS H locs ls hR hSS hLs hN
    · obtain ⟨i, a, rest, rfl, hS⟩ := pm_ia_of hS
      obtain ⟨q, hq, h2, h3, hS⟩ := pm_opt_of hS
      exact pm_c_chr I2 hStr hd h1 hq h2 h3 bnd.1 bnd.2 hS H locs ls hR hSS hLs hN
  | invokestatic j =>
    intro hS
    unfold pm_ck at hck
    dsimp only at hck
    rw [Bool.and_eq_true, decide_eq_true_eq] at hck
    obtain ⟨rfl, hck⟩ := hck
    rcases pm_cs_of hck with ⟨mi, n, mc, ms, ci, w, t, rfl, h1⟩ | ⟨t, rfl, h1⟩ | ⟨t, rfl, h1⟩ | ⟨t, rfl, w1, w2, w3, w4⟩
    · obtain ⟨hn, q1, q2, q3, hS⟩ := hS
      exact pm_c_stat I2 hex hmt hC hd h1 hn q1 q2 q3 hS H locs ls hR hSS hLs hN
    · obtain ⟨x, y, rest, rfl, h2, hS⟩ := pm_2i_of hS
      exact (pm_c_mm I2 hd h2).1 h1 hS H locs ls hR hSS hLs hN
    · obtain ⟨x, y, rest, rfl, h2, hS⟩ := pm_2i_of hS
      exact (pm_c_mm I2 hd h2).2 h1 hS H locs ls hR hSS hLs hN
    · obtain ⟨n, dp, a, sp, a0, rest, rfl, hS2⟩ := pm_cp_of hS
      obtain ⟨t0, n0, f, ha0, hS3⟩ := pm_arr_of hS2
      obtain ⟨t1, n1, gg, ha, rfl, rfl, q1, q2, q3, q4, q5, q6, hS4⟩ := pm_arr_of hS3
      exact pm_c_cpy I2 hd w1 w2 w3 w4 ha0 ha q1 q2 q3 q4 q5 q6 hS4 H locs ls hR hSS hLs hN
  | invokespecial j =>
    intro hS
    unfold pm_ck at hck
    dsimp only at hck
    rw [Bool.and_eq_true, decide_eq_true_eq] at hck
    obtain ⟨rfl, hck⟩ := hck
    rcases pm_ci_of hck with ⟨mi, n, mc, ms, ci, w, t, rfl, h1⟩ | ⟨mi, n, mc, ms, ci, w, t, rfl, h1⟩ | ⟨t, rfl, w1, w2, w3⟩
    · obtain ⟨hn, hS⟩ := hS
      obtain ⟨a, rest, hdr, q1, q2, q3, hS⟩ := pm_1a_of hS
      exact pm_c_init I2 hex hmt hC hd h1 hn hdr q1 q2 q3 hS H locs ls hR hSS hLs hN
    · obtain ⟨hn, hS⟩ := hS
      obtain ⟨a, rest, hdr, q1, q2, q3, hS⟩ := pm_1a_of hS
      exact pm_c_init I2 hex hmt hC hd h1 hn hdr q1 q2 q3 hS H locs ls hR hSS hLs hN
    · obtain ⟨a, rest, rfl, h2, hS⟩ := pm_1a_of hS
      exact pm_c_oi I2 hd h2 w1 w2 w3 hS H locs ls hR hSS hLs hN
  | ireturn =>
    intro hS
    obtain rfl : len = 1 := by simpa [pm_ck] using hck
    unfold pm_I at hS
    dsimp only at hS
    split at hS
    · obtain ⟨h1, h2, h3, h4⟩ := hS
      rename_i x
      exact hRet (some (.int x)) pc h us H locs ls (Or.inl ⟨x, rfl, hd, h1⟩) h2 h3 h4 hR hSS
    · exact hS.elim
  | areturn =>
    intro hS
    obtain rfl : len = 1 := by simpa [pm_ck] using hck
    unfold pm_I at hS
    dsimp only at hS
    split at hS
    · obtain ⟨h1, h2, h3, h4⟩ := hS
      rename_i a
      exact hRet (some (.ref a)) pc h us H locs ls (Or.inr (Or.inl ⟨a, rfl, hd, h1⟩)) h2 h3 h4 hR hSS
    · exact hS.elim
  | return_ =>
    intro hS
    obtain rfl : len = 1 := by simpa [pm_ck] using hck
    unfold pm_I at hS
    dsimp only at hS
    split at hS
    · obtain ⟨h1, h2, h3, h4⟩ := hS
      exact hRet none pc h us H locs ls (Or.inr (Or.inr ⟨rfl, hd, h1⟩)) h2 h3 h4 hR hSS
    · exact hS.elim
  | _ => exact fun hS => hS.elim
end PMG
