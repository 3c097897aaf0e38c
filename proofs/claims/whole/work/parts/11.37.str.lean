/-! The texts' own methods: length and charAt of the constants. -/
def px_rk (k : Nat) : Room := { frames := k, cells := 0, slots := 0, locals := 64 * k }
def px_chk1 (s : String) (k : Nat) : Bool := decide (((((((s.toList.map fun x => nI x.toNat).getD k 0) &&& 255).toUInt32 % 65536).toInt32 = nI ((s.toList.getD k 'a').toNat)))) && decide (narrow .char (.int (nI ((s.toList.getD k 'a').toNat))) = .int (nI ((s.toList.getD k 'a').toNat)))
def px_chk : Bool := pm_str.all fun q => decide (nI q.2.2.length >>> ((0 : Int32) &&& 31) = nI q.2.2.length) && decide (q.2.2.length < 1000) && (List.range q.2.2.length).all fun k => px_chk1 q.2.2 k
theorem px_chk_ok : px_chk = true := by decide +kernel
theorem px_chk_of {j : Nat} {q : String × Nat × String} (h : pm_str[j]? = some q) : nI q.2.2.length >>> ((0 : Int32) &&& 31) = nI q.2.2.length ∧ q.2.2.length < 1000 ∧ ∀ k, k < q.2.2.length → ((((q.2.2.toList.map fun x => nI x.toNat).getD k 0) &&& 255).toUInt32 % 65536).toInt32 = nI ((q.2.2.toList.getD k 'a').toNat) ∧ narrow .char (.int (nI ((q.2.2.toList.getD k 'a').toNat))) = .int (nI ((q.2.2.toList.getD k 'a').toNat)) := by
  have h0 := px_chk_ok
  unfold px_chk at h0
  have h1 := List.all_eq_true.mp h0 q (List.mem_of_getElem? h)
  rw [Bool.and_eq_true, Bool.and_eq_true, decide_eq_true_eq, decide_eq_true_eq] at h1
  refine ⟨h1.1.1, h1.1.2, fun k hk => ?_⟩
  have h2 := List.all_eq_true.mp h1.2 k (List.mem_range.mpr hk)
  unfold px_chk1 at h2
  rw [Bool.and_eq_true, decide_eq_true_eq, decide_eq_true_eq] at h2
  exact h2
section PJ
variable {l : Launch} {D : va_G} {ct : Nat → ClassId} {b : Nat} {g adV : Nat → Nat}
def px_Q (D : va_G) (ct : Nat → ClassId) (b : Nat) (g : Nat → Nat) (h : pmH) (ov : Option Value) : Array Value → State → Outcome → State → Prop := pm_Qc D ct b g (h.length + 0) (fun v h' => v = ov ∧ h' = h)
def px_M (l : Launch) (D : va_G) (ct : Nat → ClassId) (b : Nat) (g adV : Nat → Nat) (y : MethodName) (cc : ByteArray) (maxL : Nat) (ret : Option FieldType) (k : Nat) (As : List Value) (h : pmH) (ov : Option Value) : Prop := Met l y (Cond.code y cc maxL ret :: pm_WT) (px_rk k) (va_Pc As (pm_B D ct b g adV false h)) (px_Q D ct b g h ov) 0 0 (fun q => b ≤ q)
section
variable {p : Program} {e : Env} {R : Room} {s : State} {m : MethodId} {args : Array Value} {below : List Frame} {meth : Method} {c : Code} {Qf : State → Prop}
theorem px_jrun (hE : pm_En D ct b g adV s s.heap) {h : pmH} {ov : Option Value} {pc : Nat} {ls : Array Slot} {st rest : List Value} {H : Heap} {locs : List Loc} (hR : pm_Rl D ct b g h H) (hS : va_S (fun q => b ≤ q) s.heap H locs) {av : Array Value}
    (hr : va_Run p l e R s m args below meth c H locs 0 0 0 0 (F0 m pc ls st) rest (px_Q D ct b g h ov av) (fun q => b ≤ q))
    (kk : ∀ H locs, pm_Rl D ct b g h H → va_S (fun q => b ≤ q) s.heap H locs → W p l e R s m args below meth c H locs 0 0 Qf (F0 m (pc + 3) ls ((ov.map (pm_mv g)).toList ++ rest))) : W p l e R s m args below meth c H locs 0 0 Qf (F0 m pc ls st) := by
  intro T hT X
  obtain ⟨v, st₀, t, T', L, e0, X', hLf, e1, e2, ⟨⟨v', h', hlen, ⟨hp, hh⟩, hv, hR'⟩, hz, hk⟩, go⟩ := hr T hT X
  cases hv
  subst hp
  subst hh
  rw [e0] at hz hk
  have hsz1 : H.size ≤ T'.heap.size := by rw [e1]; exact hz
  have K := kk T'.heap (locs ++ L) (by rw [e1]; exact hR') ⟨Nat.le_trans hS.1 hsz1, fun q q1 q2 => by
      rw [e1, hk q (Nat.lt_of_lt_of_le q1 hS.1) q2]; exact hS.2.1 q q1 q2, fun q hq => by
      rcases List.mem_append.mp hq with z | z
      · exact hS.2.2 q z
      · exact hLf q z⟩
  obtain ⟨t2, a1, b1⟩ := K T' rfl X'
  exact ⟨t2, go t2 a1, b1⟩
theorem px_PreB (hE : pm_En D ct b g adV s s.heap) {H : Heap} {locs : List Loc} {h : pmH} {as : List Value} (hR : pm_Rl D ct b g h H) (hS : va_S (fun q => b ≤ q) s.heap H locs) : ∀ U : State, U.heap = H → s.WarmedH U.vm → va_Pc as (pm_B D ct b g adV false h) as.toArray U := by
  intro U hU hW
  exact ⟨rfl, by rw [hU]; exact hE.mv hW hS.1 hS.2.1, by rw [hU]; exact hR, fun z => by cases z⟩
end

set_option maxRecDepth 20000 in
theorem px_j1 {i : Int32} {n : Nat} (hi : vp_in i n) (hn : n < 1000) {f : Value} (hf : f = .null ∨ ∃ t : Nat, f = .ref t) {h : pmH} : px_M l D ct b g adV yJ3_checkIndex_8e157 cJ3_checkIndex_8e157 3 (some .int) 14 [.int i, .int (nI n), f] h (some (.int i)) := by
  unfold px_M
  refine Met.ofW (cc := cJ3_checkIndex_8e157) (maxL := 3) (ret := some .int) (by decide +kernel) rfl ?_
  intro p en s m args below meth c s₁ B hml hv
  obtain ⟨rfl, hE, hR, hsz⟩ := hv
  have hts : ∀ w ∈ pm_WT, w.before (([.int i, .int (nI n), f] : List Value).toArray) s = true := fun w hw => atoms_spec (ws := Cond.code yJ3_checkIndex_8e157 cJ3_checkIndex_8e157 3 (some .int) :: pm_WT) B.pre w (List.mem_cons_of_mem _ hw)
  have hown := findClass_of_methodNamed B.named
  have hlocks := B.notSynchronized
  have hr := B.returns
  have hb := B.bytes
  have hx := B.exec
  rw [lg_entry_eq]
  have hS : va_S (fun q => b ≤ q) s.heap s.heap [] := va_S.rf
  have h0 : ¬ i < 0 := fun z => hi (Or.inl z)
  have h1 : i < nI n := by
    have z : i.toNatClampNeg < n := Nat.not_le.mp fun q => hi (Or.inr q)
    obtain ⟨k, hk, rfl⟩ := nI_of h0
    rw [nI_clamp hk] at z
    exact nI_lt z (by omega)
  rcases hf with rfl | ⟨t, rfl⟩
  all_goals
    refine lv_iload_n hx hb (k := 0) (by decide +kernel) rfl rfl ?_
    refine lv_if_lt hx hb (off := 8) (tgt := 9) (by decide +kernel) rfl (fun z => absurd z h0) (fun _ => ?_)
    refine lv_iload_n hx hb (k := 0) (by decide +kernel) rfl rfl ?_
    refine lv_iload_n hx hb (k := 1) (by decide +kernel) rfl rfl ?_
    refine lv_icmp_lt hx hb (off := 10) (tgt := 16) (by decide +kernel) rfl (fun _ => ?_) (fun z => absurd h1 z)
    refine lv_iload_n hx hb (k := 0) (by decide +kernel) rfl rfl ?_
    exact W.zret (ty := .int) hx hb hr rfl (fun t ht hW => ⟨⟨some _, h, rfl, ⟨rfl, rfl⟩, rfl, by rw [ht]; exact hR⟩, hS.F ht⟩) hS.2.2 (by decide +kernel)
set_option maxRecDepth 20000 in
theorem px_j2 {i : Int32} {n : Nat} (hi : vp_in i n) (hn : n < 1000) {h : pmH} : px_M l D ct b g adV yJ0_checkIndex_df160 cJ0_checkIndex_df160 2 ((none : Option FieldType)) 15 [.int i, .int (nI n)] h ((none : Option Value)) := by
  unfold px_M
  refine Met.ofW (cc := cJ0_checkIndex_df160) (maxL := 2) (ret := (none : Option FieldType)) (by decide +kernel) rfl ?_
  intro p en s m args below meth c s₁ B hml hv
  obtain ⟨rfl, hE, hR, hsz⟩ := hv
  have hts : ∀ w ∈ pm_WT, w.before (([.int i, .int (nI n)] : List Value).toArray) s = true := fun w hw => atoms_spec (ws := Cond.code yJ0_checkIndex_df160 cJ0_checkIndex_df160 2 ((none : Option FieldType)) :: pm_WT) B.pre w (List.mem_cons_of_mem _ hw)
  have hown := findClass_of_methodNamed B.named
  have hlocks := B.notSynchronized
  have hr := B.returns
  have hb := B.bytes
  have hx := B.exec
  rw [lg_entry_eq]
  have hS : va_S (fun q => b ≤ q) s.heap s.heap [] := va_S.rf
  refine lv_iload_n hx hb (k := 0) (by decide +kernel) rfl rfl ?_
  refine lv_iload_n hx hb (k := 1) (by decide +kernel) rfl rfl ?_
  have hq : ∃ f : Value, va_Z "jdk/internal/util/Preconditions" "SIOOBE_FORMATTER" "Ljava/util/function/BiFunction;" f (fun q => b ≤ q) s s.heap ∧ (f = .null ∨ ∃ t : Nat, f = .ref t) := by
    rcases hE.2.2.2.1.2.2 with z | ⟨t, z⟩
    · exact ⟨_, z, Or.inl rfl⟩
    · exact ⟨_, z, Or.inr ⟨t, rfl⟩⟩
  obtain ⟨f, hZ, hf⟩ := hq
  refine va_gets (index := 1053) (own := RJ0) (ref := "jdk/internal/util/Preconditions") hx hb hZ hS hown (hts _ (pm_w_in (j := 4074) (by decide +kernel))) (fun _ z => z) (by decide +kernel) ?_
  refine px_jrun hE hR hS (va_runS (index := 1059) (As := [.int i, .int (nI n), f]) (rest := []) ⟨hx, hb, hml, hown, hts⟩ (px_j1 (h := h) hi hn hf) ⟨callB_of 3 hts (pm_WT_cons (pm_w_in (j := 4078) (by decide +kernel))) rfl rfl rfl (hts _ (pm_w_in (j := 1016) (by decide +kernel))) (hts _ (pm_w_in (j := 4076) (by decide +kernel))) (by decide +kernel) ⟨by decide, by decide⟩, (hts _ (pm_w_in (j := 4077) (by decide +kernel)))⟩ ⟨pm_B_blind, px_PreB hE hR hS⟩ rfl rfl rfl rfl (lv_room (by decide)) (show decode cJ0_checkIndex_df160 5 = .ok (.invokestatic 1059, 3) by decide +kernel) ⟨Nat.le_refl 0, Nat.le_refl 0⟩) ?_
  clear hR hS
  intro H locs hR hS
  refine lv_pop hx hb (by decide +kernel) rfl ?_
  exact W.vret hx hb hr (fun t ht hW => ⟨⟨none, h, rfl, ⟨rfl, rfl⟩, rfl, by rw [ht]; exact hR⟩, hS.F ht⟩) hS.2.2 (by decide +kernel)
set_option maxRecDepth 20000 in
theorem px_j3 {j : Nat} {q : String × Nat × String} (hq : pm_str[j]? = some q) {i : Int32} (hi : vp_in i q.2.2.length) {h : pmH} : px_M l D ct b g adV yJ1_charAt_3b067 cJ1_charAt_3b067 2 (some .char) 16 [.ref (adV j), .int i] h (some (.int (nI ((q.2.2.toList.getD i.toNatClampNeg 'a').toNat)))) := by
  unfold px_M
  refine Met.ofW (cc := cJ1_charAt_3b067) (maxL := 2) (ret := some .char) (by decide +kernel) rfl ?_
  intro p en s m args below meth c s₁ B hml hv
  obtain ⟨rfl, hE, hR, hsz⟩ := hv
  have hts : ∀ w ∈ pm_WT, w.before (([.ref (adV j), .int i] : List Value).toArray) s = true := fun w hw => atoms_spec (ws := Cond.code yJ1_charAt_3b067 cJ1_charAt_3b067 2 (some .char) :: pm_WT) B.pre w (List.mem_cons_of_mem _ hw)
  have hown := findClass_of_methodNamed B.named
  have hlocks := B.notSynchronized
  have hr := B.returns
  have hb := B.bytes
  have hx := B.exec
  rw [lg_entry_eq]
  have hS : va_S (fun q => b ≤ q) s.heap s.heap [] := va_S.rf
  have hj := pm_str_lt hq
  obtain ⟨c1, c2, c3⟩ := px_chk_of hq
  have hT := (hE.2.2.2.2.1.1 j hj).2.2.2
  have el : pm_len.getD j 0 = q.2.2.length := by unfold pm_len; rw [List.getD_eq_getElem?_getD, List.getElem?_map, hq]; rfl
  have eb : pm_byt.getD j [] = q.2.2.toList.map fun x => nI x.toNat := by unfold pm_byt; rw [List.getD_eq_getElem?_getD, List.getElem?_map, hq]; rfl
  rw [el, eb] at hT
  have hlt : i.toNatClampNeg < q.2.2.length := Nat.not_le.mp fun z => hi (Or.inr z)
  obtain ⟨c4, c5⟩ := c3 _ hlt
  refine lv_iload_n hx hb (k := 1) (by decide +kernel) rfl rfl ?_
  refine lv_aload_n hx hb (k := 0) (by decide +kernel) rfl rfl ?_
  refine va_tlen hx hb hT hS (v := nI q.2.2.length) rfl (by decide +kernel) ?_
  refine px_jrun hE hR hS (va_runS (index := 9) (As := [.int i, .int (nI q.2.2.length)]) (rest := []) ⟨hx, hb, hml, hown, hts⟩ (px_j2 (h := h) hi c2) ⟨callB_of 2 hts (pm_WT_cons (pm_w_in (j := 4073) (by decide +kernel))) rfl rfl rfl (hts _ (pm_w_in (j := 1014) (by decide +kernel))) (hts _ (pm_w_in (j := 4071) (by decide +kernel))) (by decide +kernel) ⟨by decide, by decide⟩, (hts _ (pm_w_in (j := 4072) (by decide +kernel)))⟩ ⟨pm_B_blind, px_PreB hE hR hS⟩ rfl rfl rfl rfl (lv_room (by decide)) (show decode cJ1_charAt_3b067 3 = .ok (.invokestatic 9, 3) by decide +kernel) ⟨Nat.le_refl 0, Nat.le_refl 0⟩) ?_
  clear hR hS
  intro H locs hR hS
  refine lv_aload_n hx hb (k := 0) (by decide +kernel) rfl rfl ?_
  refine lv_iload_n hx hb (k := 1) (by decide +kernel) rfl rfl ?_
  obtain ⟨cell, h1, h2, h3, h4, h5, h6, h7⟩ := hT.kept hS.2.1
  refine W.bald hx hb h1 h2 h3 (fun z => hi (z.imp id (fun z => by omega))) (h6 _ hlt) rfl rfl (show decode cJ1_charAt_3b067 8 = .ok (.baload, 1) by decide +kernel) ?_
  refine lv_sipush hx hb (n := 255) (pc := 9) (by decide +kernel) (show (Int16.ofInt 255).toInt32 = 255 by decide +kernel) ?_
  refine lv_iand hx hb (pc := 12) (by decide +kernel) ?_
  refine lv_i2c hx hb (pc := 13) (by decide +kernel) c4 ?_
  exact W.zret (pc := 14) (ty := .char) hx hb hr c5 (fun t ht hW => ⟨⟨some _, h, rfl, ⟨rfl, rfl⟩, rfl, by rw [ht]; exact hR⟩, hS.F ht⟩) hS.2.2 (by decide +kernel)
set_option maxRecDepth 20000 in
theorem px_j4 {j : Nat} {q : String × Nat × String} (hq : pm_str[j]? = some q) {h : pmH} : px_M l D ct b g adV yJ0_isLatin1_aae02 cJ0_isLatin1_aae02 1 (some .boolean) 16 [.ref (g (1000002 + j))] h (some (.int 1)) := by
  unfold px_M
  refine Met.ofW (cc := cJ0_isLatin1_aae02) (maxL := 1) (ret := some .boolean) (by decide +kernel) rfl ?_
  intro p en s m args below meth c s₁ B hml hv
  obtain ⟨rfl, hE, hR, hsz⟩ := hv
  have hts : ∀ w ∈ pm_WT, w.before (([.ref (g (1000002 + j))] : List Value).toArray) s = true := fun w hw => atoms_spec (ws := Cond.code yJ0_isLatin1_aae02 cJ0_isLatin1_aae02 1 (some .boolean) :: pm_WT) B.pre w (List.mem_cons_of_mem _ hw)
  have hown := findClass_of_methodNamed B.named
  have hlocks := B.notSynchronized
  have hr := B.returns
  have hb := B.bytes
  have hx := B.exec
  rw [lg_entry_eq]
  have hS : va_S (fun q => b ≤ q) s.heap s.heap [] := va_S.rf
  have hj := pm_str_lt hq
  refine va_gets (index := 38) (own := RJ0) (ref := "java/lang/String") hx hb hE.2.2.2.1.2.1 hS hown (hts _ (pm_w_in (j := 4055) (by decide +kernel))) (fun _ z => z) (by decide +kernel) ?_
  refine lv_if_eq hx hb (off := 14) (tgt := 17) (by decide +kernel) rfl (fun z => absurd z (by decide)) (fun _ => ?_)
  refine lv_aload_n hx hb (k := 0) (by decide +kernel) rfl rfl ?_
  refine vk_getf (index := 15) (own := RJ0) (ref := "java/lang/String") hx hb (hE.2.2.2.2.1.1 j hj).2.1 hS hown (hts _ (pm_w_in (j := 8146) (by decide +kernel))) (fun _ z => z) (by decide +kernel) ?_
  refine lv_if_ne hx hb (off := 7) (tgt := 17) (by decide +kernel) rfl (fun z => absurd rfl z) (fun _ => ?_)
  refine lv_iconst hx hb (n := 1) (by decide +kernel) (v := 1) (by decide +kernel) ?_
  refine lv_goto hx hb (off := 4) (tgt := 18) (by decide +kernel) rfl ?_
  exact W.zret (ty := .boolean) hx hb hr (by decide +kernel) (fun t ht hW => ⟨⟨some _, h, rfl, ⟨rfl, rfl⟩, rfl, by rw [ht]; exact hR⟩, hS.F ht⟩) hS.2.2 (by decide +kernel)
set_option maxRecDepth 20000 in
theorem px_j5 {j : Nat} {q : String × Nat × String} (hq : pm_str[j]? = some q) {h : pmH} : px_M l D ct b g adV yJ0_coder_7d493 cJ0_coder_7d493 1 (some .byte) 16 [.ref (g (1000002 + j))] h (some (.int 0)) := by
  unfold px_M
  refine Met.ofW (cc := cJ0_coder_7d493) (maxL := 1) (ret := some .byte) (by decide +kernel) rfl ?_
  intro p en s m args below meth c s₁ B hml hv
  obtain ⟨rfl, hE, hR, hsz⟩ := hv
  have hts : ∀ w ∈ pm_WT, w.before (([.ref (g (1000002 + j))] : List Value).toArray) s = true := fun w hw => atoms_spec (ws := Cond.code yJ0_coder_7d493 cJ0_coder_7d493 1 (some .byte) :: pm_WT) B.pre w (List.mem_cons_of_mem _ hw)
  have hown := findClass_of_methodNamed B.named
  have hlocks := B.notSynchronized
  have hr := B.returns
  have hb := B.bytes
  have hx := B.exec
  rw [lg_entry_eq]
  have hS : va_S (fun q => b ≤ q) s.heap s.heap [] := va_S.rf
  have hj := pm_str_lt hq
  refine va_gets (index := 38) (own := RJ0) (ref := "java/lang/String") hx hb hE.2.2.2.1.2.1 hS hown (hts _ (pm_w_in (j := 4055) (by decide +kernel))) (fun _ z => z) (by decide +kernel) ?_
  refine lv_if_eq hx hb (off := 10) (tgt := 13) (by decide +kernel) rfl (fun z => absurd z (by decide)) (fun _ => ?_)
  refine lv_aload_n hx hb (k := 0) (by decide +kernel) rfl rfl ?_
  refine vk_getf (index := 15) (own := RJ0) (ref := "java/lang/String") hx hb (hE.2.2.2.2.1.1 j hj).2.1 hS hown (hts _ (pm_w_in (j := 8146) (by decide +kernel))) (fun _ z => z) (by decide +kernel) ?_
  refine lv_goto hx hb (off := 4) (tgt := 14) (by decide +kernel) rfl ?_
  exact W.zret (ty := .byte) hx hb hr (by decide +kernel) (fun t ht hW => ⟨⟨some _, h, rfl, ⟨rfl, rfl⟩, rfl, by rw [ht]; exact hR⟩, hS.F ht⟩) hS.2.2 (by decide +kernel)
set_option maxRecDepth 20000 in
theorem px_j6 {j : Nat} {q : String × Nat × String} (hq : pm_str[j]? = some q) {h : pmH} : px_M l D ct b g adV yJ0_length_8abf5 cJ0_length_8abf5 1 (some .int) 20 [.ref (g (1000002 + j))] h (some (.int (nI q.2.2.length))) := by
  unfold px_M
  refine Met.ofW (cc := cJ0_length_8abf5) (maxL := 1) (ret := some .int) (by decide +kernel) rfl ?_
  intro p en s m args below meth c s₁ B hml hv
  obtain ⟨rfl, hE, hR, hsz⟩ := hv
  have hts : ∀ w ∈ pm_WT, w.before (([.ref (g (1000002 + j))] : List Value).toArray) s = true := fun w hw => atoms_spec (ws := Cond.code yJ0_length_8abf5 cJ0_length_8abf5 1 (some .int) :: pm_WT) B.pre w (List.mem_cons_of_mem _ hw)
  have hown := findClass_of_methodNamed B.named
  have hlocks := B.notSynchronized
  have hr := B.returns
  have hb := B.bytes
  have hx := B.exec
  rw [lg_entry_eq]
  have hS : va_S (fun q => b ≤ q) s.heap s.heap [] := va_S.rf
  have hj := pm_str_lt hq
  obtain ⟨c1, c2, c3⟩ := px_chk_of hq
  have hT := (hE.2.2.2.2.1.1 j hj).2.2.2
  have el : pm_len.getD j 0 = q.2.2.length := by unfold pm_len; rw [List.getD_eq_getElem?_getD, List.getElem?_map, hq]; rfl
  rw [el] at hT
  refine lv_aload_n hx hb (k := 0) (by decide +kernel) rfl rfl ?_
  refine vk_getf (index := 9) (own := RJ0) (ref := "java/lang/String") hx hb (hE.2.2.2.2.1.1 j hj).2.2.1 hS hown (hts _ (pm_w_in (j := 8145) (by decide +kernel))) (fun _ z => z) (by decide +kernel) ?_
  refine va_tlen hx hb hT hS (v := nI q.2.2.length) rfl (by decide +kernel) ?_
  refine lv_aload_n hx hb (k := 0) (by decide +kernel) rfl rfl ?_
  refine px_jrun hE hR hS (va_runV (index := 335) (C := "java/lang/String") (b := g (1000002 + j)) (As := []) (rest := [.int (nI q.2.2.length)]) ⟨hx, hb, hml, hown, hts⟩ (px_j5 (h := h) hq) ⟨callB_of 0 hts (pm_WT_cons (pm_w_in (j := 4054) (by decide +kernel))) rfl rfl rfl (hts _ (pm_w_in (j := 1014) (by decide +kernel))) (hts _ (pm_w_in (j := 4051) (by decide +kernel))) (by decide +kernel) ⟨by decide, by decide⟩, (hts _ (pm_w_in (j := 4052) (by decide +kernel))), (hts _ (pm_w_in (j := 4053) (by decide +kernel)))⟩ ⟨pm_B_blind, vk_recv (N := 12) (len := pm_len) (byt := pm_byt) (adK := fun j => g (1000002 + j)) (adV := adV) (i := j) hE.2.2.2.2.1 hj hS, px_PreB hE hR hS⟩ rfl rfl rfl rfl (lv_room (show _ ≤ 8 from (by first | exact Nat.zero_le 8 | exact (show 1 + 0 ≤ 8 by decide)))) (show decode cJ0_length_8abf5 6 = .ok (.invokevirtual 335, 3) by decide +kernel) ⟨Nat.le_refl 0, Nat.le_refl 0⟩) ?_
  clear hR hS
  intro H locs hR hS
  refine lv_ishr hx hb (by decide +kernel) ?_
  rw [c1]
  exact W.zret (ty := .int) hx hb hr rfl (fun t ht hW => ⟨⟨some _, h, rfl, ⟨rfl, rfl⟩, rfl, by rw [ht]; exact hR⟩, hS.F ht⟩) hS.2.2 (by decide +kernel)
set_option maxRecDepth 20000 in
theorem px_j7 {j : Nat} {q : String × Nat × String} (hq : pm_str[j]? = some q) {i : Int32} (hi : vp_in i q.2.2.length) {h : pmH} : px_M l D ct b g adV yJ0_charAt_5068e cJ0_charAt_5068e 2 (some .char) 20 [.ref (g (1000002 + j)), .int i] h (some (.int (nI ((q.2.2.toList.getD i.toNatClampNeg 'a').toNat)))) := by
  unfold px_M
  refine Met.ofW (cc := cJ0_charAt_5068e) (maxL := 2) (ret := some .char) (by decide +kernel) rfl ?_
  intro p en s m args below meth c s₁ B hml hv
  obtain ⟨rfl, hE, hR, hsz⟩ := hv
  have hts : ∀ w ∈ pm_WT, w.before (([.ref (g (1000002 + j)), .int i] : List Value).toArray) s = true := fun w hw => atoms_spec (ws := Cond.code yJ0_charAt_5068e cJ0_charAt_5068e 2 (some .char) :: pm_WT) B.pre w (List.mem_cons_of_mem _ hw)
  have hown := findClass_of_methodNamed B.named
  have hlocks := B.notSynchronized
  have hr := B.returns
  have hb := B.bytes
  have hx := B.exec
  rw [lg_entry_eq]
  have hS : va_S (fun q => b ≤ q) s.heap s.heap [] := va_S.rf
  have hj := pm_str_lt hq
  obtain ⟨c1, c2, c3⟩ := px_chk_of hq
  have hlt : i.toNatClampNeg < q.2.2.length := Nat.not_le.mp fun z => hi (Or.inr z)
  refine lv_aload_n hx hb (k := 0) (by decide +kernel) rfl rfl ?_
  refine px_jrun hE hR hS (va_runV (index := 492) (C := "java/lang/String") (b := g (1000002 + j)) (As := []) (rest := []) ⟨hx, hb, hml, hown, hts⟩ (px_j4 (h := h) hq) ⟨callB_of 0 hts (pm_WT_cons (pm_w_in (j := 4067) (by decide +kernel))) rfl rfl rfl (hts _ (pm_w_in (j := 1014) (by decide +kernel))) (hts _ (pm_w_in (j := 4064) (by decide +kernel))) (by decide +kernel) ⟨by decide, by decide⟩, (hts _ (pm_w_in (j := 4065) (by decide +kernel))), (hts _ (pm_w_in (j := 4066) (by decide +kernel)))⟩ ⟨pm_B_blind, vk_recv (N := 12) (len := pm_len) (byt := pm_byt) (adK := fun j => g (1000002 + j)) (adV := adV) (i := j) hE.2.2.2.2.1 hj hS, px_PreB hE hR hS⟩ rfl rfl rfl rfl (lv_room (show _ ≤ 8 from (by first | exact Nat.zero_le 8 | exact (show 1 + 0 ≤ 8 by decide)))) (show decode cJ0_charAt_5068e 1 = .ok (.invokevirtual 492, 3) by decide +kernel) ⟨Nat.le_refl 0, Nat.le_refl 0⟩) ?_
  clear hR hS
  intro H locs hR hS
  refine lv_if_eq hx hb (off := 12) (tgt := 16) (by decide +kernel) rfl (fun z => absurd z (by decide)) (fun _ => ?_)
  refine lv_aload_n hx hb (k := 0) (by decide +kernel) rfl rfl ?_
  refine vk_getf (index := 9) (own := RJ0) (ref := "java/lang/String") hx hb (hE.2.2.2.2.1.1 j hj).2.2.1 hS hown (hts _ (pm_w_in (j := 8145) (by decide +kernel))) (fun _ z => z) (by decide +kernel) ?_
  refine lv_iload_n hx hb (k := 1) (by decide +kernel) rfl rfl ?_
  refine px_jrun hE hR hS (va_runS (index := 495) (As := [.ref (adV j), .int i]) (rest := []) ⟨hx, hb, hml, hown, hts⟩ (px_j3 (h := h) hq hi) ⟨callB_of 2 hts (pm_WT_cons (pm_w_in (j := 4070) (by decide +kernel))) rfl rfl rfl (hts _ (pm_w_in (j := 1015) (by decide +kernel))) (hts _ (pm_w_in (j := 4068) (by decide +kernel))) (by decide +kernel) ⟨by decide, by decide⟩, (hts _ (pm_w_in (j := 4069) (by decide +kernel)))⟩ ⟨pm_B_blind, px_PreB hE hR hS⟩ rfl rfl rfl rfl (lv_room (by decide)) (show decode cJ0_charAt_5068e 12 = .ok (.invokestatic 495, 3) by decide +kernel) ⟨Nat.le_refl 0, Nat.le_refl 0⟩) ?_
  clear hR hS
  intro H locs hR hS
  exact W.zret (ty := .char) hx hb hr (c3 _ hlt).2 (fun t ht hW => ⟨⟨some _, h, rfl, ⟨rfl, rfl⟩, rfl, by rw [ht]; exact hR⟩, hS.F ht⟩) hS.2.2 (by decide +kernel)
theorem px_Str : pm_Str l D ct b g adV := by
  refine ⟨⟨pm_w_in (j := 4050) (by decide +kernel), pm_w_in (j := 4048) (by decide +kernel), pm_w_in (j := 4049) (by decide +kernel), pm_w_in (j := 1014) (by decide +kernel), pm_w_in (j := 4063) (by decide +kernel), pm_w_in (j := 4061) (by decide +kernel), pm_w_in (j := 4062) (by decide +kernel)⟩, fun j q hq h => ⟨?_, fun i hi => ?_⟩⟩
  · have K := px_j6 (l := l) (D := D) (ct := ct) (b := b) (g := g) (adV := adV) (h := h) hq
    unfold px_M px_Q at K
    exact K
  · have K := px_j7 (l := l) (D := D) (ct := ct) (b := b) (g := g) (adV := adV) (h := h) hq hi
    unfold px_M px_Q at K
    exact K
end PJ
