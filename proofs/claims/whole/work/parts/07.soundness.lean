/-! SOUNDNESS, four: a step of the pure machine is a step of the machine; a pure run is a contract. -/
section PME
variable {p : Program} {l : Launch} {e : Env} {R : Room} {s : State} {m : MethodId} {args : Array Value} {below : List Frame} {meth : Method} {c : Code} {Qf : State → Prop}
variable {D : va_G} {ct : Nat → ClassId} {b : Nat} {g adV : Nat → Nat} {nL N0 xo : Nat} {cc : ByteArray} {own nm : String} {ex : Bool} {Nx Sx d : Nat}
theorem pm_1i_of {st : List Value} {k : Int32 → List Value → Prop} (h : pm_1i st k) : ∃ x r, st = .int x :: r ∧ k x r := by
  unfold pm_1i at h; split at h
  · exact ⟨_, _, rfl, h⟩
  · exact h.elim
theorem pm_2i_of {st : List Value} {k : Int32 → Int32 → List Value → Prop} (h : pm_2i st k) : ∃ x y r, st = .int y :: .int x :: r ∧ k x y r := by
  unfold pm_2i at h; split at h
  · exact ⟨_, _, _, rfl, h⟩
  · exact h.elim
theorem pm_2l_of {st : List Value} {k : Int64 → Int64 → List Value → Prop} (h : pm_2l st k) : ∃ x y r, st = .long y :: .long x :: r ∧ k x y r := by
  unfold pm_2l at h; split at h
  · exact ⟨_, _, _, rfl, h⟩
  · exact h.elim
theorem pm_1a_of {st : List Value} {k : Nat → List Value → Prop} (h : pm_1a st k) : ∃ x r, st = .ref x :: r ∧ k x r := by
  unfold pm_1a at h; split at h
  · exact ⟨_, _, rfl, h⟩
  · exact h.elim
theorem pm_ia_of {st : List Value} {k : Int32 → Nat → List Value → Prop} (h : pm_ia st k) : ∃ i a r, st = .int i :: .ref a :: r ∧ k i a r := by
  unfold pm_ia at h; split at h
  · exact ⟨_, _, _, rfl, h⟩
  · exact h.elim
theorem pm_iia_of {st : List Value} {k : Int32 → Int32 → Nat → List Value → Prop} (h : pm_iia st k) : ∃ x i a r, st = .int x :: .int i :: .ref a :: r ∧ k x i a r := by
  unfold pm_iia at h; split at h
  · exact ⟨_, _, _, _, rfl, h⟩
  · exact h.elim
theorem pm_lia_of {st : List Value} {k : Int64 → Int32 → Nat → List Value → Prop} (h : pm_lia st k) : ∃ x i a r, st = .long x :: .int i :: .ref a :: r ∧ k x i a r := by
  unfold pm_lia at h; split at h
  · exact ⟨_, _, _, _, rfl, h⟩
  · exact h.elim
theorem pm_va_of {st : List Value} {k : Value → Nat → List Value → Prop} (h : pm_va st k) : ∃ v a r, st = v :: .ref a :: r ∧ k v a r := by
  unfold pm_va at h; split at h
  · exact ⟨_, _, _, rfl, h⟩
  · exact h.elim
theorem pm_s1_of {st : List Value} {k : Value → List Value → Prop} (h : pm_s1 st k) : ∃ x r, st = x :: r ∧ k x r := by
  unfold pm_s1 at h; split at h
  · exact ⟨_, _, rfl, h⟩
  · exact h.elim
theorem pm_s2_of {st : List Value} {k : Value → Value → List Value → Prop} (h : pm_s2 st k) : ∃ x y r, st = y :: x :: r ∧ k x y r := by
  unfold pm_s2 at h; split at h
  · exact ⟨_, _, _, rfl, h⟩
  · exact h.elim
theorem pm_ri_of {st : List Value} {k : Int32 → Prop} (h : pm_ri st k) : ∃ x, st = [.int x] ∧ k x := by
  unfold pm_ri at h; split at h
  · exact ⟨_, rfl, h⟩
  · exact h.elim
theorem pm_ra_of {st : List Value} {k : Nat → Prop} (h : pm_ra st k) : ∃ x, st = [.ref x] ∧ k x := by
  unfold pm_ra at h; split at h
  · exact ⟨_, rfl, h⟩
  · exact h.elim
theorem pm_rn_of {st : List Value} {k : Prop} (h : pm_rn st k) : st = [] ∧ k := by
  unfold pm_rn at h; split at h
  · exact ⟨rfl, h⟩
  · exact h.elim
theorem pm_ird_of {ro : pmRO} {h : pmH} {a : Nat} {k : Nat → (Nat → Int32) → Prop} (q : pm_ird ro h a k) : (∃ n f, h[a]? = some (.inl (0, n, .inl f)) ∧ k n f) ∨ ∃ n f, ro a = some (n, f) ∧ k n f := by
  unfold pm_ird at q; split at q
  · rename_i n f hx
    exact Or.inl ⟨n, f, hx, q⟩
  · exact q.elim
  · split at q
    · rename_i x hx
      exact Or.inr ⟨x.1, x.2, hx, q⟩
    · exact q.elim
theorem pm_aln_of {ro : pmRO} {h : pmH} {a : Nat} {k : Nat → Prop} (q : pm_aln ro h a k) : (∃ x, h[a]? = some (.inl x) ∧ x.1 < 4 ∧ k x.2.1) ∨ ∃ n f, ro a = some (n, f) ∧ k n := by
  unfold pm_aln at q; split at q
  · rename_i x hx
    exact Or.inl ⟨x, hx, q⟩
  · exact q.elim
  · split at q
    · rename_i x hx
      exact Or.inr ⟨x.1, x.2, hx, q⟩
    · exact q.elim
theorem pm_cp_of {st : List Value} {k : Int32 → Int32 → Nat → Int32 → Nat → List Value → Prop} (h : pm_cp st k) : ∃ n dp a sp a0 r, st = .int n :: .int dp :: .ref a :: .int sp :: .ref a0 :: r ∧ k n dp a sp a0 r := by
  unfold pm_cp at h; split at h
  · exact ⟨_, _, _, _, _, _, rfl, h⟩
  · exact h.elim
theorem pm_ldi_of {lv : pmL} {i : Nat} {k : Int32 → Prop} (h : pm_ldi lv i k) : ∃ x, lv[i]? = some (some (.int x)) ∧ k x := by
  unfold pm_ldi at h; split at h
  · exact ⟨_, by assumption, h⟩
  · exact h.elim
theorem pm_lda_of {lv : pmL} {i : Nat} {k : Nat → Prop} (h : pm_lda lv i k) : ∃ x, lv[i]? = some (some (.ref x)) ∧ k x := by
  unfold pm_lda at h; split at h
  · exact ⟨_, by assumption, h⟩
  · exact h.elim
theorem pm_obj_of {h : pmH} {a ci : Nat} {k : List Value → Prop} (q : pm_obj h a ci k) : ∃ fs, h[a]? = some (.inr (ci, fs)) ∧ k fs := by
  unfold pm_obj at q; split at q
  · rename_i x hx
    obtain ⟨rfl, q⟩ := q
    exact ⟨_, hx, q⟩
  · exact q.elim
theorem pm_arr_of {h : pmH} {a : Nat} {k : Nat → Nat → (Nat → Int32) → Prop} (q : pm_arr h a k) : ∃ t n f, h[a]? = some (.inl (t, n, .inl f)) ∧ k t n f := by
  unfold pm_arr at q; split at q
  · rename_i hx
    exact ⟨_, _, _, hx, q⟩
  · exact q.elim
theorem pm_arl_of {h : pmH} {a : Nat} {k : Nat → (Nat → Int64) → Prop} (q : pm_arl h a k) : ∃ n f, h[a]? = some (.inl (3, n, .inr (.inl f))) ∧ k n f := by
  unfold pm_arl at q; split at q
  · rename_i hx
    obtain ⟨rfl, q⟩ := q
    exact ⟨_, _, hx, q⟩
  · exact q.elim
theorem pm_opt_of {α : Type} {o : Option α} {k : α → Prop} (q : pm_opt o k) : ∃ x, o = some x ∧ k x := by
  unfold pm_opt at q; split at q
  · exact ⟨_, rfl, q⟩
  · exact q.elim
theorem pm_sw_of {x : Int32} {k : Nat → Prop} {dt : Nat} : ∀ (ts : List Nat) (a : Nat), a + ts.length < 2147483647 → pm_sw x k dt (nI a) ts → (∀ j t, ts[j]? = some t → x = nI (a + j) → k t) ∧ ((∀ j, j < ts.length → ¬ x = nI (a + j)) → k dt)
  | [], a, _, h => ⟨fun j t q => by simp at q, fun _ => h⟩
  | t :: ts, a, hl, h => by
    have hl' : a + 1 + ts.length < 2147483647 := by
      rw [List.length_cons] at hl
      omega
    obtain ⟨h1, h2⟩ := h
    rw [nI_1] at h2
    refine ⟨fun j t' q e => ?_, fun hno => ?_⟩
    · cases j with
      | zero =>
        have : t = t' := by simpa using q
        subst this
        exact h1 e
      | succ j =>
        have q : ts[j]? = some t' := by simpa using q
        have hj : j < ts.length := (List.getElem?_eq_some_iff.mp q).1
        have hne : ¬ x = nI a := by
          rw [e]
          intro z
          have := (nI_eq (by omega) (by omega)).mp z
          omega
        exact (pm_sw_of ts (a + 1) hl' (h2 hne)).1 j t' q (by rw [e]; congr 1; omega)
    · have hne : ¬ x = nI a := by
        have := hno 0 (by simp)
        rwa [Nat.add_zero] at this
      exact (pm_sw_of ts (a + 1) hl' (h2 hne)).2 (fun j hj => by
        have := hno (j + 1) (by simpa using hj)
        rwa [show a + (j + 1) = a + 1 + j by omega] at this)
theorem pm_ck1 {mt : List pmE} {pc : Nat} {i : Instr} {len : Nat} {cv : Int32} {r : List Nat} (h : decide (len = 1) = true) : len = 1 := by simpa using h
theorem pm_tgt {pc t : Nat} {off : Int} {len : Nat} (h : (decide (len = 3) && decide ((pc : Int) + off = (t : Int))) = true) : len = 3 ∧ (pc : Int) + off = (t : Int) := by simpa using h
/-- what is asked of a return -/
def pm_Ret (p : Program) (l : Launch) (e : Env) (R : Room) (s : State) (m : MethodId) (args : Array Value) (below : List Frame) (meth : Method) (c : Code) (Qf : State → Prop) (D : va_G) (ct : Nat → ClassId) (b : Nat) (g : Nat → Nat) (N0 xo : Nat) (cc : ByteArray) (Nx Sx : Nat) (Q : pmQ) (rt : Option FieldType) : Prop :=
  ∀ (ov : Option Value) (pc : Nat) (h : pmH) (us : Nat) (H : Heap) (locs : List Loc) (ls : Array Slot), ((∃ x, ov = some (.int x) ∧ decode cc pc = .ok (.ireturn, 1) ∧ pm_rk rt (.int x)) ∨ (∃ a, ov = some (.ref a) ∧ decode cc pc = .ok (.areturn, 1) ∧ pm_rk rt (.ref a)) ∨ (ov = none ∧ decode cc pc = .ok (.return_, 1) ∧ rt = none)) → h.length = Nx → us ≤ Sx → Q ov h → pm_Rl D ct b g h H → va_S (fun q => b ≤ q) s.heap H locs → W p l e R s m args below meth c H locs (h.length - N0 + xo) us Qf (F0 m pc ls (ov.toList.map (pm_mv g)))
theorem pm_str_lt {j : Nat} {q : String × Nat × String} (h : pm_str[j]? = some q) : j < 12 := (List.getElem?_eq_some_iff.mp h).1
/-- what is asked of a throw: a point where the class makes an exception and throws it -/
def pm_Thr (p : Program) (l : Launch) (e : Env) (R : Room) (s : State) (m : MethodId) (args : Array Value) (below : List Frame) (meth : Method) (c : Code) (Qf : State → Prop) (D : va_G) (ct : Nat → ClassId) (b : Nat) (g : Nat → Nat) (nL N0 xo : Nat) (L : List (Option pmI)) (Nx Sx : Nat) (Q : pmQ) : Prop :=
  ∀ (pc j len k : Nat) (cv : Int32) (t : List Nat) (lv : pmL) (st : List Value) (h : pmH) (us : Nat), L[pc]? = some (some (.new j, len, cv, 99 :: k :: t)) → st = [] → h.length = Nx → us ≤ Sx → Q (some (.retAddr k)) h → pm_Sem p l e R s m args below meth c Qf D ct b g nL N0 xo pc lv st h us
theorem pm_sq_of {a : Nat} {q : String × Nat × String} (h : pm_sq a = some q) : ∃ j, a = 1000002 + j ∧ pm_str[j]? = some q := by
  unfold pm_sq at h
  split at h
  · exact ⟨a - 1000002, by omega, h⟩
  · cases h
set_option maxHeartbeats 4000000 in
set_option maxRecDepth 20000 in
theorem pm_c_str (I : pm_In p R s m args meth c D ct b g adV nL N0 xo cc own nm ex Nx Sx d) (hStr : pm_Str l D ct b g adV) {pc j a : Nat} {lv : pmL} {h : pmH} {us : Nat} {rest : List Value} {q : String × Nat × String} (hd : decode cc pc = .ok (.invokevirtual j, 3)) (hw : Cond.methodLink own j yJ0_length_8abf5 ∈ pm_WT) (hq : pm_sq a = some q) (hcat : pm_cat rest ≤ 8) (h1 : h.length + xo ≤ N0 + R.cells) (h2 : us ≤ R.slots)
    (kk : pm_Sem p l e R s m args below meth c Qf D ct b g nL N0 xo (pc + 3) lv (.int (nI q.2.2.length) :: rest) h us) : pm_Sem p l e R s m args below meth c Qf D ct b g nL N0 xo pc lv (.ref a :: rest) h us := by
  obtain ⟨k, rfl, hk⟩ := pm_sq_of hq
  have I2 := I
  obtain ⟨hx, hb, hml, hown, hts, hE, hnm, hg, hsz, hNx, hSx, hf, hlo⟩ := I
  obtain ⟨⟨w1, w2, w3, w4, -⟩, hS1⟩ := hStr
  refine pm_c_run I2 (mc := 0) (ms := 0) (Post := fun v h' => v = some (.int (nI q.2.2.length)) ∧ h' = h) hcat h1 h2 (fun H locs ls hR hS hsl hsz1 hfit => ?_) (fun v h' _ hp => ?_)
  · refine ⟨_, va_runV (C := "java/lang/String") (b := g (1000002 + k)) (As := []) ⟨hx, hb, hml, hown, hts⟩ (hS1 k q hk h).1 ⟨callB_of 0 hts (pm_WT_cons w1) rfl rfl rfl (hts _ w4) (hts _ hw) (by decide +kernel) ⟨pm_arf (Nat.zero_le d) hf, pm_room1 (Nat.zero_le d) (by decide) hlo⟩, hts _ w2, hts _ w3⟩ ⟨pm_B_blind, vk_recv (N := 12) (len := pm_len) (byt := pm_byt) (adK := fun j => g (1000002 + j)) (adV := adV) (i := k) hE.2.2.2.2.1 (pm_str_lt hk) hS, pm_PreB I2 hR hS (fun z => by cases z)⟩ rfl rfl hsl rfl (lv_room (by rw [pm_cat_map]; exact hcat)) hd hfit⟩
  · obtain ⟨rfl, rfl⟩ := hp
    exact kk
set_option maxHeartbeats 4000000 in
set_option maxRecDepth 20000 in
theorem pm_c_chr (I : pm_In p R s m args meth c D ct b g adV nL N0 xo cc own nm ex Nx Sx d) (hStr : pm_Str l D ct b g adV) {pc j a : Nat} {i : Int32} {lv : pmL} {h : pmH} {us : Nat} {rest : List Value} {q : String × Nat × String} (hd : decode cc pc = .ok (.invokevirtual j, 3)) (hw : Cond.methodLink own j yJ0_charAt_5068e ∈ pm_WT) (hq : pm_sq a = some q) (hi : vp_in i q.2.2.length) (hcat : pm_cat rest ≤ 8) (h1 : h.length + xo ≤ N0 + R.cells) (h2 : us ≤ R.slots)
    (kk : pm_Sem p l e R s m args below meth c Qf D ct b g nL N0 xo (pc + 3) lv (.int (nI ((q.2.2.toList.getD i.toNatClampNeg 'a').toNat)) :: rest) h us) : pm_Sem p l e R s m args below meth c Qf D ct b g nL N0 xo pc lv (.int i :: .ref a :: rest) h us := by
  obtain ⟨k, rfl, hk⟩ := pm_sq_of hq
  have I2 := I
  obtain ⟨hx, hb, hml, hown, hts, hE, hnm, hg, hsz, hNx, hSx, hf, hlo⟩ := I
  obtain ⟨⟨-, -, -, w4, w5, w6, w7⟩, hS1⟩ := hStr
  refine pm_c_run I2 (mc := 0) (ms := 0) (Post := fun v h' => v = some (.int (nI ((q.2.2.toList.getD i.toNatClampNeg 'a').toNat))) ∧ h' = h) hcat h1 h2 (fun H locs ls hR hS hsl hsz1 hfit => ?_) (fun v h' _ hp => ?_)
  · refine ⟨_, va_runV (C := "java/lang/String") (b := g (1000002 + k)) (As := [.int i]) ⟨hx, hb, hml, hown, hts⟩ ((hS1 k q hk h).2 i hi) ⟨callB_of 1 hts (pm_WT_cons w5) rfl rfl rfl (hts _ w4) (hts _ hw) (by decide +kernel) ⟨pm_arf (Nat.zero_le d) hf, pm_room1 (Nat.zero_le d) (by decide) hlo⟩, hts _ w6, hts _ w7⟩ ⟨pm_B_blind, vk_recv (N := 12) (len := pm_len) (byt := pm_byt) (adK := fun j => g (1000002 + j)) (adV := adV) (i := k) hE.2.2.2.2.1 (pm_str_lt hk) hS, pm_PreB I2 hR hS (fun z => by cases z)⟩ rfl rfl hsl rfl (lv_room (by rw [pm_cat_map]; exact hcat)) hd hfit⟩
  · obtain ⟨rfl, rfl⟩ := hp
    exact kk
end PME
section PMF
variable {p : Program} {l : Launch} {e : Env} {R : Room} {s : State} {m : MethodId} {args : Array Value} {below : List Frame} {meth : Method} {c : Code} {Qf : State → Prop}
variable {D : va_G} {ct : Nat → ClassId} {b : Nat} {g adV : Nat → Nat} {nL N0 xo : Nat} {cc : ByteArray} {own nm : String} {ex : Bool} {Nx Sx d : Nat}
theorem pm_lvl {lv : pmL} {i : Nat} {x : Value} {ls : Array Slot} (hL : pm_ls g nL lv ls) (h : lv[i]? = some (some x)) : ls[i]? = some (.val (pm_mv g x)) := (hL.2.2.2 i x h).2
theorem pm_sw_at {x : Int32} {pc a dt : Nat} {dd hi : Int} {offs : Array Int} {ts : List Nat} (h1 : offs.toList.map (fun o => (pc : Int) + o) = ts.map (fun (t : Nat) => (t : Int))) {j : Nat} (hj : j < ts.length) : ∃ off, offs[j]? = some off ∧ (pc : Int) + off = ((ts[j]'hj : Nat) : Int) := by
  have e := congrArg (fun l => l[j]?) h1
  simp only [List.getElem?_map, List.getElem?_eq_getElem hj, Option.map_some] at e
  cases ho : offs.toList[j]? with
  | none => rw [ho] at e; cases e
  | some off =>
    rw [ho] at e
    exact ⟨off, by rw [← Array.getElem?_toList]; exact ho, Option.some.inj e⟩
set_option maxHeartbeats 4000000 in
set_option maxRecDepth 20000 in
theorem pm_c_sw (I : pm_In p R s m args meth c D ct b g adV nL N0 xo cc own nm ex Nx Sx d) {pc a dt len : Nat} {dd lo hi : Int} {offs : Array Int} {ts : List Nat} {lv : pmL} {h : pmH} {us : Nat} {x : Int32} {rest : List Value} (hd : decode cc pc = .ok (.tableswitch dd lo hi offs, len)) (h0 : lo = (a : Int)) (h1 : (pc : Int) + dd = (dt : Int)) (h2 : offs.toList.map (fun o => (pc : Int) + o) = ts.map (fun (t : Nat) => (t : Int))) (h3 : hi + 1 = ((a + ts.length : Nat) : Int)) (h4 : a + ts.length < 2147483647)
    (kk : pm_sw x (fun t => pm_Sem p l e R s m args below meth c Qf D ct b g nL N0 xo t lv rest h us) dt (nI a) ts) : pm_Sem p l e R s m args below meth c Qf D ct b g nL N0 xo pc lv (.int x :: rest) h us := by
  obtain ⟨hx, hb, -⟩ := I
  obtain ⟨k1, k2⟩ := pm_sw_of ts a h4 kk
  intro H locs ls hR hS hL hN
  by_cases hin : lo ≤ x.toInt ∧ x.toInt ≤ hi
  · obtain ⟨q1, q2⟩ := hin
    have hj : (x.toInt - lo).toNat < ts.length := by omega
    obtain ⟨off, ho, ht⟩ := pm_sw_at (dd := dd) (hi := hi) (x := x) (a := a) (dt := dt) h2 hj
    have ex : x = nI (a + (x.toInt - lo).toNat) := by
      apply Int32.toInt_inj.mp
      rw [nI_toInt (by omega)]
      omega
    exact lv_tableIn hx hb hd (by omega) (by omega) ho ht (k1 _ _ (List.getElem?_eq_getElem hj) ex H locs ls hR hS hL hN)
  · refine lv_tableOut hx hb hd (by omega) h1 (k2 (fun j hj e => hin ?_) H locs ls hR hS hL hN)
    rw [e, nI_toInt (by omega)]
    omega
set_option maxHeartbeats 4000000 in
set_option maxRecDepth 20000 in
theorem pm_c_cpy (I : pm_In p R s m args meth c D ct b g adV nL N0 xo cc own nm ex Nx Sx d) {pc j a a0 n0 n1 : Nat} {f gg : Nat → Int32} {sp dp n : Int32} {lv : pmL} {h : pmH} {us : Nat} {rest : List Value} (hd : decode cc pc = .ok (.invokestatic j, 3)) (w1 : Cond.methodLink own j arraycopyName ∈ pm_WT) (w2 : Cond.native arraycopyName ∈ pm_WT) (w3 : Cond.static arraycopyName ∈ pm_WT) (w4 : Cond.initialized "java/lang/System" ∈ pm_WT) (ha0 : h[a0]? = some (.inl (0, n0, .inl f))) (ha : h[a]? = some (.inl (0, n1, .inl gg))) (hcat : pm_cat rest ≤ 8) (h1 : ¬ sp < 0) (h2 : ¬ dp < 0) (h3 : ¬ n < 0) (h4 : sp.toNatClampNeg + n.toNatClampNeg ≤ n0) (h5 : dp.toNatClampNeg + n.toNatClampNeg ≤ n1)
    (kk : pm_Sem p l e R s m args below meth c Qf D ct b g nL N0 xo (pc + 3) lv rest (h.set a (.inl (0, n1, .inl (va_cpy f gg sp.toNatClampNeg dp.toNatClampNeg n.toNatClampNeg)))) us) : pm_Sem p l e R s m args below meth c Qf D ct b g nL N0 xo pc lv (.int n :: .int dp :: .ref a :: .int sp :: .ref a0 :: rest) h us := by
  obtain ⟨hx, hb, hml, hown, hts, hE, hnm, hg, hsz, hNx, hSx, hf, hlo⟩ := I
  intro H locs ls hR hS hL hN
  show W p l e R s m args below meth c H locs (h.length - N0 + xo) us Qf (F0 m pc ls (.int n :: .int dp :: .ref (g a) :: .int sp :: .ref (g a0) :: rest.map (pm_mv g)))
  rw [pm_ga hg hR ha, pm_ga hg hR ha0]
  refine va_copyi hx hb (by rw [hml, hL.2.1]) hown (hts _ w1) (hts _ w2) (hts _ w3) (hts _ w4) hE.1 hR.2 (pm_ws_D b ct g h) hS a0 a 0 0 (pm_ws_at ha0) (pm_ws_at ha) rfl rfl rfl h1 h2 h3 h4 h5 (fun _ _ => rfl) (by omega) ?_ hd fun H1 locs1 hP1 _ hS1 => ?_
  · rw [pm_cat_map]
    have : nativeFrameWords "java/lang/System" "arraycopy" 5 ≤ 1000 := by decide +kernel
    omega
  · have := kk H1 locs1 ls (pm_Rl_set hR.1 hP1) hS1 hL (by rw [List.length_set]; exact hN)
    rw [List.length_set] at this
    exact this
set_option maxHeartbeats 4000000 in
set_option maxRecDepth 20000 in
theorem pm_c_mm (I : pm_In p R s m args meth c D ct b g adV nL N0 xo cc own nm ex Nx Sx d) {pc j : Nat} {x y : Int32} {lv : pmL} {h : pmH} {us : Nat} {rest : List Value} (hd : decode cc pc = .ok (.invokestatic j, 3)) (hcat : pm_cat rest ≤ 8) :
    ((Cond.methodLink own j Lib.Math.max.name ∈ pm_WT ∧ Cond.static Lib.Math.max.name ∈ pm_WT ∧ Cond.initialized "java/lang/Math" ∈ pm_WT ∧ Cond.code Lib.Math.max.name Lib.Math.max.code 2 (some .int) ∈ pm_WT) → pm_Sem p l e R s m args below meth c Qf D ct b g nL N0 xo (pc + 3) lv (.int (if x < y then y else x) :: rest) h us → pm_Sem p l e R s m args below meth c Qf D ct b g nL N0 xo pc lv (.int y :: .int x :: rest) h us) ∧
    ((Cond.methodLink own j Lib.Math.min.name ∈ pm_WT ∧ Cond.static Lib.Math.min.name ∈ pm_WT ∧ Cond.initialized "java/lang/Math" ∈ pm_WT ∧ Cond.code Lib.Math.min.name Lib.Math.min.code 2 (some .int) ∈ pm_WT) → pm_Sem p l e R s m args below meth c Qf D ct b g nL N0 xo (pc + 3) lv (.int (if y < x then y else x) :: rest) h us → pm_Sem p l e R s m args below meth c Qf D ct b g nL N0 xo pc lv (.int y :: .int x :: rest) h us) := by
  obtain ⟨hx, hb, hml, hown, hts, hE, hnm, hg, hsz, hNx, hSx, hf, hlo⟩ := I
  refine ⟨fun ⟨w1, w2, w3, w4⟩ kk => ?_, fun ⟨w1, w2, w3, w4⟩ kk => ?_⟩
  · intro H locs ls hR hS hL hN
    exact va_mmax hx hb (by rw [hml, hL.2.1]) hown (hts _ w1) (hts _ w2) (hts _ w3) (hts _ w4) (by omega) (by rw [pm_cat_map]; omega) (by omega) hN.2.2 hd (kk H locs ls hR hS hL hN)
  · intro H locs ls hR hS hL hN
    exact va_mmin hx hb (by rw [hml, hL.2.1]) hown (hts _ w1) (hts _ w2) (hts _ w3) (hts _ w4) (by omega) (by rw [pm_cat_map]; omega) (by omega) hN.2.2 hd (kk H locs ls hR hS hL hN)
set_option maxRecDepth 20000 in
theorem pm_c_oi (I : pm_In p R s m args meth c D ct b g adV nL N0 xo cc own nm ex Nx Sx d) {pc j a : Nat} {lv : pmL} {h : pmH} {us : Nat} {rest : List Value} (hd : decode cc pc = .ok (.invokespecial j, 3)) (hcat : pm_cat rest ≤ 8) (w1 : Cond.methodLink own j Lib.objectInit ∈ pm_WT) (w2 : Cond.instanceMethod Lib.objectInit ∈ pm_WT) (w3 : Cond.code Lib.objectInit ⟨#[0xb1]⟩ 1 none ∈ pm_WT) (kk : pm_Sem p l e R s m args below meth c Qf D ct b g nL N0 xo (pc + 3) lv rest h us) : pm_Sem p l e R s m args below meth c Qf D ct b g nL N0 xo pc lv (.ref a :: rest) h us := by
  obtain ⟨hx, hb, hml, hown, hts, hE, hnm, hg, hsz, hNx, hSx, hf, hlo⟩ := I
  intro H locs ls hR hS hL hN
  refine W.objInit hx hb hown (hts _ w1) (hts _ w2) (hts _ w3) rfl (by rw [hml]; exact hL.2.1) rfl hd (by omega) ?_ (kk H locs ls hR hS hL hN)
  show 2 * 0 + ((rest.map (pm_mv g)).map fun v => v.category).sum + 12 ≤ R.locals
  rw [pm_cat_map]
  omega
end PMF
