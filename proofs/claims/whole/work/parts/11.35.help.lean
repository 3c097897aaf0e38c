/-! The law's helpers: a call of the class that may throw, caught. -/
theorem px_ofWH {l : Launch} {y : MethodName} {ws ws' : List Cond} {rm : Room} {Pc : Array Value → State → Prop} {Qc : Array Value → State → Outcome → State → Prop} {mc ms : Nat} {free : Addr → Prop} {cc : ByteArray} {maxL : Nat} {ret : Option FieldType} {hh : List (Nat × Nat × Nat × Nat)}
    (hy : plainName y.cls = true) (hw : ws = Cond.codeWith y cc maxL ret hh :: ws')
    (body : ∀ p e s m args below meth c s₁, BodyLoose p l y (headSpec ws rm) cc maxL ret e s m args below meth c s₁ → c.maxLocals = maxL → Pc args s →
      W p l e (headSpec ws rm).room s m args below meth c s.heap [] 0 0 (MQ below Qc args s mc ms free) (entryFrame m args maxL)) : Met l y ws rm Pc Qc mc ms free := by
  refine MetFree.of_bodyS (code := cc) (maxLocals := maxL) (ret := ret) hy ?_ ?_
  · intro args s m h hn
    obtain ⟨m9, meth, c, hn9, h1, h2, h3, h4, -, h5, h6, -⟩ := Cond.codeWith_spec (atoms_spec (ws := ws) h _ (by rw [hw]; exact List.mem_cons_self))
    cases hn.symm.trans hn9
    exact ⟨meth, c, h1, h2, h3, h4, h5, h6⟩
  · intro p e s m args below meth c s₁ B hml hP _
    have hh0 : s₁.heap = s.heap := by rw [B.state]; rfl
    obtain ⟨t, a1, o, b1, b2, b3⟩ := body p e s m args below meth c s₁ B hml hP s₁ hh0 (Stand.of_body B)
    exact ⟨t, o, a1, b1, b2, ⟨b3.1, b3.2⟩⟩
/-- the law's constants that name the exceptions -/
def px_ct (e : Nat) : Nat := if e = 0 then 13 else if e = 1 then 29 else 84
/-- a handler: it lays the exception by, and returns k -/
def px_hd (cc : ByteArray) (pc j : Nat) (k : Int) : Prop := (∃ n : Fin 4, (n : Nat) = j ∧ decode cc pc = .ok (.astore_n n, 1) ∧ decode cc (pc + 1) = .ok (.iconst k, 1) ∧ decode cc (pc + 1 + 1) = .ok (.ireturn, 1)) ∨ (decode cc pc = .ok (.astore j, 2) ∧ decode cc (pc + 2) = .ok (.iconst k, 1) ∧ decode cc (pc + 2 + 1) = .ok (.ireturn, 1))
/-- what a helper leaves -/
def px_Po (Q : pmQ) (o : Nat) (f : Nat → Int64) (lz : Int32 → Int64) (kx : Nat → Int32) : pmQ := fun v h' => (∃ y h1, Q (some (.int y)) h1 ∧ v = some (.int 0) ∧ h' = h1.set o (.inl (3, 1, .inr (.inl (vp_updL f 0 (lz y)))))) ∨ ∃ e, e ≤ 2 ∧ Q (some (.retAddr e)) h' ∧ v = some (.int (kx e))
section PH
variable {l : Launch} {D : va_G} {ct : Nat → ClassId} {b : Nat} {g adV : Nat → Nat}
set_option maxHeartbeats 8000000 in
set_option maxRecDepth 20000 in
theorem px_help {y : MethodName} {cc : ByteArray} {maxL : Nat} {hh : List (Nat × Nat × Nat × Nat)} {L : List (Option pmI)} {E : pmE} {pcC pcR idx n x o d : Nat} {as xas : List Value} {h : pmH} {Q : pmQ} {kx : Nat → Int32} {lz : Int32 → Int64} {f : Nat → Int64} {fs : List Value}
    (hycls : y.cls = "AdmissionDeskLaw") (G : pm_eG true pm_MT E) (hEcls : E.1.cls = "AdmissionDesk") (hn : E.2.2.2.2.1.getD 1 99 = n) (hkd : E.2.2.2.2.1.getD 0 9 = 0) (hw : Cond.methodLink "AdmissionDeskLaw" idx E.1 ∈ pm_WT) (hStr : pm_Str l D ct b g adV) (hg : ∀ k, k < 1000000 → g k = b + k)
    (hL : pm_cL false pm_MT "AdmissionDeskLaw" y.name cc 0 L = true) (hmL : maxL ≤ 40)
    (hM : vx_Met l E.1 (Cond.code E.1 E.2.1 E.2.2.1 E.2.2.2.1 :: pm_WT) (pm_rm (d + 1) 1 6) (va_Pc ((.ref x :: xas).map (pm_mv g)) (px_B D ct b g adV h)) (pm_Qc D ct b g (h.length + 0) (fun v h' => Q v h' ∧ ∀ k, v ≠ some (.retAddr k))) (px_XC D ct b g (h.length + 0) Q) 1 6 (fun q => b ≤ q))
    (hxl : xas.length = n) (hxo : h[x]? = some (.inr (11, fs))) (hlen : as.length ≤ maxL) (hcat : ∀ v ∈ as, v.category = 1) (hdC : decode cc pcC = .ok (.invokevirtual idx, 3)) (hdR : decode cc pcR = .ok (.ireturn, 1))
    (run1 : ∀ T : pmK, T pcC (as.map some ++ List.replicate (maxL - as.length) none) (xas.reverse ++ [Value.ref x, .int 0, .ref o]) h 0 → pl_W pm_ro0 (pm_Met pm_MT d) (h.length + 0) 0 L T 0 (as.map some ++ List.replicate (maxL - as.length) none) [] h 0)
    (run2 : ∀ (T : pmK) (v : Int32) (h1 : pmH), Q (some (.int v)) h1 → T pcR (as.map some ++ List.replicate (maxL - as.length) none) [.int 0] (h1.set o (.inl (3, 1, .inr (.inl (vp_updL f 0 (lz v)))))) 6 → pl_W pm_ro0 (pm_Met pm_MT d) (h.length + 0) 6 L T (pcC + 3) (as.map some ++ List.replicate (maxL - as.length) none) [.int v, .int 0, .ref o] h1 6)
    (hQi : ∀ v h', Q v h' → (∃ y, v = some (.int y)) ∨ ∃ e, v = some (.retAddr e))
    (hX : ∀ e h', e ≤ 2 → Q (some (.retAddr e)) h' → ∃ (pre : List ExceptionTableEntry) (q : ExceptionTableEntry) (suf : List ExceptionTableEntry) (j : Nat) (k : Int), tableOf hh = pre ++ q :: suf ∧ (∀ z ∈ pre, covers z pcC = false ∨ (e = 0 ∧ z.catchType = 29)) ∧ covers q pcC = true ∧ q.catchType = px_ct e ∧ px_hd cc q.handlerPc j k ∧ j < maxL ∧ Int32.ofInt k = kx e) :
    Met l y (Cond.codeWith y cc maxL (some .int) hh :: pm_WT) (pm_rm (d + 2) 1 6) (va_Pc (as.map (pm_mv g)) (px_B D ct b g adV h)) (pm_Qc D ct b g (h.length + 0) (px_Po Q o f lz kx)) 1 6 (fun q => b ≤ q) := by
  refine px_ofWH (cc := cc) (maxL := maxL) (ret := some .int) (by rw [hycls]; decide +kernel) rfl ?_
  intro p en s m args below meth c s₁ B hml hv
  obtain ⟨rfl, ⟨hEn, hR, hsz⟩, hEv⟩ := hv
  have hts : ∀ w ∈ pm_WT, w.before ((as.map (pm_mv g)).toArray) s = true := fun w hw => atoms_spec (ws := Cond.codeWith y cc maxL (some .int) hh :: pm_WT) B.pre w (List.mem_cons_of_mem _ hw)
  have htab : c.exceptionTable.toList = tableOf hh := vx_table (x := y) B (atoms_spec (ws := Cond.codeWith y cc maxL (some .int) hh :: pm_WT) B.pre _ List.mem_cons_self)
  have hown : s.vm.findClass "AdmissionDeskLaw" = some m.cls := by
    rw [← hycls]
    exact findClass_of_methodNamed B.named
  have hnm := (name_of_methodNamed B.named B.method).1
  have hlocks := B.notSynchronized
  have hr := B.returns
  have hb := B.bytes
  have hx := B.exec
  have mk : ∀ xo sx, h.length + 0 + xo ≤ h.length + 1 → sx ≤ 6 → pm_In p (pm_rm (d + 2) 1 6) s m ((as.map (pm_mv g)).toArray) meth c D ct b g adV maxL h.length xo cc "AdmissionDeskLaw" y.name false (h.length + 0) sx d := fun xo sx h1 h2 =>
    ⟨hx, hb, hml, hown, hts, hEn, fun z => by rw [hnm]; exact z, hg, (fun z => by cases z), h1, h2, by rw [pm_rm_f]; omega, by rw [pm_rm_l]; omega⟩
  have hro : ∀ a n f, pm_ro0 a = some (n, f) → va_T .int (g a) n (fun i => .int (f i)) (fun q => b ≤ q) s s.heap := by
    intro a n f h0
    unfold pm_ro0 at h0
    split at h0
    · rename_i ha
      cases h0
      rw [ha]
      exact hEn.2.1
    · cases h0
  obtain ⟨lv0, hlv⟩ : ∃ z, z = as.map some ++ List.replicate (maxL - as.length) none := ⟨_, rfl⟩
  rw [← hlv] at run1 run2
  obtain ⟨Qf, hQf⟩ : ∃ z, z = MQ below (pm_Qc D ct b g (h.length + 0) (px_Po Q o f lz kx)) ((as.map (pm_mv g)).toArray) s 1 6 (fun q => b ≤ q) := ⟨_, rfl⟩
  have ret : ∀ (k : Int32) (pc : Nat) (h' : pmH) (H : Heap) (locs : List Loc) (ls : Array Slot), decode cc pc = .ok (.ireturn, 1) → h'.length = h.length + 0 → px_Po Q o f lz kx (some (.int k)) h' → pm_Rl D ct b g h' H → va_S (fun q => b ≤ q) s.heap H locs → W p l en (pm_rm (d + 2) 1 6) s m ((as.map (pm_mv g)).toArray) below meth c H locs 1 6 Qf (F0 m pc ls [.int k]) := by
    intro k pc h' H locs ls hd h1 h2 h3 hS
    rw [hQf]
    exact W.zret (ty := .int) hx hb hr rfl (fun t ht hW => ⟨⟨some (.int k), h', h1, h2, rfl, by rw [ht]; exact h3⟩, hS.F ht⟩) hS.2.2 hd
  -- the call
  have call : pm_Sem p l en (pm_rm (d + 2) 1 6) s m ((as.map (pm_mv g)).toArray) below meth c Qf D ct b g maxL h.length 0 pcC lv0 (xas.reverse ++ [Value.ref x, .int 0, .ref o]) h 0 := by
    intro H locs ls hRl hS hLs hN
    have ga : g x = b + x := pm_ga hg hRl hxo
    obtain ⟨Cl, hCl, hCn⟩ : ∃ Cl, pm_cl[11]? = some Cl ∧ Cl.1 = "AdmissionDesk" := ⟨_, rfl, rfl⟩
    obtain ⟨g1, g2, g3, g4, g5, g6, -⟩ := G
    rw [hn] at g4
    have hst : (xas.reverse ++ [Value.ref x, .int 0, .ref o]).map (pm_mv g) = (xas.map (pm_mv g)).reverse ++ Value.ref (b + x) :: [.int 0, .ref (g o)] := by
      rw [List.map_append, List.map_reverse]
      show _ ++ [Value.ref (g x), .int 0, .ref (g o)] = _
      rw [ga]
    have hM' := hM
    rw [List.map_cons, show pm_mv g (.ref x) = .ref (b + x) by show Value.ref (g x) = _; rw [ga]] at hM'
    have hr9 := vx_runV (p := p) (l := l) (e := en) (R := pm_rm (d + 2) 1 6) (s := s) (m := m) (args := (as.map (pm_mv g)).toArray) (below := below) (meth := meth) (c := c) (H := H) (locs := locs) (cells := h.length - h.length + 0) (slots := 0) (C := E.1.cls) (b := b + x) (As := xas.map (pm_mv g)) (rest := [.int 0, .ref (g o)]) (g := F0 m pcC ls ((xas.reverse ++ [Value.ref x, .int 0, .ref o]).map (pm_mv g))) (nL := maxL) ⟨hx, hb, hml, hown, hts⟩ hM' ⟨callB_of n hts (pm_WT_cons g1) rfl rfl rfl (hts _ g2) (hts _ hw) g4 ⟨by rw [pm_rm_f, pm_rm_f]; omega, by rw [pm_rm_l, pm_rm_l]; omega⟩, hts _ (g6 hkd).1, hts _ (g6 hkd).2⟩ ⟨px_B_blind, by rw [hEcls, ← hCn]; exact va_recv hEn.1 hRl.2 hCl (pm_ws_at hxo), fun U hU hW => ⟨rfl, ⟨by rw [hU]; exact hEn.mv hW hS.1 hS.2.1, by rw [hU]; exact hRl, (fun z => by cases z)⟩, by rw [hU]; exact hEv.mv hW hS.2.1⟩⟩ rfl (by rw [List.length_map]; exact hxl) hLs.2.1 hst (lv_room (show 1 + (1 + 0) ≤ 8 by decide)) hdC ⟨by show h.length - h.length + 0 + 1 ≤ 1; omega, Nat.le_refl 6⟩
    intro T hT X
    rcases hr9 T hT X with ⟨v, st₀, t, T', L9, e0, X', hLf, e1, e2, ⟨⟨v', h', hlen', ⟨hp, hnr⟩, hv, hR'⟩, hz, hk⟩, go⟩ | ⟨q, st₀, t, T', L9, E9, ce, e0, X', hLf, e1, e2, ⟨⟨k, h', hlen', hk2, hE9, hQ9, hR'⟩, hz, hk⟩, hce, hcv, hcl, go⟩
    · cases hv
      rw [e0] at hz hk
      have hS' : va_S (fun q => b ≤ q) s.heap T'.heap (locs ++ L9) := ⟨Nat.le_trans hS.1 (by rw [e1]; exact hz), fun q q1 q2 => by
        rw [e1, hk q (Nat.lt_of_lt_of_le q1 hS.1) q2]; exact hS.2.1 q q1 q2, fun q hq => by
        rcases List.mem_append.mp hq with z | z
        · exact hS.2.2 q z
        · exact hLf q z⟩
      rcases hQi _ _ hp with ⟨yv, rfl⟩ | ⟨ev, rfl⟩
      · have hpo : px_Po Q o f lz kx (some (.int 0)) (h'.set o (.inl (3, 1, .inr (.inl (vp_updL f 0 (lz yv)))))) := Or.inl ⟨yv, h', hp, rfl, rfl⟩
        have K2 : pm_Sem p l en (pm_rm (d + 2) 1 6) s m ((as.map (pm_mv g)).toArray) below meth c Qf D ct b g maxL h.length 1 (pcC + 3) lv0 [.int yv, .int 0, .ref o] h' 6 := by
          refine pl_run (T := fun pc lv st h9 us => pc = pcR ∧ st = [.int 0] ∧ h9 = h'.set o (.inl (3, 1, .inr (.inl (vp_updL f 0 (lz yv))))) ∧ us = 6) (mk 1 6 (by omega) (Nat.le_refl _)) (Or.inr (Nat.le_refl _)) pm_MT_ok (pm_sound pm_MT_ok hStr hg d) hStr hro hL ?_ (run2 _ yv h' hp ⟨rfl, rfl, rfl, rfl⟩)
          rintro pc lv st h9 us ⟨rfl, rfl, rfl, rfl⟩ H9 locs9 ls9 hR9 hS9 hLs9 hN9
          have hl9 : (h'.set o (.inl (3, 1, .inr (.inl (vp_updL f 0 (lz yv)))))).length = h.length + 0 := by rw [List.length_set]; exact hlen'
          rw [hl9, show h.length + 0 - h.length + 1 = 1 by omega]
          exact ret 0 _ _ H9 locs9 ls9 hdR hl9 hpo hR9 hS9
        have K3 := K2 T'.heap (locs ++ L9) ls (by rw [e1]; exact hR') hS' hLs ⟨by omega, by show h'.length + 1 ≤ h.length + 1; omega, Nat.le_refl _⟩
        rw [show h'.length - h.length + 1 = h.length - h.length + 0 + 1 by omega] at K3
        obtain ⟨t2, a1, b1⟩ := K3 T' rfl X'
        exact ⟨t2, go t2 a1, b1⟩
      · exact absurd rfl (hnr ev)
    · rw [e0] at hz hk
      have hS' : va_S (fun q => b ≤ q) s.heap T'.heap (locs ++ L9) := ⟨Nat.le_trans hS.1 (by rw [e1]; exact hz), fun q q1 q2 => by
        rw [e1, hk q (Nat.lt_of_lt_of_le q1 hS.1) q2]; exact hS.2.1 q q1 q2, fun q hq => by
        rcases List.mem_append.mp hq with z | z
        · exact hS.2.2 q z
        · exact hLf q z⟩
      obtain ⟨pre, q9, suf, j, kk, t1, t2, t3, t4, t5, t6, t7⟩ := hX k h' hk2 hQ9
      have hpo : px_Po Q o f lz kx (some (.int (Int32.ofInt kk))) h' := Or.inr ⟨k, hk2, hQ9, by rw [t7]⟩
      have hand : W p l en (pm_rm (d + 2) 1 6) s m ((as.map (pm_mv g)).toArray) below meth c T'.heap (locs ++ L9) (h.length - h.length + 0 + 1) (0 + 6) Qf (F0 m q9.handlerPc ls [.ref q]) := by
        rw [show h.length - h.length + 0 + 1 = 1 by omega, show 0 + 6 = 6 from rfl]
        rcases t5 with ⟨n4, t8, t9, t10, t11⟩ | ⟨t9, t10, t11⟩
        · refine lv_astore_n hx hb t9 t8 (pm_ls_has hLs) t6 rfl (fun ls' _ => ?_)
          refine lv_iconst hx hb t10 rfl ?_
          exact ret _ _ h' _ _ ls' t11 hlen' hpo (by rw [e1]; exact hR') hS'
        · refine lv_astore hx hb t9 (pm_ls_has hLs) t6 rfl (fun ls' _ => ?_)
          refine lv_iconst hx hb t10 rfl ?_
          exact ret _ _ h' _ _ ls' t11 hlen' hpo (by rw [e1]; exact hR') hS'
      have cat : ∀ (nm : String) (jl : Nat), px_nm k = nm → pm_w jl (.classLink "AdmissionDeskLaw" (px_ct k) nm) = true → Cond.castable nm nm ∈ px_fw → px_ct k ≠ 0 → vx_W p l en (pm_rm (d + 2) 1 6) s m ((as.map (pm_mv g)).toArray) below meth c T'.heap (locs ++ L9) (h.length - h.length + 0 + 1) (0 + 6) Qf (F0 m pcC ls [.int 0, .ref (g o)]) q := by
        intro nm jl enm hjl hcast hne
        refine vx_catch (own := "AdmissionDeskLaw") (name := nm) (E := nm) hown pre q9 suf (by rw [htab]; exact t1) (fun z hz9 => ?_) t3 (by rw [t4]; exact hne) (by rw [t4]; exact hts _ (pm_w_in hjl)) (va_Nw.use (px_fw_f _ hcast).2 (hEv.2.2.2.2 _ hcast)) (by rw [e1]; exact hce) hcv (by rw [← enm, ← hE9]; exact hcl) hand
        rcases t2 z hz9 with z1 | ⟨z1, z2⟩
        · exact Or.inl z1
        · refine Or.inr ⟨by rw [z2]; decide, "java/util/NoSuchElementException", by rw [z2]; exact hts _ (pm_w_in (j := 5053) (by decide +kernel)), ?_⟩
          rw [← enm, z1]
          exact hEv.2.2.2.1
      have hk3 : k = 0 ∨ k = 1 ∨ k = 2 := by omega
      have K3 : vx_W p l en (pm_rm (d + 2) 1 6) s m ((as.map (pm_mv g)).toArray) below meth c T'.heap (locs ++ L9) (h.length - h.length + 0 + 1) (0 + 6) Qf (F0 m pcC ls [.int 0, .ref (g o)]) q := by
        rcases hk3 with rfl | rfl | rfl
        · exact cat _ 4007 rfl (by decide +kernel) (by decide +kernel) (by decide)
        · exact cat _ 5053 rfl (by decide +kernel) (by decide +kernel) (by decide)
        · exact cat _ 6043 rfl (by decide +kernel) (by decide +kernel) (by decide)
      obtain ⟨t9, a1, b1⟩ := K3 T' rfl X'
      exact ⟨t9, go.trans a1, b1⟩
  have K : pm_Sem p l en (pm_rm (d + 2) 1 6) s m ((as.map (pm_mv g)).toArray) below meth c Qf D ct b g maxL h.length 0 0 lv0 [] h 0 := by
    refine pl_run (T := fun pc lv st h9 us => pc = pcC ∧ lv = lv0 ∧ st = xas.reverse ++ [Value.ref x, .int 0, .ref o] ∧ h9 = h ∧ us = 0) (mk 0 0 (by omega) (Nat.zero_le _)) (Or.inr (Nat.le_refl _)) pm_MT_ok (pm_sound pm_MT_ok hStr hg d) hStr hro hL ?_ (run1 _ ⟨rfl, rfl, rfl, rfl, rfl⟩)
    rintro pc lv st h9 us ⟨rfl, rfl, rfl, rfl, rfl⟩
    exact call
  have K2 := K s.heap [] _ hR va_S.rf (by rw [hlv]; exact pm_ls0 (g := g) hlen hcat) ⟨Nat.le_refl _, by show h.length + 0 ≤ h.length + 1; omega, Nat.zero_le _⟩
  rw [lg_entry_eq]
  rw [Nat.sub_self, hQf] at K2
  exact K2
end PH
