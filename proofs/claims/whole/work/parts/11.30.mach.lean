/-! A run of the law's own methods: pure but for stops. -/
section PL
variable {ro : pmRO} {C : pmCall} {Nx Sx : Nat} {L : List (Option pmI)} {T : pmK}
def pl_S (ro : pmRO) (C : pmCall) (Nx Sx : Nat) (L : List (Option pmI)) (T : pmK) (K KC : pmK) : pmK := fun pc lv st h us => match pm_at L pc with
  | some (i, len, cv, r) => pm_I ro C Nx Sx (fun _ _ => False) none K KC i len cv r pc lv st h us
  | none => T pc lv st h us
def pl_W (ro : pmRO) (C : pmCall) (Nx Sx : Nat) (L : List (Option pmI)) (T : pmK) : pmK := fun pc lv st h us =>
  ∀ P : pmK, (∀ pc lv st h us, pl_S ro C Nx Sx L T P P pc lv st h us → P pc lv st h us) → P pc lv st h us
theorem pl_S_m (hC : pm_mn C C) {K K' KC KC' : pmK} (hK : ∀ pc lv st h us, K pc lv st h us → K' pc lv st h us) (hKC : ∀ pc lv st h us, KC pc lv st h us → KC' pc lv st h us) (pc : Nat) (lv : pmL) (st : List Value) (h : pmH) (us : Nat) : pl_S ro C Nx Sx L T K KC pc lv st h us → pl_S ro C Nx Sx L T K' KC' pc lv st h us := by
  unfold pl_S
  split
  · exact pm_I_m hC (fun _ _ => id) hK hKC _ _ _ _ _ _ _ _ _
  · exact id
theorem pl_W_mk (hC : pm_mn C C) {pc : Nat} {lv : pmL} {st : List Value} {h : pmH} {us : Nat} (k : pl_S ro C Nx Sx L T (pl_W ro C Nx Sx L T) (pl_W ro C Nx Sx L T) pc lv st h us) : pl_W ro C Nx Sx L T pc lv st h us :=
  fun P hP => hP _ _ _ _ _ (pl_S_m hC (fun _ _ _ _ _ q => q P hP) (fun _ _ _ _ _ q => q P hP) _ _ _ _ _ k)
theorem pl_W_eq (hC : pm_mn C C) {pc : Nat} {lv : pmL} {st : List Value} {h : pmH} {us : Nat} : pl_W ro C Nx Sx L T pc lv st h us ↔ pl_S ro C Nx Sx L T (pl_W ro C Nx Sx L T) (pl_W ro C Nx Sx L T) pc lv st h us :=
  ⟨fun q => q (pl_S ro C Nx Sx L T (pl_W ro C Nx Sx L T) (pl_W ro C Nx Sx L T)) (fun _ _ _ _ _ z => pl_S_m hC (fun _ _ _ _ _ => pl_W_mk hC) (fun _ _ _ _ _ => pl_W_mk hC) _ _ _ _ _ z), pl_W_mk hC⟩
theorem pl_eq {d : Nat} {pc : Nat} {lv : pmL} {st : List Value} {h : pmH} {us : Nat} {i : Instr} {len : Nat} {cv : Int32} {r : List Nat} (hat : pm_at L pc = some (i, len, cv, r)) : pl_W ro (pm_Met pm_MT d) Nx Sx L T pc lv st h us ↔ pm_I ro (pm_Met pm_MT d) Nx Sx (fun _ _ => False) none (pl_W ro (pm_Met pm_MT d) Nx Sx L T) (pl_W ro (pm_Met pm_MT d) Nx Sx L T) i len cv r pc lv st h us := by
  rw [pl_W_eq (pm_Met_mn _ _)]
  unfold pl_S
  rw [hat]
theorem pl_st {d : Nat} {pc : Nat} {lv : pmL} {st : List Value} {h : pmH} {us : Nat} (hat : pm_at L pc = none) : pl_W ro (pm_Met pm_MT d) Nx Sx L T pc lv st h us ↔ T pc lv st h us := by
  rw [pl_W_eq (pm_Met_mn _ _)]
  unfold pl_S
  rw [hat]
end PL
section PR
variable {p : Program} {l : Launch} {e : Env} {R : Room} {s : State} {m : MethodId} {args : Array Value} {below : List Frame} {meth : Method} {c : Code} {Qf : State → Prop}
variable {D : va_G} {ct : Nat → ClassId} {b : Nat} {g adV : Nat → Nat} {nL N0 xo : Nat} {cc : ByteArray} {own nm : String} {ex : Bool} {Nx Sx d : Nat}
theorem pl_run (I : pm_In p R s m args meth c D ct b g adV nL N0 xo cc own nm ex Nx Sx d) (hex : ex = true ∨ Nx ≤ N0) {mt : List pmE} (hmt : ∀ e ∈ mt, pm_eG false mt e) {C : pmCall} (hC : pm_Cs l mt D ct b g adV d C) (hStr : pm_Str l D ct b g adV) {ro : pmRO} (hro : ∀ a n f, ro a = some (n, f) → va_T .int (g a) n (fun i => .int (f i)) (fun q => b ≤ q) s s.heap) {L : List (Option pmI)} (hL : pm_cL false mt own nm cc 0 L = true) {T : pmK} (hT : ∀ pc lv st h us, T pc lv st h us → pm_Sem p l e R s m args below meth c Qf D ct b g nL N0 xo pc lv st h us) {pc : Nat} {lv : pmL} {st : List Value} {h : pmH} {us : Nat} (k : pl_W ro C Nx Sx L T pc lv st h us) : pm_Sem p l e R s m args below meth c Qf D ct b g nL N0 xo pc lv st h us := by
  refine k _ (fun pc lv st h us y => ?_)
  have hL' : ∀ (pc : Nat) (q : pmI), L[pc]? = some (some q) → decode cc pc = .ok (q.1, q.2.1) ∧ pm_ck false mt own nm pc q = true := fun pc q z => by
    have := pm_cL_spec L 0 hL pc q z
    rw [Nat.zero_add] at this
    exact this
  have hRet : pm_Ret p l e R s m args below meth c Qf D ct b g N0 xo cc Nx Sx (fun _ _ => False) none := fun _ _ _ _ _ _ _ _ _ _ z => z.elim
  unfold pl_S at y
  split at y
  · rename_i i len cv r hat
    refine pm_close (th := false) (rt := none) I hex hmt hC hStr hro hRet hL' (fun z => by cases z) pc lv st h us ?_
    unfold pm_S
    rw [hat]
    exact y
  · exact hT _ _ _ _ _ y
end PR
/-! A method that may throw: its contract out of its pure run. -/
def px_txt : List (Nat × String) := [(78, "the text of the law is wrong"), (107, "the text of the trace is wrong"), (126, "no key"), (136, "no such part"), (139, "no such what"), (184, "no such row"), (193, "no such place"), (217, "out of bounds"), (233, "no door"), (248, "no room"), (301, "nothing was kept")]
def px_nm (k : Nat) : String := if k = 0 then "java/lang/IllegalArgumentException" else if k = 1 then "java/util/NoSuchElementException" else "java/lang/IllegalStateException"
/-- a throw point: the five instructions -/
def px_tsB (cc : ByteArray) (pc k : Nat) : Bool := if k = 2 then decide (decode cc pc = .ok (.new 299, 3)) && (decide (decode cc (pc + 3) = .ok (.dup, 1)) && (decide (decode cc (pc + 4) = .ok (.ldc_w 301, 3)) && (decide (decode cc (pc + 7) = .ok (.invokespecial 303, 3)) && decide (decode cc (pc + 10) = .ok (.athrow, 1))))) else if k = 1 then decide (decode cc pc = .ok (.new 134, 3)) && (decide (decode cc (pc + 3) = .ok (.dup, 1)) && ((px_txt.any fun q => decide (decode cc (pc + 4) = .ok (.ldc q.1, 2))) && (decide (decode cc (pc + 6) = .ok (.invokespecial 138, 3)) && decide (decode cc (pc + 9) = .ok (.athrow, 1))))) else decide (k = 0) && (decide (decode cc pc = .ok (.new 76, 3)) && (decide (decode cc (pc + 3) = .ok (.dup, 1)) && ((px_txt.any fun q => decide (decode cc (pc + 4) = .ok (.ldc q.1, 2))) && (decide (decode cc (pc + 6) = .ok (.invokespecial 80, 3)) && decide (decode cc (pc + 9) = .ok (.athrow, 1))))))
def px_cT (cc : ByteArray) : Nat → List (Option pmI) → Bool
  | _, [] => true
  | n, q :: L => (match q with
    | some (.new _, _, _, 99 :: k :: _) => px_tsB cc n k
    | _ => true) && px_cT cc (n + 1) L
theorem px_cT_of {cc : ByteArray} : ∀ (L : List (Option pmI)) (n : Nat), px_cT cc n L = true → ∀ (i j len k : Nat) (cv : Int32) (t : List Nat), L[i]? = some (some (.new j, len, cv, 99 :: k :: t)) → px_tsB cc (n + i) k = true
  | [], n, _, i, j, len, k, cv, t, h => by cases h
  | q :: L, n, hh, 0, j, len, k, cv, t, h => by
    have e : q = some (.new j, len, cv, 99 :: k :: t) := Option.some.inj h
    unfold px_cT at hh
    rw [e, Bool.and_eq_true] at hh
    exact hh.1
  | q :: L, n, hh, i + 1, j, len, k, cv, t, h => by
    unfold px_cT at hh
    rw [Bool.and_eq_true] at hh
    have := px_cT_of L (n + 1) hh.2 i j len k cv t h
    rw [show n + (i + 1) = n + 1 + i by omega]
    exact this
section PT
variable {l : Launch} {D : va_G} {ct : Nat → ClassId} {b : Nat} {g adV : Nat → Nat}
/-- what throwing needs of the world: two statics of Throwable, the messages; an IllegalArgumentException is no NoSuchElementException -/
def px_Ev (b : Nat) (s : State) (H : Heap) : Prop := vx_Zq Bundle.tN "UNASSIGNED_STACK" Bundle.steD (fun q => b ≤ q) s H ∧ vx_Zq Bundle.tN "SUPPRESSED_SENTINEL" Bundle.listD (fun q => b ≤ q) s H ∧ (∀ q ∈ px_txt, ∃ sa, vk_R "AdmissionDesk" q.1 q.2 sa s) ∧ va_Nc "java/lang/IllegalArgumentException" "java/util/NoSuchElementException" s ∧ ∀ w ∈ px_fw, va_Nw w s
theorem px_Ev.mv {s U : State} {H H1 : Heap} (h : px_Ev b s H) (hW : s.WarmedH U.vm) (hq : ∀ a : Nat, a < H.size → ¬ b ≤ a → H1[a]? = H[a]?) : px_Ev b U H1 := by
  obtain ⟨h1, h2, h3, h4, h5⟩ := h
  exact ⟨vx_Zq.moved hW.alike (h1.kept hq), vx_Zq.moved hW.alike (h2.kept hq), fun q hq => by
    obtain ⟨sa, z⟩ := h3 q hq
    exact ⟨sa, vk_R.warm hW z⟩, va_Nc.moved hW.alike h4, fun w hw => px_fw_mv hw hW.alike (h5 w hw)⟩
theorem px_Ev.same {s U : State} {H : Heap} (h : px_Ev b s H) (hv : U.vm = s.vm) : px_Ev b U H := by
  obtain ⟨h1, h2, h3, h4, h5⟩ := h
  have ha : s.vm.Alike U.vm := by rw [hv]; exact Vm.Alike.refl _
  exact ⟨vx_Zq.moved ha h1, vx_Zq.moved ha h2, fun q hq => by
    obtain ⟨sa, z⟩ := h3 q hq
    exact ⟨sa, vk_R.same hv z⟩, va_Nc.moved ha h4, fun w hw => px_fw_mv hw ha (h5 w hw)⟩
def px_B (D : va_G) (ct : Nat → ClassId) (b : Nat) (g adV : Nat → Nat) (h : pmH) (U : State) : Prop := pm_B D ct b g adV false h U ∧ px_Ev b U U.heap
theorem px_B_blind {av : List Value} {h : pmH} : FrameBlind (va_Pc av (px_B D ct b g adV h)) := fun a U gg mk q => ⟨q.1, ⟨q.2.1.1.same rfl, q.2.1.2.1, fun z => by cases z⟩, q.2.2.same rfl⟩
/-- how it throws: what the pure run says of the throw point -/
def px_XC (D : va_G) (ct : Nat → ClassId) (b : Nat) (g : Nat → Nat) (n : Nat) (Q : pmQ) : String → State → State → Prop := fun E st t => (∃ (k : Nat) (h' : pmH), h'.length = n ∧ k ≤ 2 ∧ E = px_nm k ∧ Q (some (.retAddr k)) h' ∧ pm_Rl D ct b g h' t.heap) ∧ va_F (fun q => b ≤ q) st t
theorem px_WT_g {w : Cond} (h : w ∈ pm_WT ∨ w ∈ px_fw) : vx_ot w = true := by
  unfold vx_ot
  rcases h with h | h
  · rw [(List.mem_filter.mp h).2, Bool.or_true]
  · rw [(px_fw_f w h).2, Bool.true_or]
set_option maxHeartbeats 8000000 in
set_option maxRecDepth 20000 in
theorem px_thr {E : pmE} (G : pm_eG true pm_MT E) (hcls : E.1.cls = "AdmissionDesk") (hl : l.stackTraces = false) (hStr : pm_Str l D ct b g adV) (hg : ∀ k, k < 1000000 → g k = b + k) (hsite : px_cT E.2.1 0 E.2.2.2.2.2 = true) {d : Nat} {as : List Value} {h : pmH} {Q : pmQ} (hlen : as.length ≤ E.2.2.1) (hcat : ∀ v ∈ as, v.category = 1) (hW : pm_W pm_ro0 (pm_Met pm_MT d) (h.length + 0) 0 Q E.2.2.2.1 E.2.2.2.2.2 0 (as.map some ++ List.replicate (E.2.2.1 - as.length) none) [] h 0) : vx_Met l E.1 (Cond.code E.1 E.2.1 E.2.2.1 E.2.2.2.1 :: pm_WT) (pm_rm (d + 1) 1 6) (va_Pc (as.map (pm_mv g)) (px_B D ct b g adV h)) (pm_Qc D ct b g (h.length + 0) (fun v h' => Q v h' ∧ ∀ k, v ≠ some (.retAddr k))) (px_XC D ct b g (h.length + 0) Q) 1 6 (fun q => b ≤ q) := by
  refine vx_ofW (cc := E.2.1) (maxL := E.2.2.1) (ret := E.2.2.2.1) G.2.2.1 rfl ?_
  intro p en s m args below meth c s₁ B hml htab hv
  obtain ⟨rfl, ⟨hEn, hR, hsz⟩, hEv⟩ := hv
  have hts : ∀ w ∈ pm_WT, w.before ((as.map (pm_mv g)).toArray) s = true := fun w hw => atoms_spec (ws := Cond.code E.1 E.2.1 E.2.2.1 E.2.2.2.1 :: pm_WT) B.pre w (List.mem_cons_of_mem _ hw)
  have hown : s.vm.findClass E.1.cls = some m.cls := findClass_of_methodNamed B.named
  have hnm := (name_of_methodNamed B.named B.method).1
  have hlocks := B.notSynchronized
  have hr := B.returns
  have hb := B.bytes
  have hx := B.exec
  have I : pm_In p (pm_rm (d + 1) 1 6) s m ((as.map (pm_mv g)).toArray) meth c D ct b g adV E.2.2.1 h.length 0 E.2.1 E.1.cls E.1.name false (h.length + 0) 0 d :=
    ⟨hx, hb, hml, hown, hts, hEn, fun z => by rw [hnm]; exact z, hg, (fun z => by cases z), by show h.length + 0 + 0 ≤ h.length + 1; omega, Nat.zero_le _, by rw [pm_rm_f]; omega, by rw [pm_rm_l]; omega⟩
  have hro : ∀ a n f, pm_ro0 a = some (n, f) → va_T .int (g a) n (fun i => .int (f i)) (fun q => b ≤ q) s s.heap := by
    intro a n f h0
    unfold pm_ro0 at h0
    split at h0
    · rename_i ha
      cases h0
      rw [ha]
      exact hEn.2.1
    · cases h0
  have hRet : pm_Ret p l en (pm_rm (d + 1) 1 6) s m ((as.map (pm_mv g)).toArray) below meth c (vx_MQ below (pm_Qc D ct b g (h.length + 0) (fun v h' => Q v h' ∧ ∀ k, v ≠ some (.retAddr k))) (px_XC D ct b g (h.length + 0) Q) ((as.map (pm_mv g)).toArray) s 1 6 (fun q => b ≤ q)) D ct b g h.length 0 E.2.1 (h.length + 0) 0 Q E.2.2.2.1 := by
    intro ov pc h' us H locs ls hk h1 h2 h3 hR' hS
    refine W.widen (k := 1) (n := 6) (by omega) (by omega) (vx_ret ?_)
    rcases hk with ⟨x, rfl, hd, hrk⟩ | ⟨a, rfl, hd, hrk⟩ | ⟨rfl, hd, hrt⟩
    · obtain ⟨ty, hty, hn⟩ := pm_rk_nar hrk
      exact W.zret (ty := ty) hx hb (hr.trans hty) hn (fun t ht hW => ⟨⟨some (.int x), h', h1, ⟨h3, fun k z => by cases z⟩, rfl, by rw [ht]; exact hR'⟩, hS.F ht⟩) hS.2.2 hd
    · obtain ⟨n, hn⟩ := pm_rk_ref hrk
      exact W.aret (rt := .object n) hx hb (hr.trans hn) (Or.inl ⟨n, rfl⟩) (Or.inr ⟨g a, rfl⟩) (fun t ht hW => ⟨⟨some (.ref a), h', h1, ⟨h3, fun k z => by cases z⟩, rfl, by rw [ht]; exact hR'⟩, hS.F ht⟩) hS.2.2 hd
    · exact W.vret hx hb (hr.trans hrt) (fun t ht hW => ⟨⟨none, h', h1, ⟨h3, fun k z => by cases z⟩, rfl, by rw [ht]; exact hR'⟩, hS.F ht⟩) hS.2.2 hd
  have htw : ∀ w, w ∈ pm_WT ∨ w ∈ px_fw → w.before ((as.map (pm_mv g)).toArray) s = true := fun w hw => by
    rcases hw with z | z
    · exact hts w z
    · exact va_Nw.use (px_fw_f w z).2 (hEv.2.2.2.2 w z)
  have hown' : s.vm.findClass "AdmissionDesk" = some m.cls := by rw [← hcls]; exact hown
  have hThr : pm_Thr p l en (pm_rm (d + 1) 1 6) s m ((as.map (pm_mv g)).toArray) below meth c (vx_MQ below (pm_Qc D ct b g (h.length + 0) (fun v h' => Q v h' ∧ ∀ k, v ≠ some (.retAddr k))) (px_XC D ct b g (h.length + 0) Q) ((as.map (pm_mv g)).toArray) s 1 6 (fun q => b ≤ q)) D ct b g E.2.2.1 h.length 0 E.2.2.2.2.2 (h.length + 0) 0 Q := by
    intro pc j len k cv t lv st h' us hat hst h1 h2 h3 H locs ls hR' hS hLs hN
    subst hst
    have T := px_cT_of _ 0 hsite pc j len k cv t hat
    rw [Nat.zero_add] at T
    have hz1 : h'.length - h.length + 0 = 0 := by omega
    have hz2 : us = 0 := by omega
    rw [hz1, hz2]
    have hsize : ls.size = c.maxLocals := by rw [hml]; exact hLs.2.1
    have fin : ∀ (cl : String) (k : Nat) (pc9 : Nat), cl = px_nm k → k ≤ 2 → Q (some (.retAddr k)) h' → ∀ (q : Nat) (ce : Cell) (H1 : Heap), H1[q]? = some ce → ce.vm = .none → s.vm.findClass cl = some ce.cls → H.size ≤ H1.size → (∀ i : Nat, i < H.size → H1[i]? = H[i]?) → va_S (fun q => b ≤ q) s.heap H1 locs → vx_W p l en (pm_rm (d + 1) 1 6) s m ((as.map (pm_mv g)).toArray) below meth c H1 locs (0 + 1) (0 + 6) (vx_MQ below (pm_Qc D ct b g (h.length + 0) (fun v h' => Q v h' ∧ ∀ k, v ≠ some (.retAddr k))) (px_XC D ct b g (h.length + 0) Q) ((as.map (pm_mv g)).toArray) s 1 6 (fun q => b ≤ q)) (F0 m pc9 ls []) q := by
      intro cl k pc9 ec hk hQ q ce H1 e1 e2 e3 e4 e5 hS1
      refine vx_out (fun x hx => (htab x hx).elim) hlocks e1 e2 e3 (fun t ht hal => ⟨⟨k, h', h1, hk, ec, hQ, ?_⟩, hS1.F ht⟩) hS1.2.2 (Nat.le_refl _) (Nat.le_refl _)
      rw [ht]
      exact ⟨hR'.1, hR'.2.kept (fun i x hx => e5 x.1 (hR'.2 i x hx).lt)⟩
    have hfr : 1 + 4 < (pm_rm (d + 1) 1 6).frames := by rw [pm_rm_f]; omega
    have hlo : (([] : List Value).map fun v => v.category).sum + (13 * (1 + 2) + 43) ≤ (pm_rm (d + 1) 1 6).locals := by
      rw [pm_rm_l]
      show 0 + (13 * 3 + 43) ≤ _
      omega
    unfold px_tsB at T
    split at T
    · rename_i hk
      simp only [Bool.and_eq_true, decide_eq_true_eq] at T
      obtain ⟨t1, t2, t3, t4, t5⟩ := T
      obtain ⟨sa, hR9⟩ := hEv.2.2.1 (301, "nothing was kept") (by decide)
      exact px_throwSW (own := "AdmissionDesk") (cls := "java/lang/IllegalStateException") (sup := "java/lang/RuntimeException") (names := ["java/lang/Exception"]) (ix := 7) (rx := prog_20_method_2_code) hx hb hl hown' (by decide +kernel) (by decide +kernel) (by decide +kernel) (by decide +kernel) (by decide +kernel) (by decide +kernel) (by decide +kernel) (hts _ (pm_w_in (j := 6048) (by decide +kernel))) (hts _ (pm_w_in (j := 1025) (by decide +kernel))) hR9 (fun w hw => htw w (px_w2 w hw)) (fun w hw => by
        rcases List.mem_cons.mp hw with rfl | hw
        · exact px_WT_g (Or.inl (pm_w_in (j := 6048) (by decide +kernel)))
        · rcases List.mem_cons.mp hw with rfl | hw
          · exact px_WT_g (Or.inl (pm_w_in (j := 1025) (by decide +kernel)))
          · exact px_WT_g (px_w2 w hw)) hEv.1 hEv.2.1 hS hsize t1 t2 t3 t4 t5 hfr hlo (Nat.le_refl 1) (Nat.le_refl 6) (fin _ 2 _ rfl (Nat.le_refl _) (by rw [← hk]; exact h3))
    · split at T
      · rename_i hk
        simp only [Bool.and_eq_true, decide_eq_true_eq, List.any_eq_true] at T
        obtain ⟨t1, t2, ⟨q, q1, t3⟩, t4, t5⟩ := T
        obtain ⟨sa, hR9⟩ := hEv.2.2.1 q q1
        exact px_throwS (own := "AdmissionDesk") (cls := "java/util/NoSuchElementException") (sup := "java/lang/RuntimeException") (names := ["java/lang/Exception"]) (ix := 13) (rx := prog_30_method_4_code) hx hb hl hown' (by decide +kernel) (by decide +kernel) (by decide +kernel) (by decide +kernel) (by decide +kernel) (by decide +kernel) (by decide +kernel) (hts _ (pm_w_in (j := 5061) (by decide +kernel))) (hts _ (pm_w_in (j := 1024) (by decide +kernel))) hR9 (fun w hw => htw w (px_w1 w hw)) (fun w hw => by
          rcases List.mem_cons.mp hw with rfl | hw
          · exact px_WT_g (Or.inl (pm_w_in (j := 5061) (by decide +kernel)))
          · rcases List.mem_cons.mp hw with rfl | hw
            · exact px_WT_g (Or.inl (pm_w_in (j := 1024) (by decide +kernel)))
            · exact px_WT_g (px_w1 w hw)) hEv.1 hEv.2.1 hS hsize t1 t2 t3 t4 t5 hfr hlo (Nat.le_refl 1) (Nat.le_refl 6) (fin _ 1 _ rfl (by omega) (by rw [← hk]; exact h3))
      · simp only [Bool.and_eq_true, decide_eq_true_eq, List.any_eq_true] at T
        obtain ⟨hk, t1, t2, ⟨q, q1, t3⟩, t4, t5⟩ := T
        obtain ⟨sa, hR9⟩ := hEv.2.2.1 q q1
        exact px_throwS (own := "AdmissionDesk") (cls := "java/lang/IllegalArgumentException") (sup := "java/lang/RuntimeException") (names := ["java/lang/Exception"]) (ix := 7) (rx := prog_19_method_2_code) hx hb hl hown' (by decide +kernel) (by decide +kernel) (by decide +kernel) (by decide +kernel) (by decide +kernel) (by decide +kernel) (by decide +kernel) (hts _ (pm_w_in (j := 4149) (by decide +kernel))) (hts _ (pm_w_in (j := 1021) (by decide +kernel))) hR9 (fun w hw => htw w (px_w0 w hw)) (fun w hw => by
          rcases List.mem_cons.mp hw with rfl | hw
          · exact px_WT_g (Or.inl (pm_w_in (j := 4149) (by decide +kernel)))
          · rcases List.mem_cons.mp hw with rfl | hw
            · exact px_WT_g (Or.inl (pm_w_in (j := 1021) (by decide +kernel)))
            · exact px_WT_g (px_w0 w hw)) hEv.1 hEv.2.1 hS hsize t1 t2 t3 t4 t5 hfr hlo (Nat.le_refl 1) (Nat.le_refl 6) (fin _ 0 _ rfl (by omega) (by rw [← hk]; exact h3))
  have K := hW _ (pm_close (th := true) (Qf := vx_MQ below (pm_Qc D ct b g (h.length + 0) (fun v h' => Q v h' ∧ ∀ k, v ≠ some (.retAddr k))) (px_XC D ct b g (h.length + 0) Q) ((as.map (pm_mv g)).toArray) s 1 6 (fun q => b ≤ q)) I (Or.inr (Nat.le_refl _)) pm_MT_ok (pm_sound pm_MT_ok hStr hg d) hStr hro hRet G.2.2.2.2.2.2.2.2 (fun _ => hThr))
  have K2 := K s.heap [] _ hR va_S.rf (pm_ls0 (g := g) hlen hcat) ⟨Nat.le_refl _, by show h.length + 0 ≤ h.length + 1; omega, Nat.zero_le _⟩
  rw [lg_entry_eq]
  rw [Nat.sub_self] at K2
  exact K2
end PT
