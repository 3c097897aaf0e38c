/-! The law's frame: its runs, its calls. -/
def CX (p : Program) (l : Launch) (s : State) (m : MethodId) (b0 : Nat) (meth : Method) (c : Code) (D : va_G) (ct : Nat → ClassId) (b : Nat) (g adV : Nat → Nat) (L : Nat) (xs : Nat → Int32) : Prop := p.tables.exec = Jvm.exec ∧ c.code = code ∧ c.maxLocals = 7 ∧ s.vm.findClass "AdmissionDeskLaw" = some m.cls ∧ (∀ w ∈ pm_WT, w.before #[Value.ref b0] s = true) ∧ pm_En D ct b g adV s s.heap ∧ (∀ k, k < 1000000 → g k = b + k) ∧ px_Ev b s s.heap ∧ l.stackTraces = false ∧ va_T .int (g 1000001) L (fun i => .int (xs i)) (fun q => b ≤ q) s s.heap
def SE (p : Program) (l : Launch) (e : Env) (s : State) (m : MethodId) (b0 : Nat) (below : List Frame) (meth : Method) (c : Code) (Qf : State → Prop) (D : va_G) (ct : Nat → ClassId) (b : Nat) (g : Nat → Nat) (xo : Nat) : pmK := pm_Sem p l e room_1 s m #[Value.ref b0] below meth c Qf D ct b g 7 125 (125 + xo)
section LR
variable {p : Program} {l : Launch} {e : Env} {s : State} {m : MethodId} {b0 : Nat} {below : List Frame} {meth : Method} {c : Code} {Qf : State → Prop} {D : va_G} {ct : Nat → ClassId} {b : Nat} {g adV : Nat → Nat} {L : Nat} {xs : Nat → Int32} {xo : Nat}
theorem law_in (X : CX p l s m b0 meth c D ct b g adV L xs) (hxo : xo ≤ 1000) : pm_In p room_1 s m #[Value.ref b0] meth c D ct b g adV 7 125 (125 + xo) code "AdmissionDeskLaw" "law" false 125 7293033 460 := by
  obtain ⟨hx, hb, hml, hown, hts, hE, hg, hEv, hl, hX⟩ := X
  exact ⟨hx, hb, hml, hown, hts, hE, (fun z => absurd z (by decide)), hg, (fun z => by cases z), (by show 125 + (125 + xo) ≤ 125 + 601024; omega), Nat.le_refl _, (by show 460 + 21 ≤ 2048; decide), (by show 64 * 460 + 1344 ≤ 84000; decide)⟩
theorem lro_of (X : CX p l s m b0 meth c D ct b g adV L xs) : ∀ a n f, lro L xs a = some (n, f) → va_T .int (g a) n (fun i => .int (f i)) (fun q => b ≤ q) s s.heap := by
  obtain ⟨hx, hb, hml, hown, hts, hE, hg, hEv, hl, hX⟩ := X
  intro a n f h0
  unfold lro at h0
  split at h0
  · rename_i ha
    cases h0
    rw [ha]
    exact hX
  · unfold pm_ro0 at h0
    split at h0
    · rename_i ha
      cases h0
      rw [ha]
      exact hE.2.1
    · cases h0
theorem law_run (X : CX p l s m b0 meth c D ct b g adV L xs) (hxo : xo ≤ 1000) {le : List (Option pmI)} (hL : pm_cL false pm_MT "AdmissionDeskLaw" "law" code 0 le = true) {pc us : Nat} {lv : pmL} {st : List Value} {h : pmH} (k : pl_W (lro L xs) (pm_Met pm_MT 460) 125 7293033 le (SE p l e s m b0 below meth c Qf D ct b g xo) pc lv st h us) : SE p l e s m b0 below meth c Qf D ct b g xo pc lv st h us := pl_run (law_in X hxo) (Or.inr (Nat.le_refl _)) pm_MT_ok (pm_sound pm_MT_ok px_Str X.2.2.2.2.2.2.1 460) px_Str (lro_of X) hL (fun _ _ _ _ _ z => z) k
set_option maxHeartbeats 4000000 in
theorem law_call (X : CX p l s m b0 meth c D ct b g adV L xs) {pc us idx n : Nat} {y : MethodName} {cc : ByteArray} {maxL : Nat} {hh : List (Nat × Nat × Nat × Nat)} {as : List Value} {lv : pmL} {h : pmH} {Post : pmQ} (hxo : xo ≤ 1000) (hus : us + 6 ≤ 7293033) (hl : h.length = 125) (hM : Met l y (Cond.codeWith y cc maxL (some .int) hh :: pm_WT) (pm_rm 460 1 6) (va_Pc (as.map (pm_mv g)) (px_B D ct b g adV h)) (pm_Qc D ct b g (h.length + 0) Post) 1 6 (fun q => b ≤ q)) (w0 : Cond.codeWith y cc maxL (some .int) hh ∈ pm_WT) (w1 : Cond.methodLink "AdmissionDeskLaw" idx y ∈ pm_WT) (w2 : Cond.static y ∈ pm_WT) (w3 : Cond.initialized y.cls ∈ pm_WT) (hy : y.cls ≠ "java/lang/invoke/MethodHandle" ∧ y.cls ≠ "java/lang/invoke/VarHandle" ∧ (parseMethodDescriptor y.desc).map (fun d => d.parameters.length) = some n) (hmL : maxL ≤ 40) (hn : as.length = n) (hd : decode code pc = .ok (.invokestatic idx, 3)) (kk : ∀ v h', h'.length = 125 → Post v h' → SE p l e s m b0 below meth c Qf D ct b g (xo + 1) (pc + 3) lv v.toList h' (us + 6)) : SE p l e s m b0 below meth c Qf D ct b g xo pc lv as.reverse h us := by
  obtain ⟨hx, hb, hml, hown, hts, hE, hg, hEv, hlt, hX⟩ := X
  intro H locs ls hR hS hL hN
  have hG : GoodIn pm_WT (va_wsS "AdmissionDeskLaw" idx y (Cond.codeWith y cc maxL (some .int) hh :: pm_WT)) := fun v hv => by
    unfold va_wsS at hv
    rcases List.mem_append.mp hv with z | z
    · simp only [List.mem_cons, List.not_mem_nil, or_false] at z
      rcases z with rfl | rfl | rfl
      · exact pm_WT_good _ w1
      · exact pm_WT_good _ w2
      · exact pm_WT_good _ w3
    · exact pm_WT_cons w0 v z
  have hr := vx_runSW (p := p) (l := l) (e := e) (R := room_1) (s := s) (m := m) (args := #[Value.ref b0]) (below := below) (meth := meth) (c := c) (H := H) (locs := locs) (cells := h.length - 125 + (125 + xo)) (slots := us) (As := as.map (pm_mv g)) (rest := []) (g := F0 m pc ls (as.reverse.map (pm_mv g))) (nL := 7) ⟨hx, hb, hml, hown, hts⟩ hM (vx_cwSW n hts hG rfl rfl rfl hy ⟨by show 460 + 20 + 1 ≤ 2048; decide, by show 8 + (maxL + 11) + (64 * 460 + 1280) ≤ 84000; omega⟩) ⟨px_B_blind, fun U hU hW => ⟨rfl, ⟨by rw [hU]; exact hE.mv hW hS.1 hS.2.1, by rw [hU]; exact hR, (fun z => by cases z)⟩, by rw [hU]; exact hEv.mv hW hS.2.1⟩⟩ rfl (by rw [List.length_map]; exact hn) hL.2.1 (by rw [List.append_nil, ← List.map_reverse]) (lv_room (Nat.zero_le 8)) hd ⟨by show h.length - 125 + (125 + xo) + 1 ≤ 601024; omega, by show us + 6 ≤ 7293033; exact hus⟩
  intro T hT X
  obtain ⟨v, st₀, t, T', L9, e0, X', hLf, e1, e2, ⟨⟨v', h', hlen, hp, hv, hR'⟩, hz, hk⟩, go⟩ := hr T hT X
  cases hv
  rw [e0] at hz hk
  have K := kk v' h' (by omega) hp T'.heap (locs ++ L9) ls (by rw [e1]; exact hR') ⟨Nat.le_trans hS.1 (by rw [e1]; exact hz), fun q q1 q2 => by
      rw [e1, hk q (Nat.lt_of_lt_of_le q1 hS.1) q2]; exact hS.2.1 q q1 q2, fun q hq => by
      rcases List.mem_append.mp hq with z | z
      · exact hS.2.2 q z
      · exact hLf q z⟩ hL ⟨by omega, by show h'.length + (125 + (xo + 1)) ≤ 125 + 601024; omega, hus⟩
  have e3 : (v'.toList.map (pm_mv g)) = (v'.map (pm_mv g)).toList ++ [] := by cases v' <;> rfl
  rw [e3, show h'.length - 125 + (125 + (xo + 1)) = h.length - 125 + (125 + xo) + 1 by omega] at K
  obtain ⟨t2, a1, b1⟩ := K T' rfl X'
  exact ⟨t2, go t2 a1, b1⟩
end LR
theorem lw_ird {h : pmH} (hl : h.length = 125) (L : Nat) (xs : Nat → Int32) (k : Nat → (Nat → Int32) → Prop) : pm_ird (lro L xs) h 1000001 k ↔ k L xs := by
  have e : h[1000001]? = none := List.getElem?_eq_none (by omega)
  unfold pm_ird
  rw [e]
  rfl
theorem lw_aln {h : pmH} (hl : h.length = 125) (L : Nat) (xs : Nat → Int32) (k : Nat → Prop) : pm_aln (lro L xs) h 1000001 k ↔ k L := by
  have e : h[1000001]? = none := List.getElem?_eq_none (by omega)
  unfold pm_aln
  rw [e]
  rfl
theorem lg_cmp_s (x : Int64) : lg_cmp x x = 0 := by
  unfold lg_cmp
  rw [if_neg (show ¬ x > x from Int64.lt_irrefl), if_pos rfl]
theorem pm_tl_v {v : Value} : (some v).toList = [v] := rfl
theorem vp_updL_0 (f : Nat → Int64) (x : Int64) : vp_updL f 0 x 0 = x := if_pos rfl
theorem RZ.len {th : Int32} {h : pmH} (R : RZ th h) : ∃ o, mO h 113 o ∧ o 1 = th := by
  obtain ⟨bs, ws, A, K, o, S, e⟩ := R
  exact ⟨o, S.M.ob, e⟩
/-- the long row -/
def LG (h : pmH) : Prop := ∃ f, h[124]? = some (.inl (3, 1, .inr (.inl f)))
