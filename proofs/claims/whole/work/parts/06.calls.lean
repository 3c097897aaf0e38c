/-! SOUNDNESS, three: making cells, calls, the whole of it. -/
section PMD
variable {p : Program} {l : Launch} {e : Env} {R : Room} {s : State} {m : MethodId} {args : Array Value} {below : List Frame} {meth : Method} {c : Code} {Qf : State → Prop}
variable {D : va_G} {ct : Nat → ClassId} {b : Nat} {g adV : Nat → Nat} {nL N0 xo : Nat} {cc : ByteArray} {own nm : String} {ex : Bool} {Nx Sx d : Nat}
theorem pm_rm_f (d mc ms : Nat) : (pm_rm d mc ms).frames = d + 20 := rfl
theorem pm_rm_l (d mc ms : Nat) : (pm_rm d mc ms).locals = 64 * d + 1280 := rfl
theorem pm_arf {d d' mc ms r : Nat} (hd : d' ≤ d) (h : d + 21 ≤ r) : (pm_rm d' mc ms).frames + 1 ≤ r := by
  rw [pm_rm_f]
  omega
set_option maxRecDepth 20000 in
theorem pm_room0 {x d d' r : Nat} (hd : d' ≤ d) (hx : x ≤ 40) (h : 64 * d + 1344 ≤ r) : 8 + (x + 11) + (64 * d' + 1280) ≤ r := by
  omega
theorem pm_room1 {x d d' mc ms r : Nat} (hd : d' ≤ d) (hx : x ≤ 40) (h : 64 * d + 1344 ≤ r) : 8 + (x + 11) + (pm_rm d' mc ms).locals ≤ r := by
  rw [pm_rm_l]
  exact pm_room0 hd hx h
theorem pm_len1 {α : Type} (h : List α) (x : α) {N0 xo : Nat} (hN : N0 ≤ h.length) : (h ++ [x]).length - N0 + xo = h.length - N0 + xo + 1 := by
  rw [List.length_append]
  simp
  omega
theorem pm_dfv (g : Nat → Nat) {ci : Nat} {C : vw_C} (hC : pm_cl[ci]? = some C) {k : Nat} (hk : k < C.2.2) : vp_V ((pm_df ci).map (pm_mv g)) k = defaultValue (pm_ty ci k) := by
  unfold pm_df vp_V
  rw [hC]
  simp only [List.map_map]
  rw [List.getD_eq_getElem?_getD, List.getElem?_map, List.getElem?_range hk]
  show pm_mv g (defaultValue (pm_ty ci k)) = _
  cases pm_ty ci k <;> rfl
theorem pm_c_new (I : pm_In p R s m args meth c D ct b g adV nL N0 xo cc own nm ex Nx Sx d) (hex : ex = true ∨ Nx ≤ N0) {pc : Nat} {lv : pmL} {h : pmH} {us j ci : Nat} {rest : List Value} {C : vw_C} (hd : decode cc pc = .ok (.new j, 3)) (hC : pm_cl[ci]? = some C) (w1 : Cond.classLink own j C.1 ∈ pm_WT) (w2 : Cond.instantiable C.1 C.2.2 ∈ pm_WT) (w3 : Cond.initialized C.1 ∈ pm_WT) (h1 : h.length + 1 ≤ Nx) (h2 : h.length < 1000000) (h3 : us + C.2.2 ≤ Sx) (kk : pm_Sem p l e R s m args below meth c Qf D ct b g nL N0 xo (pc + 3) lv (.ref h.length :: rest) (h ++ [.inr (ci, pm_df ci)]) (us + C.2.2)) : pm_Sem p l e R s m args below meth c Qf D ct b g nL N0 xo pc lv rest h us := by
  obtain ⟨hx, hb, hml, hown, hts, hE, hnm, hg, hsz, hNx, hSx, hf, hlo⟩ := I
  obtain ⟨hu, hty, hnn, -⟩ := pm_clOK ci C hC
  intro H locs ls hR hS hL hN
  have hexT : ex = true := hex.resolve_right (fun z => by omega)
  refine pm_Wsz fun hle => ?_
  have hge := pm_Rl_sz hR (pm_S_le hS hE.2.2.2.2.2.1)
  have hH : H.size = b + h.length := by have z := hsz hexT; rw [z.1, z.2] at hle; omega
  have hKn := hE.1.1 ci C hC
  have hts' : ∀ w ∈ u_ws C.1 C.2.1 C.2.2, w ∈ pm_WT := fun w hw => pm_WT_of (hu w hw).1 (hu w hw).2
  refine W.newcK hx hb hown (hts _ w1) (hts _ w2) (hts _ w3) rfl hd (by omega) (by omega) hKn.2.1 hH fun H1 kC hkC e1 z1 o1 => ?_
  have K := kk H1 locs ls ⟨by rw [List.length_append]; show h.length + 1 ≤ 1000000; omega, ?_⟩ ⟨by rw [z1]; have := hS.1; omega, fun q q1 q2 => (o1 q (by have := hS.1; omega)).trans (hS.2.1 q q1 q2), hS.2.2⟩ hL ⟨by rw [List.length_append]; omega, by rw [List.length_append]; show h.length + 1 + xo ≤ _; omega, by omega⟩
  · rw [pm_len1 h _ hN.1] at K
    have K : W p l e R s m args below meth c H1 locs (h.length - N0 + xo + 1) (us + C.2.2) Qf (F0 m (pc + 3) ls (.ref (g h.length) :: rest.map (pm_mv g))) := K
    rw [hg _ h2] at K
    exact K
  · rw [pm_ws_app]
    refine va_P.app (hR.2.kept (fun k x hx => o1 x.1 (by rw [← hH]; exact (hR.2 k x hx).lt))) (fun k x hx => ?_)
    have hz : k < 1 := (List.getElem?_eq_some_iff.mp hx).1
    rw [show k = 0 by omega] at hx
    cases hx
    exact ⟨_, hC, (u_born (pm_ty ci) hts hts' hKn hkC e1 hty).to (fun k hk => (pm_dfv g hC hk).symm)⟩
theorem pm_tys_at {t : Nat} (ht : t < 4) : (pm_tys ct)[t]? = some (ct t, pm_at4t t) := by
  match t, ht with
  | 0, _ => rfl
  | 1, _ => rfl
  | 2, _ => rfl
  | 3, _ => rfl
theorem pm_c_newa (I : pm_In p R s m args meth c D ct b g adV nL N0 xo cc own nm ex Nx Sx d) (hex : ex = true ∨ Nx ≤ N0) {pc : Nat} {lv : pmL} {h : pmH} {us t : Nat} {x : Int32} {rest : List Value} (hd : decode cc pc = .ok (.newarray (pm_at4 t), 2)) (ht : t < 4) (w1 : Cond.arrayClass (pm_at4t t) ∈ pm_WT) (hx0 : ¬ x < 0) (hxm : x.toNatClampNeg ≤ 4000) (h1 : h.length + 1 ≤ Nx) (h2 : h.length < 1000000) (h3 : us + x.toNatClampNeg ≤ Sx) (kk : pm_Sem p l e R s m args below meth c Qf D ct b g nL N0 xo (pc + 2) lv (.ref h.length :: rest) (h ++ [.inl (t, x.toNatClampNeg, if t = 3 then .inr (.inl (fun _ => 0)) else .inl (fun _ => 0))]) (us + x.toNatClampNeg)) : pm_Sem p l e R s m args below meth c Qf D ct b g nL N0 xo pc lv (.int x :: rest) h us := by
  obtain ⟨hx, hb, hml, hown, hts, hE, hnm, hg, hsz, hNx, hSx, hf, hlo⟩ := I
  intro H locs ls hR hS hL hN
  have hexT : ex = true := hex.resolve_right (fun z => by omega)
  refine pm_Wsz fun hle => ?_
  have hge := pm_Rl_sz hR (pm_S_le hS hE.2.2.2.2.2.1)
  have hH : H.size = b + h.length := by have z := hsz hexT; rw [z.1, z.2] at hle; omega
  have hty : newarray.typeOf (pm_at4 t) = pm_at4t t := by
    match t, ht with
    | 0, _ => rfl
    | 1, _ => rfl
    | 2, _ => rfl
    | 3, _ => rfl
  have hby : x.toNatClampNeg * componentBytes (newarray.typeOf (pm_at4 t)) ≤ 536870912 := by
    rw [hty]
    have : componentBytes (pm_at4t t) ≤ 8 := by
      match t, ht with
      | 0, _ => decide
      | 1, _ => decide
      | 2, _ => decide
      | 3, _ => decide
    have := Nat.mul_le_mul hxm this
    omega
  refine va_newaK hx hb (by rw [hty]; exact hts _ w1) rfl hd rfl hx0 rfl hby (by omega) (by omega) hH fun H1 cA e1 z1 o1 hAr hNm => ?_
  have hcA : cA = ct t := by
    have q := (hE.1.2 t _ (pm_tys_at ht)).2
    rw [hty] at hNm
    match t, ht with
    | 0, _ => exact Option.some.inj (hNm.symm.trans q)
    | 1, _ => exact Option.some.inj (hNm.symm.trans q)
    | 2, _ => exact Option.some.inj (hNm.symm.trans q)
    | 3, _ => exact Option.some.inj (hNm.symm.trans q)
  have K := kk H1 locs ls ⟨by rw [List.length_append]; show h.length + 1 ≤ 1000000; omega, ?_⟩ ⟨by rw [z1]; have := hS.1; omega, fun q q1 q2 => (o1 q (by have := hS.1; omega)).trans (hS.2.1 q q1 q2), hS.2.2⟩ hL ⟨by rw [List.length_append]; omega, by rw [List.length_append]; show h.length + 1 + xo ≤ _; omega, by omega⟩
  · rw [pm_len1 h _ hN.1] at K
    have K : W p l e R s m args below meth c H1 locs (h.length - N0 + xo + 1) (us + x.toNatClampNeg) Qf (F0 m (pc + 2) ls (.ref (g h.length) :: rest.map (pm_mv g))) := K
    rw [hg _ h2] at K
    exact K
  · rw [pm_ws_app]
    refine va_P.app (hR.2.kept (fun k y hy => o1 y.1 (by rw [← hH]; exact (hR.2 k y hy).lt))) (fun k y hy => ?_)
    have hz : k < 1 := (List.getElem?_eq_some_iff.mp hy).1
    rw [show k = 0 by omega] at hy
    cases hy
    show H1[b + h.length]? = some (vp_cell (ct t) (x.toNatClampNeg, _))
    rw [e1, hcA, hty]
    match t, ht with
    | 0, _ => rfl
    | 1, _ => rfl
    | 2, _ => rfl
    | 3, _ => rfl
/-! calls -/
theorem pm_B_blind {av : List Value} {h : pmH} : FrameBlind (va_Pc av (pm_B D ct b g adV ex h)) := fun a U gg mk q => ⟨q.1, q.2.1.same rfl, q.2.2.1, q.2.2.2⟩
theorem pm_cat_map (st : List Value) : ((st.map (pm_mv g)).map fun v => v.category).sum = pm_cat st := by
  unfold pm_cat
  rw [List.map_map]
  congr 1
  apply List.map_congr_left
  intro v _
  exact pm_mv_cat g v
/-- behind a call -/
theorem pm_c_run (I : pm_In p R s m args meth c D ct b g adV nL N0 xo cc own nm ex Nx Sx d) {pc : Nat} {lv : pmL} {h : pmH} {us mc ms : Nat} {st rest : List Value} {Post : pmQ} (hcat : pm_cat rest ≤ 8) (h1 : h.length + mc + xo ≤ N0 + R.cells) (h2 : us + ms ≤ R.slots)
    (hrun : ∀ (H : Heap) (locs : List Loc) (ls : Array Slot), pm_Rl D ct b g h H → va_S (fun q => b ≤ q) s.heap H locs → ls.size = nL → (ex = true → H.size = b + h.length) → h.length - N0 + xo + mc ≤ R.cells ∧ us + ms ≤ R.slots → ∃ a : Array Value, va_Run p l e R s m args below meth c H locs (h.length - N0 + xo) us mc ms (F0 m pc ls (st.map (pm_mv g))) (rest.map (pm_mv g)) (pm_Qc D ct b g (h.length + mc) Post a) (fun q => b ≤ q))
    (kk : ∀ (v : Option Value) (h' : pmH), h'.length = h.length + mc → Post v h' → pm_Sem p l e R s m args below meth c Qf D ct b g nL N0 xo (pc + 3) lv (v.toList ++ rest) h' (us + ms)) : pm_Sem p l e R s m args below meth c Qf D ct b g nL N0 xo pc lv st h us := by
  obtain ⟨hx, hb, hml, hown, hts, hE, hnm, hg, hsz, hNx, hSx, hf, hlo⟩ := I
  intro H locs ls hR hS hL hN
  refine pm_Wsz fun hle => ?_
  have hge := pm_Rl_sz hR (pm_S_le hS hE.2.2.2.2.2.1)
  obtain ⟨a, hr⟩ := hrun H locs ls hR hS hL.2.1 (fun z => by have y := hsz z; rw [y.1, y.2] at hle; omega) ⟨by omega, by omega⟩
  intro T hT X
  obtain ⟨v, st₀, t, T', L, e0, X', hLf, e1, e2, ⟨⟨v', h', hlen, hp, hv, hR'⟩, hz, hk⟩, go⟩ := hr T hT X
  cases hv
  rw [e0] at hz hk
  have hsz1 : H.size ≤ T'.heap.size := by rw [e1]; exact hz
  have K := kk v' h' hlen hp T'.heap (locs ++ L) ls (by rw [e1]; exact hR') ⟨Nat.le_trans hS.1 hsz1, fun q q1 q2 => by
      rw [e1, hk q (Nat.lt_of_lt_of_le q1 hS.1) q2]; exact hS.2.1 q q1 q2, fun q hq => by
      rcases List.mem_append.mp hq with z | z
      · exact hS.2.2 q z
      · exact hLf q z⟩ hL ⟨by omega, by omega, by omega⟩
  rw [show h'.length - N0 + xo = h.length - N0 + xo + mc by omega, List.map_append] at K
  have e3 : (v'.toList.map (pm_mv g)) = (v'.map (pm_mv g)).toList := by cases v' <;> rfl
  rw [e3] at K
  obtain ⟨t2, a1, b1⟩ := K T' rfl X'
  exact ⟨t2, go t2 a1, b1⟩
/-- what is known of the callees at depth d -/
def pm_Cs (l : Launch) (mt : List pmE) (D : va_G) (ct : Nat → ClassId) (b : Nat) (g adV : Nat → Nat) (d : Nat) (C : pmCall) : Prop := ∀ (ex : Bool) (mi : Nat) (e : pmE), mt[mi]? = some e → ∀ (mc ms : Nat) (as : List Value) (h : pmH) (Post : pmQ), (ex = true ∨ mc = 0) → C mi mc ms as h Post →
  Met l e.1 (Cond.code e.1 e.2.1 e.2.2.1 e.2.2.2.1 :: pm_WT) (pm_rm d mc ms) (va_Pc (as.map (pm_mv g)) (pm_B D ct b g adV ex h)) (pm_Qc D ct b g (h.length + mc) Post) mc ms (fun q => b ≤ q)
/-- the texts' own methods -/
def pm_Str (l : Launch) (D : va_G) (ct : Nat → ClassId) (b : Nat) (g adV : Nat → Nat) : Prop :=
  (Cond.code yJ0_length_8abf5 cJ0_length_8abf5 1 (some .int) ∈ pm_WT ∧ Cond.instanceMethod yJ0_length_8abf5 ∈ pm_WT ∧ Cond.selects "java/lang/String" yJ0_length_8abf5 yJ0_length_8abf5 ∈ pm_WT ∧ Cond.initialized "java/lang/String" ∈ pm_WT ∧ Cond.code yJ0_charAt_5068e cJ0_charAt_5068e 2 (some .char) ∈ pm_WT ∧ Cond.instanceMethod yJ0_charAt_5068e ∈ pm_WT ∧ Cond.selects "java/lang/String" yJ0_charAt_5068e yJ0_charAt_5068e ∈ pm_WT) ∧
  ∀ (j : Nat) (q : String × Nat × String), pm_str[j]? = some q → ∀ h : pmH,
    Met l yJ0_length_8abf5 (Cond.code yJ0_length_8abf5 cJ0_length_8abf5 1 (some .int) :: pm_WT) (pm_rm 0 0 0) (va_Pc [.ref (g (1000002 + j))] (pm_B D ct b g adV false h)) (pm_Qc D ct b g (h.length + 0) (fun v h' => v = some (.int (nI q.2.2.length)) ∧ h' = h)) 0 0 (fun q => b ≤ q) ∧
    ∀ i : Int32, vp_in i q.2.2.length → Met l yJ0_charAt_5068e (Cond.code yJ0_charAt_5068e cJ0_charAt_5068e 2 (some .char) :: pm_WT) (pm_rm 0 0 0) (va_Pc [.ref (g (1000002 + j)), .int i] (pm_B D ct b g adV false h)) (pm_Qc D ct b g (h.length + 0) (fun v h' => v = some (.int (nI ((q.2.2.toList.getD i.toNatClampNeg 'a').toNat))) ∧ h' = h)) 0 0 (fun q => b ≤ q)
theorem pm_ck_len {mt : List pmE} {mi : Nat} {e : pmE} (hmt : ∀ e ∈ mt, pm_eG false mt e) (h : mt[mi]? = some e) : pm_eG false mt e := hmt e (List.mem_of_getElem? h)
theorem pm_PreB (I : pm_In p R s m args meth c D ct b g adV nL N0 xo cc own nm ex Nx Sx d) {H : Heap} {locs : List Loc} {h : pmH} {as : List Value} {ex2 : Bool} (hR : pm_Rl D ct b g h H) (hS : va_S (fun q => b ≤ q) s.heap H locs) (hsz : ex2 = true → H.size = b + h.length) : ∀ U : State, U.heap = H → s.WarmedH U.vm → va_Pc as (pm_B D ct b g adV ex2 h) as.toArray U := by
  obtain ⟨hx, hb, hml, hown, hts, hE, -⟩ := I
  intro U hU hW
  exact ⟨rfl, by rw [hU]; exact hE.mv hW hS.1 hS.2.1, by rw [hU]; exact hR, fun z => by rw [hU]; exact hsz z⟩
theorem pm_CB (I : pm_In p R s m args meth c D ct b g adV nL N0 xo cc own nm ex Nx Sx d) {mt : List pmE} {E : pmE} (G : pm_eG false mt E) {j mc ms n d' : Nat} (hd' : d' ≤ d) (hn : E.2.2.2.2.1.getD 1 99 = n) (hw : Cond.methodLink own j E.1 ∈ pm_WT) : CallB R s args own j E.1 E.2.1 E.2.2.1 E.2.2.2.1 (Cond.code E.1 E.2.1 E.2.2.1 E.2.2.2.1 :: pm_WT) (pm_rm d' mc ms) mc ms n := by
  obtain ⟨hx, hb, hml, hown, hts, hE, hnm, hg, hsz, hNx, hSx, hf, hlo⟩ := I
  obtain ⟨g1, g2, g3, g4, g5, -⟩ := G
  rw [hn] at g4
  exact callB_of n hts (pm_WT_cons g1) rfl rfl rfl (hts _ g2) (hts _ hw) g4 ⟨pm_arf hd' hf, pm_room1 hd' g5 hlo⟩
theorem pm_CN (I : pm_In p R s m args meth c D ct b g adV nL N0 xo cc own nm ex Nx Sx d) {mt : List pmE} {E : pmE} (G : pm_eG false mt E) {j mc ms n d' : Nat} (hd' : d' ≤ d) (hn : E.2.2.2.2.1.getD 1 99 = n) (hw : Cond.methodLinkNest own j E.1 "AdmissionDesk" ∈ pm_NW) : va_CN R s args own j E.1 "AdmissionDesk" E.2.1 E.2.2.1 E.2.2.2.1 (Cond.code E.1 E.2.1 E.2.2.1 E.2.2.2.1 :: pm_WT) (pm_rm d' mc ms) mc ms n := by
  obtain ⟨hx, hb, hml, hown, hts, hE, hnm, hg, hsz, hNx, hSx, hf, hlo⟩ := I
  obtain ⟨g1, g2, g3, g4, g5, -⟩ := G
  rw [hn] at g4
  exact va_cnB n hts (pm_WT_cons g1) rfl rfl rfl (hE.2.2.2.2.2.2 _ hw) (hts _ g2) g4 ⟨pm_arf hd' hf, pm_room1 hd' g5 hlo⟩
theorem pm_stk {st : List Value} {n : Nat} (hn : n ≤ st.length) {rest : List Value} (h : st.drop n = rest) : st.map (pm_mv g) = (((st.take n).reverse).map (pm_mv g)).reverse ++ rest.map (pm_mv g) := by
  rw [List.map_reverse, List.reverse_reverse, ← h, ← List.map_append, List.take_append_drop]
theorem pm_stl {st : List Value} {n : Nat} (hn : n ≤ st.length) : (((st.take n).reverse).map (pm_mv g)).length = n := by
  rw [List.length_map, List.length_reverse, List.length_take]
  omega
/-- virtual -/
theorem pm_c_virt (I : pm_In p R s m args meth c D ct b g adV nL N0 xo cc own nm ex Nx Sx d) (hex : ex = true ∨ Nx ≤ N0) {mt : List pmE} (hmt : ∀ e ∈ mt, pm_eG false mt e) {C : pmCall} (hC : pm_Cs l mt D ct b g adV d C) {pc j mi n mc ms ci w a : Nat} {lv : pmL} {h : pmH} {us : Nat} {st rest : List Value} {fs : List Value} (hd : decode cc pc = .ok (.invokevirtual j, 3)) (hm : pm_cm mt own j 0 mi n w false = true) (hcc : pm_cc mt mi ci = true) (hn : n ≤ st.length) (hdr : st.drop n = .ref a :: rest) (ha : h[a]? = some (.inr (ci, fs))) (hcat : pm_cat rest ≤ 8) (h1 : h.length + mc ≤ Nx) (h2 : us + ms ≤ Sx)
    (hcall : C mi mc ms (.ref a :: (st.take n).reverse) h (fun v h' => pm_Sem p l e R s m args below meth c Qf D ct b g nL N0 xo (pc + 3) lv (v.toList ++ rest) h' (us + ms))) : pm_Sem p l e R s m args below meth c Qf D ct b g nL N0 xo pc lv st h us := by
  obtain ⟨E, hE1, hE2, hE3, -, hE4⟩ := pm_cm_of hm
  obtain ⟨E', Cl, hE1', hCl, hcls⟩ := pm_cc_of hcc
  cases hE1.symm.trans hE1'
  have G := pm_ck_len hmt hE1
  have I2 := I
  obtain ⟨hx, hb, hml, hown, hts, hE, hnm, hg, hsz, hNx, hSx, hf, hlo⟩ := I
  intro H0 locs0 ls0 hR0 hS0 hL0 hN0
  have hmc : ex = true ∨ mc = 0 := hex.imp id (fun z => by omega)
  have hM := hC ex mi E hE1 mc ms _ h _ hmc hcall
  refine pm_c_run I2 (mc := mc) (ms := ms) hcat (by omega) (by omega) (fun H locs ls hR hS hsl hsz1 hfit => ?_) (fun v h' _ hp => hp) H0 locs0 ls0 hR0 hS0 hL0 hN0
  have ga : g a = b + a := pm_ga hg hR ha
  refine ⟨_, va_runV (C := E.1.cls) (b := b + a) (As := ((st.take n).reverse).map (pm_mv g)) ⟨hx, hb, hml, hown, hts⟩ (by rw [List.map_cons, show pm_mv g (.ref a) = .ref (b + a) by show Value.ref (g a) = _; rw [ga]] at hM; exact hM) ⟨pm_CB I2 G (Nat.le_refl d) hE3 (hE4 rfl), hts _ (G.2.2.2.2.2.1 hE2).1, hts _ (G.2.2.2.2.2.1 hE2).2⟩ ⟨pm_B_blind, ?_, pm_PreB I2 hR hS hsz1⟩ rfl (pm_stl hn) hsl ?_ (lv_room (by rw [pm_cat_map]; exact hcat)) hd hfit⟩
  · rw [← hcls]
    exact va_recv hE.1 hR.2 hCl (pm_ws_at ha)
  · show st.map (pm_mv g) = _
    rw [pm_stk hn hdr, List.map_cons, show pm_mv g (.ref a) = .ref (b + a) by show Value.ref (g a) = _; rw [ga]]
theorem pm_c_stat (I : pm_In p R s m args meth c D ct b g adV nL N0 xo cc own nm ex Nx Sx d) (hex : ex = true ∨ Nx ≤ N0) {mt : List pmE} (hmt : ∀ e ∈ mt, pm_eG false mt e) {C : pmCall} (hC : pm_Cs l mt D ct b g adV d C) {pc j mi n mc ms w : Nat} {lv : pmL} {h : pmH} {us : Nat} {st : List Value} (hd : decode cc pc = .ok (.invokestatic j, 3)) (hm : pm_cm mt own j 1 mi n w false = true) (hn : n ≤ st.length) (hcat : pm_cat (st.drop n) ≤ 8) (h1 : h.length + mc ≤ Nx) (h2 : us + ms ≤ Sx)
    (hcall : C mi mc ms (st.take n).reverse h (fun v h' => pm_Sem p l e R s m args below meth c Qf D ct b g nL N0 xo (pc + 3) lv (v.toList ++ st.drop n) h' (us + ms))) : pm_Sem p l e R s m args below meth c Qf D ct b g nL N0 xo pc lv st h us := by
  obtain ⟨E, hE1, hE2, hE3, -, hE4⟩ := pm_cm_of hm
  have G := pm_ck_len hmt hE1
  have I2 := I
  obtain ⟨hx, hb, hml, hown, hts, hE, hnm, hg, hsz, hNx, hSx, hf, hlo⟩ := I
  intro H0 locs0 ls0 hR0 hS0 hL0 hN0
  have hmc : ex = true ∨ mc = 0 := hex.imp id (fun z => by omega)
  have hM := hC ex mi E hE1 mc ms _ h _ hmc hcall
  refine pm_c_run I2 (mc := mc) (ms := ms) hcat (by omega) (by omega) (fun H locs ls hR hS hsl hsz1 hfit => ?_) (fun v h' _ hp => hp) H0 locs0 ls0 hR0 hS0 hL0 hN0
  refine ⟨_, va_runS (As := ((st.take n).reverse).map (pm_mv g)) ⟨hx, hb, hml, hown, hts⟩ hM ⟨pm_CB I2 G (Nat.le_refl d) hE3 (hE4 rfl), hts _ (G.2.2.2.2.2.2.1 hE2)⟩ ⟨pm_B_blind, pm_PreB I2 hR hS hsz1⟩ rfl (pm_stl hn) hsl ?_ (lv_room (by rw [pm_cat_map]; exact hcat)) hd hfit⟩
  show st.map (pm_mv g) = _
  rw [pm_stk hn rfl]
theorem pm_c_init (I : pm_In p R s m args meth c D ct b g adV nL N0 xo cc own nm ex Nx Sx d) (hex : ex = true ∨ Nx ≤ N0) {mt : List pmE} (hmt : ∀ e ∈ mt, pm_eG false mt e) {C : pmCall} (hC : pm_Cs l mt D ct b g adV d C) {pc j mi n mc ms w a : Nat} {nest : Bool} {lv : pmL} {h : pmH} {us : Nat} {st rest : List Value} (hd : decode cc pc = .ok (.invokespecial j, 3)) (hm : pm_cm mt own j 2 mi n w nest = true) (hn : n ≤ st.length) (hdr : st.drop n = .ref a :: rest) (hcat : pm_cat rest ≤ 8) (h1 : h.length + mc ≤ Nx) (h2 : us + ms ≤ Sx)
    (hcall : C mi mc ms (.ref a :: (st.take n).reverse) h (fun v h' => pm_Sem p l e R s m args below meth c Qf D ct b g nL N0 xo (pc + 3) lv (v.toList ++ rest) h' (us + ms))) : pm_Sem p l e R s m args below meth c Qf D ct b g nL N0 xo pc lv st h us := by
  obtain ⟨E, hE1, hE2, hE3, hE5, hE4⟩ := pm_cm_of hm
  have G := pm_ck_len hmt hE1
  have I2 := I
  obtain ⟨hx, hb, hml, hown, hts, hE, hnm, hg, hsz, hNx, hSx, hf, hlo⟩ := I
  intro H0 locs0 ls0 hR0 hS0 hL0 hN0
  have hmc : ex = true ∨ mc = 0 := hex.imp id (fun z => by omega)
  have hM := hC ex mi E hE1 mc ms _ h _ hmc hcall
  obtain ⟨g7, g8, g9⟩ := G.2.2.2.2.2.2.2.1 hE2
  refine pm_c_run I2 (mc := mc) (ms := ms) hcat (by omega) (by omega) (fun H locs ls hR hS hsl hsz1 hfit => ?_) (fun v h' _ hp => hp) H0 locs0 ls0 hR0 hS0 hL0 hN0
  have hst : (F0 m pc ls (st.map (pm_mv g))).stack = (((st.take n).reverse).map (pm_mv g)).reverse ++ .ref (g a) :: rest.map (pm_mv g) := by
    show st.map (pm_mv g) = _
    rw [pm_stk hn hdr, List.map_cons]
    rfl
  cases nest with
  | false =>
    have cb := pm_CB I2 G (mc := mc) (ms := ms) (Nat.le_refl d) hE3 (hE4 rfl)
    rw [g9] at cb hM
    exact ⟨_, va_runI (b := g a) (As := ((st.take n).reverse).map (pm_mv g)) ⟨hx, hb, hml, hown, hts⟩ hM ⟨cb, g8, hts _ g7⟩ ⟨pm_B_blind, pm_PreB I2 hR hS hsz1⟩ rfl (pm_stl hn) hsl hst (lv_room (by rw [pm_cat_map]; exact hcat)) hd hfit⟩
  | true =>
    have cb := pm_CN I2 G (mc := mc) (ms := ms) (Nat.le_refl d) hE3 (hE5 rfl)
    rw [g9] at cb hM
    exact ⟨_, va_runIN (b := g a) (As := ((st.take n).reverse).map (pm_mv g)) ⟨hx, hb, hml, hown, hts⟩ hM ⟨cb, g8, hts _ g7⟩ ⟨pm_B_blind, pm_PreB I2 hR hS hsz1⟩ rfl (pm_stl hn) hsl hst (lv_room (by rw [pm_cat_map]; exact hcat)) hd hfit⟩
end PMD
