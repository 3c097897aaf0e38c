/-! SOUNDNESS, two: what a pure point means in the machine; each instruction keeps it. -/
section PMC
variable {p : Program} {l : Launch} {e : Env} {R : Room} {s : State} {m : MethodId} {args : Array Value} {below : List Frame} {meth : Method} {c : Code} {Qf : State → Prop}
variable {D : va_G} {ct : Nat → ClassId} {b : Nat} {g adV : Nat → Nat} {nL N0 xo : Nat} {cc : ByteArray} {own nm : String} {ex : Bool}
def pm_Sem (p : Program) (l : Launch) (e : Env) (R : Room) (s : State) (m : MethodId) (args : Array Value) (below : List Frame) (meth : Method) (c : Code) (Qf : State → Prop) (D : va_G) (ct : Nat → ClassId) (b : Nat) (g : Nat → Nat) (nL N0 xo : Nat) : pmK := fun pc lv st h us =>
  ∀ (H : Heap) (locs : List Loc) (ls : Array Slot), pm_Rl D ct b g h H → va_S (fun q => b ≤ q) s.heap H locs → pm_ls g nL lv ls → (N0 ≤ h.length ∧ h.length + xo ≤ N0 + R.cells ∧ us ≤ R.slots) → W p l e R s m args below meth c H locs (h.length - N0 + xo) us Qf (F0 m pc ls (st.map (pm_mv g)))
/-- what is known inside a method -/
def pm_In (p : Program) (R : Room) (s : State) (m : MethodId) (args : Array Value) (meth : Method) (c : Code) (D : va_G) (ct : Nat → ClassId) (b : Nat) (g adV : Nat → Nat) (nL N0 xo : Nat) (cc : ByteArray) (own nm : String) (ex : Bool) (Nx Sx d : Nat) : Prop :=
  p.tables.exec = Jvm.exec ∧ c.code = cc ∧ c.maxLocals = nL ∧ s.vm.findClass own = some m.cls ∧ (∀ w ∈ pm_WT, w.before args s = true) ∧ pm_En D ct b g adV s s.heap ∧ (nm = "<init>" → meth.name = "<init>") ∧ (∀ k, k < 1000000 → g k = b + k) ∧ (ex = true → s.heap.size = b + N0 ∧ xo = 0) ∧ Nx + xo ≤ N0 + R.cells ∧ Sx ≤ R.slots ∧ d + 21 ≤ R.frames ∧ 64 * d + 1344 ≤ R.locals
variable {Nx Sx d : Nat}
theorem pm_lt {h : pmH} {a : Nat} {x : pmC} (ha : h[a]? = some x) : a < h.length := (List.getElem?_eq_some_iff.mp ha).1
theorem pm_ga {D : va_G} {ct : Nat → ClassId} {b : Nat} {g : Nat → Nat} {h : pmH} {H : Heap} {a : Nat} {x : pmC} (hg : ∀ k, k < 1000000 → g k = b + k) (hR : pm_Rl D ct b g h H) (ha : h[a]? = some x) : g a = b + a := hg a (Nat.lt_of_lt_of_le (pm_lt ha) hR.1)
/-- what the count of cells says of the heap's size -/
theorem pm_Wsz {H : Heap} {locs : List Loc} {cells slots : Nat} {gg : JFrame} (k : H.size ≤ s.heap.size + cells → W p l e R s m args below meth c H locs cells slots Qf gg) : W p l e R s m args below meth c H locs cells slots Qf gg := fun T hT X => k (by
  have := X.same.2.2.1
  rw [show (T.setVm s.vm).heap = T.heap from rfl, hT] at this
  exact this) T hT X
theorem pm_S_le {H : Heap} {locs : List Loc} (hS : va_S (fun q => b ≤ q) s.heap H locs) (hb : b ≤ s.heap.size) : b ≤ H.size := Nat.le_trans hb hS.1
/-! getfield, putfield -/
theorem pm_c_get (I : pm_In p R s m args meth c D ct b g adV nL N0 xo cc own nm ex Nx Sx d) {pc : Nat} {lv : pmL} {h : pmH} {us : Nat} {j a ci k var w : Nat} {rest fs : List Value} {v : Value} {C : vw_C} (hd : decode cc pc = .ok (.getfield j, 3)) (ha : h[a]? = some (.inr (ci, fs))) (hv : fs[k]? = some v) (hC : pm_cl[ci]? = some C) (hk : k < C.2.2) (hw : pm_fw own j (C.2.1 k) var w = true) (kk : pm_Sem p l e R s m args below meth c Qf D ct b g nL N0 xo (pc + 3) lv (v :: rest) h us) : pm_Sem p l e R s m args below meth c Qf D ct b g nL N0 xo pc lv (.ref a :: rest) h us := by
  obtain ⟨hx, hb, hml, hown, hts, hE, -, hg, -⟩ := I
  obtain ⟨hu, -, -, -⟩ := pm_clOK ci C hC
  intro H locs ls hR hS hL hN
  have K := kk H locs ls hR hS hL hN
  show W p l e R s m args below meth c H locs (h.length - N0 + xo) us Qf (F0 m pc ls (.ref (g a) :: rest.map (pm_mv g)))
  rw [pm_ga hg hR ha]
  have hv' : (fs.map (pm_mv g))[k]? = some (pm_mv g v) := by rw [List.getElem?_map, hv]; rfl
  unfold pm_fw at hw
  split at hw
  · exact va_get (C := C.1) (T := C.2.1) (N := C.2.2) (ci := ci) hx hb hts (fun w hw => pm_WT_of (hu w hw).1 (hu w hw).2) hown hE.1 hR.2 a (pm_ws_at ha) hC k hk (hts _ (pm_w_in hw)) (fun _ z => z) hv' hd K
  · exact va_getN (C := C.1) (T := C.2.1) (N := C.2.2) (ci := ci) hx hb hts (fun w hw => pm_WT_of (hu w hw).1 (hu w hw).2) hown hE.1 hR.2 a (pm_ws_at ha) hC k hk (va_Nw.use rfl (hE.2.2.2.2.2.2 _ (pm_wn_in hw))) (fun _ z => z) hv' hd K
theorem pm_fit {ty : FieldType} {v : Value} (g : Nat → Nat) (h : pm_vk (pm_kd ty) v) : narrow ty (pm_mv g v) = pm_mv g v ∧ fits ty (pm_mv g v) = true := by
  cases ty <;> cases v <;> simp only [pm_kd, pm_vk] at h <;> first
    | exact h.elim
    | exact ⟨rfl, rfl⟩
    | (rcases h with rfl | rfl <;> exact ⟨rfl, rfl⟩)
theorem pm_Rl_set {h : pmH} {H1 : Heap} {a : Nat} {x : pmC} (hl : h.length ≤ 1000000) (hP : va_P D pm_cl ((pm_ws b ct g h).set a (b + a, pm_e ct g x)) H1) : pm_Rl D ct b g (h.set a x) H1 := ⟨by rw [List.length_set]; exact hl, by rw [← pm_ws_set]; exact hP⟩
theorem pm_map_set (g : Nat → Nat) (fs : List Value) (k : Nat) (v : Value) : (fs.set k v).map (pm_mv g) = (fs.map (pm_mv g)).set k (pm_mv g v) := by rw [List.map_set]
theorem pm_c_put (I : pm_In p R s m args meth c D ct b g adV nL N0 xo cc own nm ex Nx Sx d) {pc : Nat} {lv : pmL} {h : pmH} {us : Nat} {j a ci k var w fin : Nat} {rest fs : List Value} {v : Value} {C : vw_C} (hd : decode cc pc = .ok (.putfield j, 3)) (ha : h[a]? = some (.inr (ci, fs))) (hkl : k < fs.length) (hvk : pm_vk (pm_kd (pm_ty ci k)) v) (hC : pm_cl[ci]? = some C) (hk : k < C.2.2) (hw : pm_fw own j (C.2.1 k) var w = true) (hf1 : (C.2.1 k).2.2.2 = decide (fin = 1)) (hf2 : fin = 0 ∨ (fin = 1 ∧ var = 0 ∧ (C.2.1 k).1 = own ∧ nm = "<init>")) (kk : pm_Sem p l e R s m args below meth c Qf D ct b g nL N0 xo (pc + 3) lv rest (h.set a (.inr (ci, fs.set k v))) us) : pm_Sem p l e R s m args below meth c Qf D ct b g nL N0 xo pc lv (v :: .ref a :: rest) h us := by
  obtain ⟨hx, hb, hml, hown, hts, hE, hnm, hg, -⟩ := I
  obtain ⟨hu, hty, hnn, -⟩ := pm_clOK ci C hC
  intro H locs ls hR hS hL hN
  show W p l e R s m args below meth c H locs (h.length - N0 + xo) us Qf (F0 m pc ls (pm_mv g v :: .ref (g a) :: rest.map (pm_mv g)))
  rw [pm_ga hg hR ha]
  obtain ⟨hn, hfit⟩ := pm_fit g hvk
  have K : ∀ (H1 : Heap) (locs1 : List Loc), va_P D pm_cl ((pm_ws b ct g h).set a (b + a, .inr (ci, (fs.map (pm_mv g)).set k (pm_mv g v)))) H1 → va_D (fun q => b ≤ q) ((pm_ws b ct g h).set a (b + a, .inr (ci, (fs.map (pm_mv g)).set k (pm_mv g v)))) → va_S (fun q => b ≤ q) s.heap H1 locs1 → W p l e R s m args below meth c H1 locs1 (h.length - N0 + xo) us Qf (F0 m (pc + 3) ls (rest.map (pm_mv g))) := by
    intro H1 locs1 hP1 _ hS1
    have := kk H1 locs1 ls (pm_Rl_set hR.1 (by show va_P D pm_cl ((pm_ws b ct g h).set a (b + a, .inr (ci, (fs.set k v).map (pm_mv g)))) H1; rw [pm_map_set]; exact hP1)) hS1 hL (by rw [List.length_set]; exact hN)
    rw [List.length_set] at this
    exact this
  have hts' : ∀ w ∈ u_ws C.1 C.2.1 C.2.2, w ∈ pm_WT := fun w hw => pm_WT_of (hu w hw).1 (hu w hw).2
  have hl' : k < (fs.map (pm_mv g)).length := by rw [List.length_map]; exact hkl
  rcases hf2 with rfl | ⟨rfl, rfl, ho, hi⟩
  · unfold pm_fw at hw
    split at hw
    · exact va_put (D := D) (C := C.1) (T := C.2.1) (N := C.2.2) (ci := ci) hx hb hts hts' (pm_ty ci) hty hnn hown hE.1 hR.2 (pm_ws_D b ct g h) hS a (pm_ws_at ha) hC k hk (hts _ (pm_w_in hw)) (fun _ z => z) hf1 (hty k hk) hn hfit hl' hd K
    · exact va_putN (D := D) (C := C.1) (T := C.2.1) (N := C.2.2) (ci := ci) hx hb hts hts' (pm_ty ci) hty hnn hown hE.1 hR.2 (pm_ws_D b ct g h) hS a (pm_ws_at ha) hC k hk (va_Nw.use rfl (hE.2.2.2.2.2.2 _ (pm_wn_in hw))) (fun _ z => z) hf1 (hty k hk) hn hfit hl' hd K
  · unfold pm_fw at hw
    rw [if_pos rfl] at hw
    exact va_putF (D := D) (C := C.1) (T := C.2.1) (N := C.2.2) (ci := ci) hx hb hts hts' (pm_ty ci) hty hnn hown hE.1 hR.2 (pm_ws_D b ct g h) hS a (pm_ws_at ha) hC k hk (hts _ (pm_w_in hw)) (fun _ z => z) hf1 (hnm hi) ho (hty k hk) hn hfit hl' hd K
/-! arrays -/
theorem pm_c_len (I : pm_In p R s m args meth c D ct b g adV nL N0 xo cc own nm ex Nx Sx d) {pc : Nat} {lv : pmL} {h : pmH} {us a : Nat} {rest : List Value} {q : Nat × vp_A} (hd : decode cc pc = .ok (.arraylength, 1)) (ha : h[a]? = some (.inl q)) (ht : q.1 < 4) (kk : pm_Sem p l e R s m args below meth c Qf D ct b g nL N0 xo (pc + 1) lv (.int (nI q.2.1) :: rest) h us) : pm_Sem p l e R s m args below meth c Qf D ct b g nL N0 xo pc lv (.ref a :: rest) h us := by
  obtain ⟨hx, hb, hml, hown, hts, hE, hnm, hg, -⟩ := I
  intro H locs ls hR hS hL hN
  have K := kk H locs ls hR hS hL hN
  show W p l e R s m args below meth c H locs (h.length - N0 + xo) us Qf (F0 m pc ls (.ref (g a) :: rest.map (pm_mv g)))
  rw [pm_ga hg hR ha]
  have ht' : (pm_tys ct)[q.1]? = some (ct q.1, pm_at4t q.1) := by
    obtain ⟨t, x⟩ := q
    match t, ht with
    | 0, _ => rfl
    | 1, _ => rfl
    | 2, _ => rfl
    | 3, _ => rfl
  exact va_alen hx hb hE.1 hR.2 a q.1 (pm_ws_at ha) ht' rfl hd K
theorem pm_c_lenR (I : pm_In p R s m args meth c D ct b g adV nL N0 xo cc own nm ex Nx Sx d) {pc : Nat} {lv : pmL} {h : pmH} {us a n : Nat} {f : Nat → Int32} {rest : List Value} (hd : decode cc pc = .ok (.arraylength, 1)) (hro : va_T .int (g a) n (fun i => .int (f i)) (fun q => b ≤ q) s s.heap) (kk : pm_Sem p l e R s m args below meth c Qf D ct b g nL N0 xo (pc + 1) lv (.int (nI n) :: rest) h us) : pm_Sem p l e R s m args below meth c Qf D ct b g nL N0 xo pc lv (.ref a :: rest) h us := by
  obtain ⟨hx, hb, -⟩ := I
  intro H locs ls hR hS hL hN
  have K := kk H locs ls hR hS hL hN
  obtain ⟨cell, h1, h2, h3, h4, h5, h6, h7⟩ := hro.kept hS.2.1
  exact W.alen hx hb h1 h2 h5 rfl rfl hd K
theorem pm_c_iald (I : pm_In p R s m args meth c D ct b g adV nL N0 xo cc own nm ex Nx Sx d) {pc : Nat} {lv : pmL} {h : pmH} {us a n : Nat} {f : Nat → Int32} {i : Int32} {rest : List Value} (hd : decode cc pc = .ok (.iaload, 1)) (ha : h[a]? = some (.inl (0, n, .inl f))) (hi : vp_in i n) (kk : pm_Sem p l e R s m args below meth c Qf D ct b g nL N0 xo (pc + 1) lv (.int (f i.toNatClampNeg) :: rest) h us) : pm_Sem p l e R s m args below meth c Qf D ct b g nL N0 xo pc lv (.int i :: .ref a :: rest) h us := by
  obtain ⟨hx, hb, hml, hown, hts, hE, hnm, hg, -⟩ := I
  intro H locs ls hR hS hL hN
  have K := kk H locs ls hR hS hL hN
  show W p l e R s m args below meth c H locs (h.length - N0 + xo) us Qf (F0 m pc ls (.int i :: .ref (g a) :: rest.map (pm_mv g)))
  rw [pm_ga hg hR ha]
  exact va_iald hx hb hE.1 hR.2 a 0 (pm_ws_at ha) rfl hi hd K
theorem pm_c_ialdR (I : pm_In p R s m args meth c D ct b g adV nL N0 xo cc own nm ex Nx Sx d) {pc : Nat} {lv : pmL} {h : pmH} {us a n : Nat} {f : Nat → Int32} {i : Int32} {rest : List Value} (hd : decode cc pc = .ok (.iaload, 1)) (hro : va_T .int (g a) n (fun i => .int (f i)) (fun q => b ≤ q) s s.heap) (hi : vp_in i n) (kk : pm_Sem p l e R s m args below meth c Qf D ct b g nL N0 xo (pc + 1) lv (.int (f i.toNatClampNeg) :: rest) h us) : pm_Sem p l e R s m args below meth c Qf D ct b g nL N0 xo pc lv (.int i :: .ref a :: rest) h us := by
  obtain ⟨hx, hb, -⟩ := I
  intro H locs ls hR hS hL hN
  have K := kk H locs ls hR hS hL hN
  obtain ⟨cell, h1, h2, h3, h4, h5, h6, h7⟩ := hro.kept hS.2.1
  have hlt : i.toNatClampNeg < n := Nat.not_le.mp fun q => hi (Or.inr q)
  exact W.iald hx hb h1 h2 h3 (fun z => hi (z.imp id (fun z => by omega))) (h6 _ hlt) rfl rfl hd K
theorem pm_c_bald (I : pm_In p R s m args meth c D ct b g adV nL N0 xo cc own nm ex Nx Sx d) {pc : Nat} {lv : pmL} {h : pmH} {us a n t : Nat} {f : Nat → Int32} {i : Int32} {rest : List Value} (hd : decode cc pc = .ok (.baload, 1)) (ha : h[a]? = some (.inl (t, n, .inl f))) (ht : t = 1 ∨ t = 2) (hi : vp_in i n) (kk : pm_Sem p l e R s m args below meth c Qf D ct b g nL N0 xo (pc + 1) lv (.int (f i.toNatClampNeg) :: rest) h us) : pm_Sem p l e R s m args below meth c Qf D ct b g nL N0 xo pc lv (.int i :: .ref a :: rest) h us := by
  obtain ⟨hx, hb, hml, hown, hts, hE, hnm, hg, -⟩ := I
  intro H locs ls hR hS hL hN
  have K := kk H locs ls hR hS hL hN
  show W p l e R s m args below meth c H locs (h.length - N0 + xo) us Qf (F0 m pc ls (.int i :: .ref (g a) :: rest.map (pm_mv g)))
  rw [pm_ga hg hR ha]
  rcases ht with rfl | rfl
  · exact va_bald hx hb hE.1 hR.2 a 1 (pm_ws_at ha) rfl hi hd K
  · exact va_zald hx hb hE.1 hR.2 a 2 (pm_ws_at ha) rfl hi hd K
theorem pm_c_lald (I : pm_In p R s m args meth c D ct b g adV nL N0 xo cc own nm ex Nx Sx d) {pc : Nat} {lv : pmL} {h : pmH} {us a n : Nat} {f : Nat → Int64} {i : Int32} {rest : List Value} (hd : decode cc pc = .ok (.laload, 1)) (ha : h[a]? = some (.inl (3, n, .inr (.inl f)))) (hi : vp_in i n) (kk : pm_Sem p l e R s m args below meth c Qf D ct b g nL N0 xo (pc + 1) lv (.long (f i.toNatClampNeg) :: rest) h us) : pm_Sem p l e R s m args below meth c Qf D ct b g nL N0 xo pc lv (.int i :: .ref a :: rest) h us := by
  obtain ⟨hx, hb, hml, hown, hts, hE, hnm, hg, -⟩ := I
  intro H locs ls hR hS hL hN
  have K := kk H locs ls hR hS hL hN
  show W p l e R s m args below meth c H locs (h.length - N0 + xo) us Qf (F0 m pc ls (.int i :: .ref (g a) :: rest.map (pm_mv g)))
  rw [pm_ga hg hR ha]
  exact va_lald hx hb hE.1 hR.2 a 3 (pm_ws_at ha) rfl hi hd K
theorem pm_c_iast (I : pm_In p R s m args meth c D ct b g adV nL N0 xo cc own nm ex Nx Sx d) {pc : Nat} {lv : pmL} {h : pmH} {us a n : Nat} {f : Nat → Int32} {x i : Int32} {rest : List Value} (hd : decode cc pc = .ok (.iastore, 1)) (ha : h[a]? = some (.inl (0, n, .inl f))) (hi : vp_in i n) (kk : pm_Sem p l e R s m args below meth c Qf D ct b g nL N0 xo (pc + 1) lv rest (h.set a (.inl (0, n, .inl (upd f i.toNatClampNeg x)))) us) : pm_Sem p l e R s m args below meth c Qf D ct b g nL N0 xo pc lv (.int x :: .int i :: .ref a :: rest) h us := by
  obtain ⟨hx, hb, hml, hown, hts, hE, hnm, hg, -⟩ := I
  intro H locs ls hR hS hL hN
  show W p l e R s m args below meth c H locs (h.length - N0 + xo) us Qf (F0 m pc ls (.int x :: .int i :: .ref (g a) :: rest.map (pm_mv g)))
  rw [pm_ga hg hR ha]
  refine va_iast hx hb hE.1 hR.2 (pm_ws_D b ct g h) hS a 0 (pm_ws_at ha) rfl hi hd fun H1 locs1 hP1 _ hS1 => ?_
  have := kk H1 locs1 ls (pm_Rl_set hR.1 hP1) hS1 hL (by rw [List.length_set]; exact hN)
  rw [List.length_set] at this
  exact this
theorem pm_c_bast (I : pm_In p R s m args meth c D ct b g adV nL N0 xo cc own nm ex Nx Sx d) {pc : Nat} {lv : pmL} {h : pmH} {us a n t : Nat} {f : Nat → Int32} {x i : Int32} {rest : List Value} (hd : decode cc pc = .ok (.bastore, 1)) (ha : h[a]? = some (.inl (t, n, .inl f))) (ht : t = 1 ∨ t = 2) (hi : vp_in i n) (kk : pm_Sem p l e R s m args below meth c Qf D ct b g nL N0 xo (pc + 1) lv rest (h.set a (.inl (t, n, .inl (upd f i.toNatClampNeg (vp_nar (if t = 1 then .byte else .boolean) x))))) us) : pm_Sem p l e R s m args below meth c Qf D ct b g nL N0 xo pc lv (.int x :: .int i :: .ref a :: rest) h us := by
  obtain ⟨hx, hb, hml, hown, hts, hE, hnm, hg, -⟩ := I
  intro H locs ls hR hS hL hN
  show W p l e R s m args below meth c H locs (h.length - N0 + xo) us Qf (F0 m pc ls (.int x :: .int i :: .ref (g a) :: rest.map (pm_mv g)))
  rw [pm_ga hg hR ha]
  rcases ht with rfl | rfl
  · refine va_bast hx hb hE.1 hR.2 (pm_ws_D b ct g h) hS a 1 (pm_ws_at ha) rfl hi hd fun H1 locs1 hP1 _ hS1 => ?_
    have := kk H1 locs1 ls (pm_Rl_set hR.1 hP1) hS1 hL (by rw [List.length_set]; exact hN)
    rw [List.length_set] at this
    exact this
  · refine va_zast hx hb hE.1 hR.2 (pm_ws_D b ct g h) hS a 2 (pm_ws_at ha) rfl hi hd fun H1 locs1 hP1 _ hS1 => ?_
    have := kk H1 locs1 ls (pm_Rl_set hR.1 hP1) hS1 hL (by rw [List.length_set]; exact hN)
    rw [List.length_set] at this
    exact this
theorem pm_c_last (I : pm_In p R s m args meth c D ct b g adV nL N0 xo cc own nm ex Nx Sx d) {pc : Nat} {lv : pmL} {h : pmH} {us a n : Nat} {f : Nat → Int64} {x : Int64} {i : Int32} {rest : List Value} (hd : decode cc pc = .ok (.lastore, 1)) (ha : h[a]? = some (.inl (3, n, .inr (.inl f)))) (hi : vp_in i n) (kk : pm_Sem p l e R s m args below meth c Qf D ct b g nL N0 xo (pc + 1) lv rest (h.set a (.inl (3, n, .inr (.inl (vp_updL f i.toNatClampNeg x))))) us) : pm_Sem p l e R s m args below meth c Qf D ct b g nL N0 xo pc lv (.long x :: .int i :: .ref a :: rest) h us := by
  obtain ⟨hx, hb, hml, hown, hts, hE, hnm, hg, -⟩ := I
  intro H locs ls hR hS hL hN
  show W p l e R s m args below meth c H locs (h.length - N0 + xo) us Qf (F0 m pc ls (.long x :: .int i :: .ref (g a) :: rest.map (pm_mv g)))
  rw [pm_ga hg hR ha]
  refine va_last hx hb hE.1 hR.2 (pm_ws_D b ct g h) hS a 3 (pm_ws_at ha) rfl hi hd fun H1 locs1 hP1 _ hS1 => ?_
  have := kk H1 locs1 ls (pm_Rl_set hR.1 hP1) hS1 hL (by rw [List.length_set]; exact hN)
  rw [List.length_set] at this
  exact this
/-! locals -/
theorem pm_c_st (I : pm_In p R s m args meth c D ct b g adV nL N0 xo cc own nm ex Nx Sx d) {pc i len : Nat} {lv : pmL} {h : pmH} {us : Nat} {rest : List Value} {x : Value} (hx1 : x.category = 1) (hi : i < nL)
    (row : ∀ (H : Heap) (locs : List Loc) (ls : Array Slot), pm_ls g nL lv ls → (∀ ls' : Array Slot, lv_has ls' nL ((i, pm_mv g x) :: (pm_pl g lv).filter (fun q => !(q.1 == i) && !(q.1 + 1 == i && q.2.category == 2))) → W p l e R s m args below meth c H locs (h.length - N0 + xo) us Qf (F0 m (pc + len) ls' (rest.map (pm_mv g)))) → W p l e R s m args below meth c H locs (h.length - N0 + xo) us Qf (F0 m pc ls (pm_mv g x :: rest.map (pm_mv g))))
    (kk : pm_Sem p l e R s m args below meth c Qf D ct b g nL N0 xo (pc + len) (lv.set i (some x)) rest h us) : pm_Sem p l e R s m args below meth c Qf D ct b g nL N0 xo pc lv (x :: rest) h us := by
  intro H locs ls hR hS hL hN
  exact row H locs ls hL fun ls' h' => kk H locs ls' hR hS (pm_ls_set hL hi hx1 h') hN
end PMC
