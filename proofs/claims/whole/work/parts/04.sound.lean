/-! SOUNDNESS of the pure machine, one: words, worlds, the meaning of a pure point, what a check of the code gives. -/
def pm_WT : List Cond := lw_tbl.filter goodWord
theorem pm_WT_of {w : Cond} (h1 : w ∈ lw_tbl) (h2 : goodWord w = true) : w ∈ pm_WT := List.mem_filter.mpr ⟨h1, h2⟩
/-- the tables by their pieces: a word's place is 1000 * piece + place there -/
def pm_tb (k : Nat) : List Cond := match k with
  | 0 => k2_sels lw_privs
  | 1 => tables_1_1
  | 2 => tables_1_2
  | 3 => tables_1_3
  | 4 => tables_1_4
  | 5 => tables_1_5
  | 6 => tables_1_6
  | 7 => tables_1_7
  | 8 => tables_1_8
  | _ => []
theorem pm_tb_in {k : Nat} {w : Cond} (h : w ∈ pm_tb k) : w ∈ lw_tbl := by
  have e : lw_tbl = k2_sels lw_privs ++ (tables_1_1 ++ (tables_1_2 ++ (tables_1_3 ++ (tables_1_4 ++ (tables_1_5 ++ (tables_1_6 ++ (tables_1_7 ++ tables_1_8))))))) := rfl
  rw [e]
  simp only [List.mem_append]
  unfold pm_tb at h
  split at h
  · exact Or.inl h
  · exact Or.inr (Or.inl h)
  · exact Or.inr (Or.inr (Or.inl h))
  · exact Or.inr (Or.inr (Or.inr (Or.inl h)))
  · exact Or.inr (Or.inr (Or.inr (Or.inr (Or.inl h))))
  · exact Or.inr (Or.inr (Or.inr (Or.inr (Or.inr (Or.inl h)))))
  · exact Or.inr (Or.inr (Or.inr (Or.inr (Or.inr (Or.inr (Or.inl h))))))
  · exact Or.inr (Or.inr (Or.inr (Or.inr (Or.inr (Or.inr (Or.inr (Or.inl h)))))))
  · exact Or.inr (Or.inr (Or.inr (Or.inr (Or.inr (Or.inr (Or.inr (Or.inr h)))))))
  · cases h
def pm_w (j : Nat) (w : Cond) : Bool := decide ((pm_tb (j / 1000))[j % 1000]? = some w) && goodWord w
theorem pm_w_in {j : Nat} {w : Cond} (h : pm_w j w = true) : w ∈ pm_WT := by
  unfold pm_w at h
  rw [Bool.and_eq_true, decide_eq_true_eq] at h
  exact pm_WT_of (pm_tb_in (List.mem_of_getElem? h.1)) h.2
/-- links to nest mates: they don't ride as words, the world has them -/
def pm_isN (w : Cond) : Bool := match w with
  | .fieldLinkNest _ _ _ _ _ _ => true
  | .methodLinkNest _ _ _ _ => true
  | _ => false
def pm_NW : List Cond := lw_tbl.filter pm_isN
def pm_wn (j : Nat) (w : Cond) : Bool := decide ((pm_tb (j / 1000))[j % 1000]? = some w) && pm_isN w
theorem pm_wn_in {j : Nat} {w : Cond} (h : pm_wn j w = true) : w ∈ pm_NW := by
  unfold pm_wn at h
  rw [Bool.and_eq_true, decide_eq_true_eq] at h
  exact List.mem_filter.mpr ⟨pm_tb_in (List.mem_of_getElem? h.1), h.2⟩
theorem pm_NW_warm {s U : State} (hW : s.WarmedH U.vm) {w : Cond} (hw : w ∈ pm_NW) (h : va_Nw w s) : va_Nw w U := by
  have hn := (List.mem_filter.mp hw).2
  unfold pm_isN at hn
  split at hn
  · exact va_Nw.warmF hW h
  · exact va_Nw.warmM hW h
  · cases hn
theorem pm_NW_same {s U : State} (hv : U.vm = s.vm) {w : Cond} (hw : w ∈ pm_NW) (h : va_Nw w s) : va_Nw w U := by
  have hn := (List.mem_filter.mp hw).2
  unfold pm_isN at hn
  split at hn
  · exact va_Nw.same rfl hv.symm h
  · exact va_Nw.same rfl hv.symm h
  · cases hn
theorem pm_WT_good : GoodIn pm_WT pm_WT := fun w h => ⟨h, good_of_word (List.mem_filter.mp h).2⟩
theorem pm_WT_cons {w : Cond} (h : w ∈ pm_WT) : GoodIn pm_WT (w :: pm_WT) := fun v hv => by
  rcases List.mem_cons.mp hv with rfl | hv
  · exact pm_WT_good _ h
  · exact pm_WT_good _ hv
def pm_kd (ty : FieldType) : Nat := match ty with
  | .int => 0
  | .boolean => 1
  | .object _ => 2
  | .array _ => 2
  | _ => 9
def pm_at4 (t : Nat) : ArrayType := match t with
  | 0 => .int
  | 1 => .byte
  | 2 => .boolean
  | _ => .long
def pm_at4t (t : Nat) : FieldType := match t with
  | 0 => .int
  | 1 => .byte
  | 2 => .boolean
  | _ => .long
def pm_fw (own : String) (j : Nat) (q : String × String × String × Bool) (var w : Nat) : Bool := if var = 0 then pm_w w (.fieldLink own j q.1 q.2.1 q.2.2.1) else pm_wn w (.fieldLinkNest own j q.1 q.2.1 q.2.2.1 "AdmissionDesk")
/-- an own method, of a kind, with so many arguments, linked at j -/
def pm_cm (mt : List pmE) (own : String) (j kd mi n w : Nat) (nest : Bool) : Bool := match mt[mi]? with
  | some e => decide (e.2.2.2.2.1.getD 0 9 = kd) && decide (e.2.2.2.2.1.getD 1 99 = n) && (if nest = true then pm_wn w (.methodLinkNest own j e.1 "AdmissionDesk") else pm_w w (.methodLink own j e.1))
  | none => false
def pm_cc (mt : List pmE) (mi ci : Nat) : Bool := match mt[mi]?, pm_cl[ci]? with
  | some e, some c => decide (c.1 = e.1.cls)
  | _, _ => false
def pm_cv (mt : List pmE) (own : String) (j : Nat) (r : List Nat) : Bool := match r with
  | 0 :: mi :: n :: _ :: _ :: ci :: w :: _ => pm_cm mt own j 0 mi n w false && pm_cc mt mi ci
  | 8 :: w :: _ => pm_w w (.methodLink own j yJ0_length_8abf5)
  | 9 :: w :: _ => pm_w w (.methodLink own j yJ0_charAt_5068e)
  | _ => false
def pm_cs (mt : List pmE) (own : String) (j : Nat) (r : List Nat) : Bool := match r with
  | 1 :: mi :: n :: _ :: _ :: _ :: w :: _ => pm_cm mt own j 1 mi n w false
  | 5 :: w :: w1 :: w2 :: w3 :: _ => pm_w w (.methodLink own j Lib.Math.max.name) && pm_w w1 (.static Lib.Math.max.name) && pm_w w2 (.initialized "java/lang/Math") && pm_w w3 (.code Lib.Math.max.name Lib.Math.max.code 2 (some .int))
  | 6 :: w :: w1 :: w2 :: w3 :: _ => pm_w w (.methodLink own j Lib.Math.min.name) && pm_w w1 (.static Lib.Math.min.name) && pm_w w2 (.initialized "java/lang/Math") && pm_w w3 (.code Lib.Math.min.name Lib.Math.min.code 2 (some .int))
  | 7 :: w :: w1 :: w2 :: w3 :: _ => pm_w w (.methodLink own j arraycopyName) && pm_w w1 (.native arraycopyName) && pm_w w2 (.static arraycopyName) && pm_w w3 (.initialized "java/lang/System")
  | _ => false
def pm_ci (mt : List pmE) (own : String) (j : Nat) (r : List Nat) : Bool := match r with
  | 2 :: mi :: n :: _ :: _ :: _ :: w :: _ => pm_cm mt own j 2 mi n w false
  | 3 :: mi :: n :: _ :: _ :: _ :: w :: _ => pm_cm mt own j 2 mi n w true
  | 4 :: w :: w1 :: w2 :: _ => pm_w w (.methodLink own j Lib.objectInit) && pm_w w1 (.instanceMethod Lib.objectInit) && pm_w w2 (.code Lib.objectInit ⟨#[0xb1]⟩ 1 none)
  | _ => false
theorem pm_cm_of {mt : List pmE} {own : String} {j kd mi n w : Nat} {nest : Bool} (h : pm_cm mt own j kd mi n w nest = true) : ∃ e, mt[mi]? = some e ∧ e.2.2.2.2.1.getD 0 9 = kd ∧ e.2.2.2.2.1.getD 1 99 = n ∧ (nest = true → Cond.methodLinkNest own j e.1 "AdmissionDesk" ∈ pm_NW) ∧ (nest = false → Cond.methodLink own j e.1 ∈ pm_WT) := by
  unfold pm_cm at h
  split at h
  · rename_i e he
    simp only [Bool.and_eq_true, decide_eq_true_eq] at h
    refine ⟨e, he, h.1.1, h.1.2, fun z => ?_, fun z => ?_⟩
    · rw [if_pos z] at h; exact pm_wn_in h.2
    · rw [if_neg (by rw [z]; exact fun q => by cases q)] at h; exact pm_w_in h.2
  · cases h
theorem pm_cc_of {mt : List pmE} {mi ci : Nat} (h : pm_cc mt mi ci = true) : ∃ e c, mt[mi]? = some e ∧ pm_cl[ci]? = some c ∧ c.1 = e.1.cls := by
  unfold pm_cc at h
  split at h
  · rename_i e c he hc
    exact ⟨e, c, he, hc, by simpa using h⟩
  · cases h
theorem pm_cv_of {mt : List pmE} {own : String} {j : Nat} {r : List Nat} (h : pm_cv mt own j r = true) : (∃ mi n mc ms ci w t, r = 0 :: mi :: n :: mc :: ms :: ci :: w :: t ∧ pm_cm mt own j 0 mi n w false = true ∧ pm_cc mt mi ci = true) ∨ (∃ w t, r = 8 :: w :: t ∧ Cond.methodLink own j yJ0_length_8abf5 ∈ pm_WT) ∨ (∃ w t, r = 9 :: w :: t ∧ Cond.methodLink own j yJ0_charAt_5068e ∈ pm_WT) := by
  unfold pm_cv at h
  split at h
  · rw [Bool.and_eq_true] at h; exact Or.inl ⟨_, _, _, _, _, _, _, rfl, h.1, h.2⟩
  · exact Or.inr (Or.inl ⟨_, _, rfl, pm_w_in h⟩)
  · exact Or.inr (Or.inr ⟨_, _, rfl, pm_w_in h⟩)
  · cases h
theorem pm_cs_of {mt : List pmE} {own : String} {j : Nat} {r : List Nat} (h : pm_cs mt own j r = true) : (∃ mi n mc ms ci w t, r = 1 :: mi :: n :: mc :: ms :: ci :: w :: t ∧ pm_cm mt own j 1 mi n w false = true) ∨ (∃ t, r = 5 :: t ∧ Cond.methodLink own j Lib.Math.max.name ∈ pm_WT ∧ Cond.static Lib.Math.max.name ∈ pm_WT ∧ Cond.initialized "java/lang/Math" ∈ pm_WT ∧ Cond.code Lib.Math.max.name Lib.Math.max.code 2 (some .int) ∈ pm_WT) ∨ (∃ t, r = 6 :: t ∧ Cond.methodLink own j Lib.Math.min.name ∈ pm_WT ∧ Cond.static Lib.Math.min.name ∈ pm_WT ∧ Cond.initialized "java/lang/Math" ∈ pm_WT ∧ Cond.code Lib.Math.min.name Lib.Math.min.code 2 (some .int) ∈ pm_WT) ∨ (∃ t, r = 7 :: t ∧ Cond.methodLink own j arraycopyName ∈ pm_WT ∧ Cond.native arraycopyName ∈ pm_WT ∧ Cond.static arraycopyName ∈ pm_WT ∧ Cond.initialized "java/lang/System" ∈ pm_WT) := by
  unfold pm_cs at h
  split at h
  · exact Or.inl ⟨_, _, _, _, _, _, _, rfl, h⟩
  · simp only [Bool.and_eq_true] at h; exact Or.inr (Or.inl ⟨_, rfl, pm_w_in h.1.1.1, pm_w_in h.1.1.2, pm_w_in h.1.2, pm_w_in h.2⟩)
  · simp only [Bool.and_eq_true] at h; exact Or.inr (Or.inr (Or.inl ⟨_, rfl, pm_w_in h.1.1.1, pm_w_in h.1.1.2, pm_w_in h.1.2, pm_w_in h.2⟩))
  · simp only [Bool.and_eq_true] at h; exact Or.inr (Or.inr (Or.inr ⟨_, rfl, pm_w_in h.1.1.1, pm_w_in h.1.1.2, pm_w_in h.1.2, pm_w_in h.2⟩))
  · cases h
theorem pm_ci_of {mt : List pmE} {own : String} {j : Nat} {r : List Nat} (h : pm_ci mt own j r = true) : (∃ mi n mc ms ci w t, r = 2 :: mi :: n :: mc :: ms :: ci :: w :: t ∧ pm_cm mt own j 2 mi n w false = true) ∨ (∃ mi n mc ms ci w t, r = 3 :: mi :: n :: mc :: ms :: ci :: w :: t ∧ pm_cm mt own j 2 mi n w true = true) ∨ (∃ t, r = 4 :: t ∧ Cond.methodLink own j Lib.objectInit ∈ pm_WT ∧ Cond.instanceMethod Lib.objectInit ∈ pm_WT ∧ Cond.code Lib.objectInit ⟨#[0xb1]⟩ 1 none ∈ pm_WT) := by
  unfold pm_ci at h
  split at h
  · exact Or.inl ⟨_, _, _, _, _, _, _, rfl, h⟩
  · exact Or.inr (Or.inl ⟨_, _, _, _, _, _, _, rfl, h⟩)
  · simp only [Bool.and_eq_true] at h; exact Or.inr (Or.inr ⟨_, rfl, pm_w_in h.1.1, pm_w_in h.1.2, pm_w_in h.2⟩)
  · cases h
/-- is the instruction what it says, by the tables? -/
def pm_ck (th : Bool) (mt : List pmE) (own nm : String) (pc : Nat) (q : pmI) : Bool := match q with
  | (i, len, cv, r) => match i with
    | .iconst n => decide (len = 1) && decide (Int32.ofInt n = cv)
    | .bipush n => decide (len = 2) && decide ((Int8.ofInt n).toInt32 = cv)
    | .sipush n => decide (len = 3) && decide ((Int16.ofInt n).toInt32 = cv)
    | .lconst _ => decide (len = 1)
    | .ldc j => decide (len = 2) && (match r with
      | 0 :: w :: _ => pm_w w (.constant own j cv)
      | 1 :: k :: _ => (match pm_str[k]? with
        | some q => decide (q.1 = own) && decide (q.2.1 = j)
        | none => false)
      | _ => false)
    | .ldc_w j => decide (len = 3) && (match r with
      | w :: _ => pm_w w (.constant own j cv)
      | _ => false)
    | .ldc2_w j => decide (len = 3) && (match r with
      | w :: _ => pm_w w (.constantLong own j cv.toInt64)
      | _ => false)
    | .iload_n _ => decide (len = 1)
    | .aload_n _ => decide (len = 1)
    | .istore_n _ => decide (len = 1)
    | .astore_n _ => decide (len = 1)
    | .iload _ => decide (len = 2)
    | .aload _ => decide (len = 2)
    | .istore _ => decide (len = 2)
    | .astore _ => decide (len = 2)
    | .iinc _ z => decide (len = 3) && decide (Int32.ofInt z = cv)
    | .goto off => decide (len = 3) && decide ((pc : Int) + off = ((r.getD 0 0 : Nat) : Int))
    | .ifCond _ off => decide (len = 3) && decide ((pc : Int) + off = ((r.getD 0 0 : Nat) : Int))
    | .if_icmp _ off => decide (len = 3) && decide ((pc : Int) + off = ((r.getD 0 0 : Nat) : Int))
    | .tableswitch d lo hi offs => (match r with
      | a :: dt :: ts => decide (lo = (a : Int)) && decide (nI a = cv) && decide ((pc : Int) + d = (dt : Int)) && decide (offs.toList.map (fun o => (pc : Int) + o) = ts.map (fun (t : Nat) => (t : Int))) && decide (hi + 1 = ((a + ts.length : Nat) : Int)) && decide (a + ts.length < 2147483647)
      | _ => false)
    | .getfield j => decide (len = 3) && (match r with
      | ci :: k :: var :: w :: _ => (match pm_cl[ci]? with
        | some c => decide (k < c.2.2) && pm_fw own j (c.2.1 k) var w
        | none => false)
      | _ => false)
    | .putfield j => decide (len = 3) && (match r with
      | ci :: k :: kd :: var :: w :: fin :: _ => (match pm_cl[ci]? with
        | some c => decide (k < c.2.2) && decide (pm_kd (pm_ty ci k) = kd) && pm_fw own j (c.2.1 k) var w && decide ((c.2.1 k).2.2.2 = decide (fin = 1)) && (decide (fin = 0) || (decide (fin = 1) && decide (var = 0) && decide ((c.2.1 k).1 = own) && decide (nm = "<init>")))
        | none => false)
      | _ => false)
    | .getstatic j => decide (len = 3) && (match r with
      | w :: _ => pm_w w (.fieldLink own j "AdmissionDesk$Sketch" "MIX" "[I")
      | _ => false)
    | .new j => decide (len = 3) && (match r with
      | 99 :: _ :: _ => th
      | ci :: nf :: w1 :: w2 :: w3 :: _ => (match pm_cl[ci]? with
        | some c => decide (c.2.2 = nf) && pm_w w1 (.classLink own j c.1) && pm_w w2 (.instantiable c.1 c.2.2) && pm_w w3 (.initialized c.1)
        | none => false)
      | _ => false)
    | .newarray at_ => decide (len = 2) && (match r with
      | t :: w :: _ => decide (t < 4) && decide (at_ = pm_at4 t) && pm_w w (.arrayClass (pm_at4t t))
      | _ => false)
    | .invokevirtual j => decide (len = 3) && pm_cv mt own j r
    | .invokestatic j => decide (len = 3) && pm_cs mt own j r
    | .invokespecial j => decide (len = 3) && pm_ci mt own j r
    | _ => decide (len = 1)
def pm_cL (th : Bool) (mt : List pmE) (own nm : String) (cc : ByteArray) : Nat → List (Option pmI) → Bool
  | _, [] => true
  | pc, none :: L => pm_cL th mt own nm cc (pc + 1) L
  | pc, some q :: L => decide (decode cc pc = .ok (q.1, q.2.1)) && pm_ck th mt own nm pc q && pm_cL th mt own nm cc (pc + 1) L
theorem pm_cL_spec {th : Bool} {mt : List pmE} {own nm : String} {cc : ByteArray} : ∀ (L : List (Option pmI)) (p : Nat), pm_cL th mt own nm cc p L = true → ∀ (k : Nat) (q : pmI), L[k]? = some (some q) → decode cc (p + k) = .ok (q.1, q.2.1) ∧ pm_ck th mt own nm (p + k) q = true
  | [], _, _, k, q, h => by simp at h
  | none :: L, p, hc, k, q, h => by
    cases k with
    | zero => simp at h
    | succ k =>
      have := pm_cL_spec L (p + 1) hc k q (by simpa using h)
      rw [show p + (k + 1) = p + 1 + k by omega]
      exact this
  | some x :: L, p, hc, k, q, h => by
    unfold pm_cL at hc
    rw [Bool.and_eq_true, Bool.and_eq_true, decide_eq_true_eq] at hc
    cases k with
    | zero =>
      have e : x = q := by simpa using h
      subst e
      exact ⟨hc.1.1, hc.1.2⟩
    | succ k =>
      have := pm_cL_spec L (p + 1) hc.2 k q (by simpa using h)
      rw [show p + (k + 1) = p + 1 + k by omega]
      exact this
/-- an entry of the table of methods: hints are kind (0 virtual, 1 static, 2 constructor), number of arguments, places of its words -/
def pm_eC (th : Bool) (mt : List pmE) (e : pmE) : Bool := match e with
  | (y, cc, maxL, ret, hs, L) => match hs with
    | kd :: n :: w0 :: w1 :: w2 :: w3 :: _ => pm_w w0 (.code y cc maxL ret) && pm_w w1 (.initialized y.cls) && plainName y.cls && decide (y.cls ≠ "java/lang/invoke/MethodHandle") && decide (y.cls ≠ "java/lang/invoke/VarHandle") && decide ((parseMethodDescriptor y.desc).map (fun d => d.parameters.length) = some n) && decide (maxL ≤ 40) && (match kd with
      | 0 => pm_w w2 (.instanceMethod y) && pm_w w3 (.selects y.cls y y)
      | 1 => pm_w w2 (.static y)
      | 2 => pm_w w2 (.instanceMethod y) && decide (y.name = "<init>") && decide (ret = none)
      | _ => false) && pm_cL th mt y.cls y.name cc 0 L
    | _ => false
/-- what a good entry gives -/
def pm_eG (th : Bool) (mt : List pmE) (e : pmE) : Prop := Cond.code e.1 e.2.1 e.2.2.1 e.2.2.2.1 ∈ pm_WT ∧ Cond.initialized e.1.cls ∈ pm_WT ∧ plainName e.1.cls = true ∧ (e.1.cls ≠ "java/lang/invoke/MethodHandle" ∧ e.1.cls ≠ "java/lang/invoke/VarHandle" ∧ (parseMethodDescriptor e.1.desc).map (fun d => d.parameters.length) = some (e.2.2.2.2.1.getD 1 99)) ∧ e.2.2.1 ≤ 40 ∧ (e.2.2.2.2.1.getD 0 9 = 0 → Cond.instanceMethod e.1 ∈ pm_WT ∧ Cond.selects e.1.cls e.1 e.1 ∈ pm_WT) ∧ (e.2.2.2.2.1.getD 0 9 = 1 → Cond.static e.1 ∈ pm_WT) ∧ (e.2.2.2.2.1.getD 0 9 = 2 → Cond.instanceMethod e.1 ∈ pm_WT ∧ e.1.name = "<init>" ∧ e.2.2.2.1 = none) ∧ ∀ (pc : Nat) (q : pmI), e.2.2.2.2.2[pc]? = some (some q) → decode e.2.1 pc = .ok (q.1, q.2.1) ∧ pm_ck th mt e.1.cls e.1.name pc q = true
theorem pm_eC_spec {th : Bool} {mt : List pmE} {e : pmE} (h : pm_eC th mt e = true) : pm_eG th mt e := by
  obtain ⟨y, cc, maxL, ret, hs, L⟩ := e
  unfold pm_eC at h
  dsimp only at h
  split at h
  · rename_i kd n w0 w1 w2 w3 t
    simp only [Bool.and_eq_true, decide_eq_true_eq] at h
    obtain ⟨⟨⟨⟨⟨⟨⟨⟨a1, a2⟩, a3⟩, a4⟩, a5⟩, a6⟩, a7⟩, a8⟩, a9⟩ := h
    refine ⟨pm_w_in a1, pm_w_in a2, a3, ⟨a4, a5, a6⟩, a7, fun z => ?_, fun z => ?_, fun z => ?_, fun pc q hq => ?_⟩
    · have z : kd = 0 := z
      subst z
      simp only [Bool.and_eq_true] at a8
      exact ⟨pm_w_in a8.1, pm_w_in a8.2⟩
    · have z : kd = 1 := z
      subst z
      exact pm_w_in a8
    · have z : kd = 2 := z
      subst z
      simp only [Bool.and_eq_true, decide_eq_true_eq] at a8
      exact ⟨pm_w_in a8.1.1, a8.1.2, a8.2⟩
    · have := pm_cL_spec L 0 a9 pc q hq
      rwa [Nat.zero_add] at this
  · cases h
/-! Worlds -/
def pm_mv (g : Nat → Nat) (v : Value) : Value := match v with
  | .ref a => .ref (g a)
  | w => w
def pm_e (ct : Nat → ClassId) (g : Nat → Nat) (c : pmC) : va_E := match c with
  | .inl q => .inl (ct q.1, q.2)
  | .inr q => .inr (q.1, q.2.map (pm_mv g))
def pm_ws (b : Nat) (ct : Nat → ClassId) (g : Nat → Nat) (h : pmH) : va_W := h.mapIdx fun k c => (b + k, pm_e ct g c)
theorem pm_ws_at {b : Nat} {ct : Nat → ClassId} {g : Nat → Nat} {h : pmH} {a : Nat} {c : pmC} (ha : h[a]? = some c) : (pm_ws b ct g h)[a]? = some (b + a, pm_e ct g c) := by
  unfold pm_ws
  rw [List.getElem?_mapIdx, ha]
  rfl
theorem pm_ws_of {b : Nat} {ct : Nat → ClassId} {g : Nat → Nat} {h : pmH} {k : Nat} {q : Nat × va_E} (hq : (pm_ws b ct g h)[k]? = some q) : ∃ c, h[k]? = some c ∧ q = (b + k, pm_e ct g c) := by
  unfold pm_ws at hq
  rw [List.getElem?_mapIdx] at hq
  cases hc : h[k]? with
  | none => rw [hc] at hq; cases hq
  | some c => rw [hc] at hq; cases hq; exact ⟨c, rfl, rfl⟩
theorem pm_ws_set {b : Nat} {ct : Nat → ClassId} {g : Nat → Nat} (h : pmH) (a : Nat) (c : pmC) : (pm_ws b ct g h).set a (b + a, pm_e ct g c) = pm_ws b ct g (h.set a c) := by
  apply List.ext_getElem?
  intro i
  unfold pm_ws
  rw [List.getElem?_set, List.getElem?_mapIdx, List.getElem?_mapIdx, List.getElem?_set, List.length_mapIdx]
  by_cases e : a = i
  · subst e
    by_cases hl : a < h.length <;> simp [hl]
  · simp [e]
theorem pm_ws_app {b : Nat} {ct : Nat → ClassId} {g : Nat → Nat} (h : pmH) (c : pmC) : pm_ws b ct g (h ++ [c]) = pm_ws b ct g h ++ [(b + h.length, pm_e ct g c)] := by
  unfold pm_ws
  rw [List.mapIdx_append]
  simp
theorem pm_ws_D (b : Nat) (ct : Nat → ClassId) (g : Nat → Nat) (h : pmH) : va_D (fun q => b ≤ q) (pm_ws b ct g h) := by
  refine ⟨fun i j p q hi hj e => ?_, fun k q hk => ?_⟩
  · obtain ⟨c, -, rfl⟩ := pm_ws_of hi
    obtain ⟨c', -, rfl⟩ := pm_ws_of hj
    have e : b + i = b + j := e
    omega
  · obtain ⟨c, -, rfl⟩ := pm_ws_of hk
    exact Nat.le_add_right b k
def pm_Rl (D : va_G) (ct : Nat → ClassId) (b : Nat) (g : Nat → Nat) (h : pmH) (H : Heap) : Prop := h.length ≤ 1000000 ∧ va_P D pm_cl (pm_ws b ct g h) H
theorem pm_Rl_sz {D : va_G} {ct : Nat → ClassId} {b : Nat} {g : Nat → Nat} {h : pmH} {H : Heap} (hR : pm_Rl D ct b g h H) (hb : b ≤ H.size) : b + h.length ≤ H.size := by
  cases hl : h.length with
  | zero => exact hb
  | succ n =>
    have hn : n < h.length := by omega
    have := (hR.2 n _ (pm_ws_at (List.getElem?_eq_getElem hn))).lt
    have : b + n < H.size := this
    omega
def pm_tys (ct : Nat → ClassId) : List (ClassId × FieldType) := [(ct 0, .int), (ct 1, .byte), (ct 2, .boolean), (ct 3, .long)]
def pm_len : List Nat := pm_str.map fun q => q.2.2.length
def pm_byt : List (List Int32) := pm_str.map fun q => q.2.2.toList.map fun x => nI x.toNat
/-- what stays: classes, the read-only array, the texts; cells from b on are the pure heap's -/
def pm_En (D : va_G) (ct : Nat → ClassId) (b : Nat) (g : Nat → Nat) (adV : Nat → Nat) (s : State) (H : Heap) : Prop :=
  va_K D pm_cl (pm_tys ct) s ∧ va_T .int (g 1000000) 4 (fun i => .int (pm_mix i)) (fun q => b ≤ q) s H ∧ va_Z "AdmissionDesk$Sketch" "MIX" "[I" (.ref (g 1000000)) (fun q => b ≤ q) s H ∧ ((∀ j q, pm_str[j]? = some q → vk_R q.1 q.2.1 q.2.2 (g (1000002 + j)) s) ∧ va_Z "java/lang/String" "COMPACT_STRINGS" "Z" (.int 1) (fun q => b ≤ q) s H ∧ va_Zq "jdk/internal/util/Preconditions" "SIOOBE_FORMATTER" "Ljava/util/function/BiFunction;" (fun q => b ≤ q) s H) ∧ vk_S 12 pm_len pm_byt (fun j => g (1000002 + j)) adV (fun q => b ≤ q) s H ∧ b ≤ H.size ∧ ∀ w ∈ pm_NW, va_Nw w s
theorem pm_En.mv {D : va_G} {ct : Nat → ClassId} {b : Nat} {g adV : Nat → Nat} {s U : State} {H H1 : Heap} (h : pm_En D ct b g adV s H) (hW : s.WarmedH U.vm) (hz : H.size ≤ H1.size) (hq : ∀ a : Nat, a < H.size → ¬ b ≤ a → H1[a]? = H[a]?) : pm_En D ct b g adV U H1 := by
  obtain ⟨h1, h2, h3, h4, h5, h6, h7⟩ := h
  exact ⟨va_K.moved hW.alike h1, va_T.moved hW.alike (h2.kept hq), va_Z.moved hW.alike (h3.kept hq), ⟨fun j q hj => vk_R.warm hW (h4.1 j q hj), va_Z.moved hW.alike (h4.2.1.kept hq), va_Zq.moved hW.alike (h4.2.2.kept hq)⟩, vk_S.moved hW.alike (h5.kept hq), Nat.le_trans h6 hz, fun w hw => pm_NW_warm hW hw (h7 w hw)⟩
theorem pm_En.same {D : va_G} {ct : Nat → ClassId} {b : Nat} {g adV : Nat → Nat} {s U : State} {H : Heap} (h : pm_En D ct b g adV s H) (hv : U.vm = s.vm) : pm_En D ct b g adV U H := by
  obtain ⟨h1, h2, h3, h4, h5, h6, h7⟩ := h
  have ha : s.vm.Alike U.vm := by rw [hv]; exact Vm.Alike.refl _
  exact ⟨va_K.moved ha h1, va_T.moved ha h2, va_Z.moved ha h3, ⟨fun j q hj => vk_R.same hv (h4.1 j q hj), va_Z.moved ha h4.2.1, va_Zq.moved ha h4.2.2⟩, vk_S.moved ha h5, h6, fun w hw => pm_NW_same hv hw (h7 w hw)⟩
/-- the world of a method's start -/
def pm_B (D : va_G) (ct : Nat → ClassId) (b : Nat) (g adV : Nat → Nat) (ex : Bool) (h : pmH) (U : State) : Prop := pm_En D ct b g adV U U.heap ∧ pm_Rl D ct b g h U.heap ∧ (ex = true → U.heap.size = b + h.length)
/-- its end -/
def pm_Qc (D : va_G) (ct : Nat → ClassId) (b : Nat) (g : Nat → Nat) (n1 : Nat) (Post : pmQ) : Array Value → State → Outcome → State → Prop := fun _ st oc t =>
  (∃ (v : Option Value) (h' : pmH), h'.length = n1 ∧ Post v h' ∧ oc = .returned (v.map (pm_mv g)) ∧ pm_Rl D ct b g h' t.heap) ∧ va_F (fun q => b ≤ q) st t
def pm_rm (d mc ms : Nat) : Room := { frames := d + 20, cells := mc, slots := ms, locals := 64 * d + 1280 }
/-- locals -/
def pm_ls (g : Nat → Nat) (nL : Nat) (lv : pmL) (ls : Array Slot) : Prop := lv.length = nL ∧ ls.size = nL ∧ lv_wf ls ∧ ∀ (i : Nat) (v : Value), lv[i]? = some (some v) → v.category = 1 ∧ ls[i]? = some (.val (pm_mv g v))
def pm_pl (g : Nat → Nat) (lv : pmL) : List (Nat × Value) := (List.range lv.length).filterMap fun i => match lv[i]? with
  | some (some v) => some (i, pm_mv g v)
  | _ => none
theorem pm_pl_in {g : Nat → Nat} {lv : pmL} {q : Nat × Value} : q ∈ pm_pl g lv ↔ ∃ v, lv[q.1]? = some (some v) ∧ q.2 = pm_mv g v := by
  unfold pm_pl
  rw [List.mem_filterMap]
  constructor
  · rintro ⟨i, -, hi⟩
    split at hi
    · rename_i v hv
      cases hi
      exact ⟨v, hv, rfl⟩
    · cases hi
  · rintro ⟨v, hv, e⟩
    refine ⟨q.1, List.mem_range.mpr (List.getElem?_eq_some_iff.mp hv).1, ?_⟩
    rw [hv]
    show some (q.1, pm_mv g v) = some q
    rw [← e]
theorem pm_mv_cat (g : Nat → Nat) (v : Value) : (pm_mv g v).category = v.category := by cases v <;> rfl
theorem pm_ls_has {g : Nat → Nat} {nL : Nat} {lv : pmL} {ls : Array Slot} (h : pm_ls g nL lv ls) : lv_has ls nL (pm_pl g lv) :=
  ⟨h.2.1, h.2.2.1, fun q hq => by
    obtain ⟨v, hv, e⟩ := pm_pl_in.mp hq
    rw [e]
    exact (h.2.2.2 _ _ hv).2⟩
theorem pm_ls_set {g : Nat → Nat} {nL i : Nat} {lv : pmL} {ls ls' : Array Slot} {x : Value} (h : pm_ls g nL lv ls) (hi : i < nL) (hx : x.category = 1) (h' : lv_has ls' nL ((i, pm_mv g x) :: (pm_pl g lv).filter (fun q => !(q.1 == i) && !(q.1 + 1 == i && q.2.category == 2)))) : pm_ls g nL (lv.set i (some x)) ls' := by
  refine ⟨by rw [List.length_set]; exact h.1, h'.1, h'.2.1, fun j v hv => ?_⟩
  rw [List.getElem?_set] at hv
  by_cases e : i = j
  · rw [if_pos e, if_pos (by rw [h.1]; exact hi)] at hv
    cases hv
    subst e
    exact ⟨hx, h'.2.2 _ List.mem_cons_self⟩
  · rw [if_neg e] at hv
    obtain ⟨c1, c2⟩ := h.2.2.2 j v hv
    refine ⟨c1, h'.2.2 (j, pm_mv g v) (List.mem_cons_of_mem _ (List.mem_filter.mpr ⟨pm_pl_in.mpr ⟨v, hv, rfl⟩, ?_⟩))⟩
    have hc : (pm_mv g v).category = 1 := by rw [pm_mv_cat]; exact c1
    simp [Ne.symm e, hc]
