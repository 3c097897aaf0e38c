/-! THE PURE MACHINE: what a method does to a pure heap (a list of cells; an address is a place in that list), as a weakest precondition. -/
abbrev pmC : Type := (Nat × vp_A) ⊕ (Nat × List Value)
abbrev pmH : Type := List pmC
abbrev pmL : Type := List (Option Value)
abbrev pmI : Type := Instr × Nat × Int32 × List Nat
abbrev pmE : Type := MethodName × ByteArray × Nat × Option FieldType × List Nat × List (Option pmI)
abbrev pmQ : Type := Option Value → pmH → Prop
abbrev pmK : Type := Nat → pmL → List Value → pmH → Nat → Prop
abbrev pmCall : Type := Nat → Nat → Nat → List Value → pmH → pmQ → Prop
abbrev pmRO : Type := Nat → Option (Nat × (Nat → Int32))
/-- the String constants that methods use: class, place in its pool, text -/
def pm_str : List (String × Nat × String) := [(RX9, 74, "cand vict hits asks out  door room key  and  or   not  "), (RX12, 133, "not"), (RX12, 147, "cand"), (RX12, 149, "vict"), (RX12, 151, "hits"), (RX12, 153, "asks"), (RX12, 155, "out"), (RX12, 157, "door"), (RX12, 159, "room"), (RX12, 161, "key"), (RX12, 131, "and"), (RX12, 120, "or")]
/-- the constant at an address -/
def pm_sq (a : Nat) : Option (String × Nat × String) := if 1000002 ≤ a then pm_str[a - 1000002]? else none
def pm_mix : Nat → Int32 := fun i => match i with
  | 0 => -1640531535
  | 1 => -2048144789
  | 2 => -1028477379
  | _ => 668265263
/-- the read-only array that methods use: 1000000 is Sketch.MIX -/
def pm_ro0 : pmRO := fun a => if a = 1000000 then some (4, pm_mix) else none
/-- an object's fields when it is new -/
def pm_df (ci : Nat) : List Value := match pm_cl[ci]? with
  | some q => (List.range q.2.2).map (fun k => defaultValue (pm_ty ci k))
  | none => []
def pm_1i (st : List Value) (k : Int32 → List Value → Prop) : Prop := match st with
  | .int x :: r => k x r
  | _ => False
def pm_2i (st : List Value) (k : Int32 → Int32 → List Value → Prop) : Prop := match st with
  | .int y :: .int x :: r => k x y r
  | _ => False
def pm_1l (st : List Value) (k : Int64 → List Value → Prop) : Prop := match st with
  | .long x :: r => k x r
  | _ => False
def pm_2l (st : List Value) (k : Int64 → Int64 → List Value → Prop) : Prop := match st with
  | .long y :: .long x :: r => k x y r
  | _ => False
def pm_1a (st : List Value) (k : Nat → List Value → Prop) : Prop := match st with
  | .ref a :: r => k a r
  | _ => False
def pm_ia (st : List Value) (k : Int32 → Nat → List Value → Prop) : Prop := match st with
  | .int i :: .ref a :: r => k i a r
  | _ => False
def pm_iia (st : List Value) (k : Int32 → Int32 → Nat → List Value → Prop) : Prop := match st with
  | .int x :: .int i :: .ref a :: r => k x i a r
  | _ => False
def pm_lia (st : List Value) (k : Int64 → Int32 → Nat → List Value → Prop) : Prop := match st with
  | .long x :: .int i :: .ref a :: r => k x i a r
  | _ => False
def pm_va (st : List Value) (k : Value → Nat → List Value → Prop) : Prop := match st with
  | v :: .ref a :: r => k v a r
  | _ => False
def pm_s1 (st : List Value) (k : Value → List Value → Prop) : Prop := match st with
  | x :: r => k x r
  | _ => False
def pm_s2 (st : List Value) (k : Value → Value → List Value → Prop) : Prop := match st with
  | y :: x :: r => k x y r
  | _ => False
def pm_ri (st : List Value) (k : Int32 → Prop) : Prop := match st with
  | [.int x] => k x
  | _ => False
def pm_ra (st : List Value) (k : Nat → Prop) : Prop := match st with
  | [.ref x] => k x
  | _ => False
def pm_rn (st : List Value) (k : Prop) : Prop := match st with
  | [] => k
  | _ => False
/-- an int array to read: of the heap, or a read-only one -/
def pm_ird (ro : pmRO) (h : pmH) (a : Nat) (k : Nat → (Nat → Int32) → Prop) : Prop := match h[a]? with
  | some (.inl (0, n, .inl f)) => k n f
  | some _ => False
  | none => match ro a with
    | some q => k q.1 q.2
    | none => False
def pm_aln (ro : pmRO) (h : pmH) (a : Nat) (k : Nat → Prop) : Prop := match h[a]? with
  | some (.inl q) => q.1 < 4 ∧ k q.2.1
  | some _ => False
  | none => match ro a with
    | some q => k q.1
    | none => False
def pm_cp (st : List Value) (k : Int32 → Int32 → Nat → Int32 → Nat → List Value → Prop) : Prop := match st with
  | .int n :: .int dp :: .ref a :: .int sp :: .ref a0 :: r => k n dp a sp a0 r
  | _ => False
def pm_ldi (lv : pmL) (i : Nat) (k : Int32 → Prop) : Prop := match lv[i]? with
  | some (some (.int x)) => k x
  | _ => False
def pm_lda (lv : pmL) (i : Nat) (k : Nat → Prop) : Prop := match lv[i]? with
  | some (some (.ref a)) => k a
  | _ => False
/-- an object of class ci at a -/
def pm_obj (h : pmH) (a ci : Nat) (k : List Value → Prop) : Prop := match h[a]? with
  | some (.inr q) => q.1 = ci ∧ k q.2
  | _ => False
/-- an array of ints, bytes or booleans at a -/
def pm_arr (h : pmH) (a : Nat) (k : Nat → Nat → (Nat → Int32) → Prop) : Prop := match h[a]? with
  | some (.inl (t, n, .inl f)) => k t n f
  | _ => False
def pm_arl (h : pmH) (a : Nat) (k : Nat → (Nat → Int64) → Prop) : Prop := match h[a]? with
  | some (.inl (t, n, .inr (.inl f))) => t = 3 ∧ k n f
  | _ => False
def pm_opt {α : Type} (o : Option α) (k : α → Prop) : Prop := match o with
  | some x => k x
  | none => False
def pm_vk (kd : Nat) (v : Value) : Prop := match kd, v with
  | 0, .int _ => True
  | 1, .int x => x = 0 ∨ x = 1
  | 2, .ref _ => True
  | _, _ => False
def pm_rk (rt : Option FieldType) (v : Value) : Prop := match rt, v with
  | some .int, .int _ => True
  | some .boolean, .int x => x = 0 ∨ x = 1
  | some (.object _), .ref _ => True
  | _, _ => False
def pm_sw (x : Int32) (k : Nat → Prop) (d : Nat) : Int32 → List Nat → Prop
  | _, [] => k d
  | c, t :: ts => (x = c → k t) ∧ (¬ x = c → pm_sw x k d (c + 1) ts)
def pm_cat (st : List Value) : Nat := (st.map fun v => v.category).sum
/-- a call: virtual, static, of a constructor (two ways), Object's own, Math.max, Math.min, arraycopy, String.length, charAt -/
def pm_inv (C : pmCall) (Nx Sx : Nat) (K KC : pmK) (r : List Nat) (pc : Nat) (lv : pmL) (st : List Value) (h : pmH) (us : Nat) : Prop := match r with
  | 0 :: mi :: n :: mc :: ms :: ci :: _ => n ≤ st.length ∧ pm_1a (st.drop n) fun a rest => pm_obj h a ci fun _ => pm_cat rest ≤ 8 ∧ h.length + mc ≤ Nx ∧ us + ms ≤ Sx ∧ C mi mc ms (.ref a :: (st.take n).reverse) h (fun v h' => KC (pc + 3) lv (v.toList ++ rest) h' (us + ms))
  | 1 :: mi :: n :: mc :: ms :: _ => n ≤ st.length ∧ pm_cat (st.drop n) ≤ 8 ∧ h.length + mc ≤ Nx ∧ us + ms ≤ Sx ∧ C mi mc ms (st.take n).reverse h (fun v h' => KC (pc + 3) lv (v.toList ++ st.drop n) h' (us + ms))
  | 2 :: mi :: n :: mc :: ms :: _ => n ≤ st.length ∧ pm_1a (st.drop n) fun a rest => pm_cat rest ≤ 8 ∧ h.length + mc ≤ Nx ∧ us + ms ≤ Sx ∧ C mi mc ms (.ref a :: (st.take n).reverse) h (fun v h' => KC (pc + 3) lv (v.toList ++ rest) h' (us + ms))
  | 3 :: mi :: n :: mc :: ms :: _ => n ≤ st.length ∧ pm_1a (st.drop n) fun a rest => pm_cat rest ≤ 8 ∧ h.length + mc ≤ Nx ∧ us + ms ≤ Sx ∧ C mi mc ms (.ref a :: (st.take n).reverse) h (fun v h' => KC (pc + 3) lv (v.toList ++ rest) h' (us + ms))
  | 4 :: _ => pm_1a st fun _ rest => pm_cat rest ≤ 8 ∧ K (pc + 3) lv rest h us
  | 5 :: _ => pm_2i st fun x y rest => pm_cat rest ≤ 8 ∧ K (pc + 3) lv (.int (if x < y then y else x) :: rest) h us
  | 6 :: _ => pm_2i st fun x y rest => pm_cat rest ≤ 8 ∧ K (pc + 3) lv (.int (if y < x then y else x) :: rest) h us
  | 7 :: _ => pm_cp st fun n dp a sp a0 rest => pm_arr h a0 fun t0 n0 f => pm_arr h a fun t1 n1 g => t0 = 0 ∧ t1 = 0 ∧ pm_cat rest ≤ 8 ∧ ¬ sp < 0 ∧ ¬ dp < 0 ∧ ¬ n < 0 ∧ sp.toNatClampNeg + n.toNatClampNeg ≤ n0 ∧ dp.toNatClampNeg + n.toNatClampNeg ≤ n1 ∧ K (pc + 3) lv rest (h.set a (.inl (0, n1, .inl (va_cpy f g sp.toNatClampNeg dp.toNatClampNeg n.toNatClampNeg)))) us
  | 8 :: _ => pm_1a st fun a rest => pm_opt (pm_sq a) fun q => pm_cat rest ≤ 8 ∧ KC (pc + 3) lv (.int (nI q.2.2.length) :: rest) h us
  | 9 :: _ => pm_ia st fun i a rest => pm_opt (pm_sq a) fun q => vp_in i q.2.2.length ∧ pm_cat rest ≤ 8 ∧ KC (pc + 3) lv (.int (nI ((q.2.2.toList.getD i.toNatClampNeg 'a').toNat)) :: rest) h us
  | _ => False
def pm_I (ro : pmRO) (C : pmCall) (Nx Sx : Nat) (Q : pmQ) (rt : Option FieldType) (K KC : pmK) (i : Instr) (len : Nat) (cv : Int32) (r : List Nat) (pc : Nat) (lv : pmL) (st : List Value) (h : pmH) (us : Nat) : Prop := match i with
  | .iconst _ => K (pc + len) lv (.int cv :: st) h us
  | .bipush _ => K (pc + len) lv (.int cv :: st) h us
  | .sipush _ => K (pc + len) lv (.int cv :: st) h us
  | .lconst n => K (pc + len) lv (.long (Int64.ofNat n) :: st) h us
  | .ldc _ => match r with
    | 0 :: _ => K (pc + len) lv (.int cv :: st) h us
    | 1 :: j :: _ => K (pc + len) lv (.ref (1000002 + j) :: st) h us
    | _ => False
  | .ldc_w _ => K (pc + len) lv (.int cv :: st) h us
  | .ldc2_w _ => K (pc + len) lv (.long cv.toInt64 :: st) h us
  | .iload_n n => pm_ldi lv n fun x => K (pc + len) lv (.int x :: st) h us
  | .iload n => pm_ldi lv n fun x => K (pc + len) lv (.int x :: st) h us
  | .aload_n n => pm_lda lv n fun x => K (pc + len) lv (.ref x :: st) h us
  | .aload n => pm_lda lv n fun x => K (pc + len) lv (.ref x :: st) h us
  | .istore_n n => pm_1i st fun x rest => (n : Nat) < lv.length ∧ K (pc + len) (lv.set n (some (.int x))) rest h us
  | .istore n => pm_1i st fun x rest => (n : Nat) < lv.length ∧ K (pc + len) (lv.set n (some (.int x))) rest h us
  | .astore_n n => pm_1a st fun x rest => (n : Nat) < lv.length ∧ K (pc + len) (lv.set n (some (.ref x))) rest h us
  | .astore n => pm_1a st fun x rest => (n : Nat) < lv.length ∧ K (pc + len) (lv.set n (some (.ref x))) rest h us
  | .iinc n _ => pm_ldi lv n fun x => K (pc + len) (lv.set n (some (.int (x + cv)))) st h us
  | .iadd => pm_2i st fun x y rest => K (pc + len) lv (.int (x + y) :: rest) h us
  | .isub => pm_2i st fun x y rest => K (pc + len) lv (.int (x - y) :: rest) h us
  | .imul => pm_2i st fun x y rest => K (pc + len) lv (.int (x * y) :: rest) h us
  | .iand => pm_2i st fun x y rest => K (pc + len) lv (.int (x &&& y) :: rest) h us
  | .ior => pm_2i st fun x y rest => K (pc + len) lv (.int (x ||| y) :: rest) h us
  | .ixor => pm_2i st fun x y rest => K (pc + len) lv (.int (x ^^^ y) :: rest) h us
  | .idiv => pm_2i st fun x y rest => ¬ y = 0 ∧ K (pc + len) lv (.int (x / y) :: rest) h us
  | .irem => pm_2i st fun x y rest => ¬ y = 0 ∧ K (pc + len) lv (.int (x - x / y * y) :: rest) h us
  | .ishr => pm_2i st fun x y rest => K (pc + len) lv (.int (x >>> (y &&& 31)) :: rest) h us
  | .iushr => pm_2i st fun x y rest => K (pc + len) lv (.int ((x.toUInt32 >>> (y.toUInt32 &&& Int32.toUInt32 31)).toInt32) :: rest) h us
  | .ineg => pm_1i st fun x rest => K (pc + len) lv (.int (-x) :: rest) h us
  | .i2b => pm_1i st fun x rest => K (pc + len) lv (.int x.toInt8.toInt32 :: rest) h us
  | .i2l => pm_1i st fun x rest => K (pc + len) lv (.long x.toInt64 :: rest) h us
  | .ladd => pm_2l st fun x y rest => K (pc + len) lv (.long (x + y) :: rest) h us
  | .lmul => pm_2l st fun x y rest => K (pc + len) lv (.long (x * y) :: rest) h us
  | .lcmp => pm_2l st fun x y rest => K (pc + len) lv (.int (lg_cmp x y) :: rest) h us
  | .dup => pm_s1 st fun v rest => v.category = 1 ∧ K (pc + len) lv (v :: v :: rest) h us
  | .dup2 => pm_s2 st fun w v rest => v.category = 1 ∧ w.category = 1 ∧ K (pc + len) lv (v :: w :: v :: w :: rest) h us
  | .pop => pm_s1 st fun v rest => v.category = 1 ∧ K (pc + len) lv rest h us
  | .goto _ => K (r.getD 0 0) lv st h us
  | .ifCond .eq _ => pm_1i st fun x rest => (x = 0 → K (r.getD 0 0) lv rest h us) ∧ (¬ x = 0 → K (pc + len) lv rest h us)
  | .ifCond .ne _ => pm_1i st fun x rest => (¬ x = 0 → K (r.getD 0 0) lv rest h us) ∧ (x = 0 → K (pc + len) lv rest h us)
  | .ifCond .lt _ => pm_1i st fun x rest => (x < 0 → K (r.getD 0 0) lv rest h us) ∧ (¬ x < 0 → K (pc + len) lv rest h us)
  | .ifCond .ge _ => pm_1i st fun x rest => (¬ x < 0 → K (r.getD 0 0) lv rest h us) ∧ (x < 0 → K (pc + len) lv rest h us)
  | .ifCond .gt _ => pm_1i st fun x rest => (0 < x → K (r.getD 0 0) lv rest h us) ∧ (¬ 0 < x → K (pc + len) lv rest h us)
  | .ifCond .le _ => pm_1i st fun x rest => (¬ 0 < x → K (r.getD 0 0) lv rest h us) ∧ (0 < x → K (pc + len) lv rest h us)
  | .if_icmp .eq _ => pm_2i st fun x y rest => (x = y → K (r.getD 0 0) lv rest h us) ∧ (¬ x = y → K (pc + len) lv rest h us)
  | .if_icmp .ne _ => pm_2i st fun x y rest => (¬ x = y → K (r.getD 0 0) lv rest h us) ∧ (x = y → K (pc + len) lv rest h us)
  | .if_icmp .lt _ => pm_2i st fun x y rest => (x < y → K (r.getD 0 0) lv rest h us) ∧ (¬ x < y → K (pc + len) lv rest h us)
  | .if_icmp .ge _ => pm_2i st fun x y rest => (¬ x < y → K (r.getD 0 0) lv rest h us) ∧ (x < y → K (pc + len) lv rest h us)
  | .if_icmp .gt _ => pm_2i st fun x y rest => (y < x → K (r.getD 0 0) lv rest h us) ∧ (¬ y < x → K (pc + len) lv rest h us)
  | .if_icmp .le _ => pm_2i st fun x y rest => (¬ y < x → K (r.getD 0 0) lv rest h us) ∧ (y < x → K (pc + len) lv rest h us)
  | .tableswitch _ _ _ _ => match r with
    | _ :: d :: ts => pm_1i st fun x rest => pm_sw x (fun t => K t lv rest h us) d cv ts
    | _ => False
  | .getfield _ => match r with
    | ci :: k :: _ => pm_1a st fun a rest => pm_obj h a ci fun fs => pm_opt (fs[k]?) fun v => K (pc + len) lv (v :: rest) h us
    | _ => False
  | .putfield _ => match r with
    | ci :: k :: kd :: _ => pm_va st fun v a rest => pm_vk kd v ∧ pm_obj h a ci fun fs => k < fs.length ∧ K (pc + len) lv rest (h.set a (.inr (ci, fs.set k v))) us
    | _ => False
  | .getstatic _ => K (pc + len) lv (.ref 1000000 :: st) h us
  | .arraylength => pm_1a st fun a rest => pm_aln ro h a fun n => K (pc + len) lv (.int (nI n) :: rest) h us
  | .iaload => pm_ia st fun i a rest => pm_ird ro h a fun n f => vp_in i n ∧ K (pc + len) lv (.int (f i.toNatClampNeg) :: rest) h us
  | .baload => pm_ia st fun i a rest => pm_arr h a fun t n f => (t = 1 ∨ t = 2) ∧ vp_in i n ∧ K (pc + len) lv (.int (f i.toNatClampNeg) :: rest) h us
  | .laload => pm_ia st fun i a rest => pm_arl h a fun n f => vp_in i n ∧ K (pc + len) lv (.long (f i.toNatClampNeg) :: rest) h us
  | .iastore => pm_iia st fun x i a rest => pm_arr h a fun t n f => t = 0 ∧ vp_in i n ∧ K (pc + len) lv rest (h.set a (.inl (0, n, .inl (upd f i.toNatClampNeg x)))) us
  | .bastore => pm_iia st fun x i a rest => pm_arr h a fun t n f => (t = 1 ∨ t = 2) ∧ vp_in i n ∧ K (pc + len) lv rest (h.set a (.inl (t, n, .inl (upd f i.toNatClampNeg (vp_nar (if t = 1 then .byte else .boolean) x))))) us
  | .lastore => pm_lia st fun x i a rest => pm_arl h a fun n f => vp_in i n ∧ K (pc + len) lv rest (h.set a (.inl (3, n, .inr (.inl (vp_updL f i.toNatClampNeg x))))) us
  | .new _ => match r with
    | 99 :: k :: _ => st = [] ∧ h.length = Nx ∧ us ≤ Sx ∧ Q (some (.retAddr k)) h
    | ci :: nf :: _ => h.length + 1 ≤ Nx ∧ h.length < 1000000 ∧ us + nf ≤ Sx ∧ K (pc + len) lv (.ref h.length :: st) (h ++ [.inr (ci, pm_df ci)]) (us + nf)
    | _ => False
  | .newarray _ => match r with
    | t :: _ => pm_1i st fun x rest => ¬ x < 0 ∧ x.toNatClampNeg ≤ 4000 ∧ h.length + 1 ≤ Nx ∧ h.length < 1000000 ∧ us + x.toNatClampNeg ≤ Sx ∧ K (pc + len) lv (.ref h.length :: rest) (h ++ [.inl (t, x.toNatClampNeg, if t = 3 then .inr (.inl (fun _ => 0)) else .inl (fun _ => 0))]) (us + x.toNatClampNeg)
    | _ => False
  | .invokevirtual _ => pm_inv C Nx Sx K KC r pc lv st h us
  | .invokestatic _ => pm_inv C Nx Sx K KC r pc lv st h us
  | .invokespecial _ => pm_inv C Nx Sx K KC r pc lv st h us
  | .ireturn => pm_ri st fun x => pm_rk rt (.int x) ∧ h.length = Nx ∧ us ≤ Sx ∧ Q (some (.int x)) h
  | .areturn => pm_ra st fun a => pm_rk rt (.ref a) ∧ h.length = Nx ∧ us ≤ Sx ∧ Q (some (.ref a)) h
  | .return_ => pm_rn st (rt = none ∧ h.length = Nx ∧ us ≤ Sx ∧ Q none h)
  | _ => False
/-- the instruction at pc -/
def pm_at (L : List (Option pmI)) (pc : Nat) : Option pmI := match L[pc]? with
  | some q => q
  | none => none
/-- one step -/
def pm_S (ro : pmRO) (C : pmCall) (Nx Sx : Nat) (Q : pmQ) (rt : Option FieldType) (L : List (Option pmI)) (K KC : pmK) : pmK := fun pc lv st h us => match pm_at L pc with
  | some (i, len, cv, r) => pm_I ro C Nx Sx Q rt K KC i len cv r pc lv st h us
  | none => False
/-- every run from here ends, as Q says: the least such -/
def pm_W (ro : pmRO) (C : pmCall) (Nx Sx : Nat) (Q : pmQ) (rt : Option FieldType) (L : List (Option pmI)) : pmK := fun pc lv st h us =>
  ∀ P : pmK, (∀ pc lv st h us, pm_S ro C Nx Sx Q rt L P P pc lv st h us → P pc lv st h us) → P pc lv st h us
def pm_Met (mt : List pmE) : Nat → pmCall
  | 0 => fun _ _ _ _ _ _ => False
  | d + 1 => fun mi mc ms args h Post => match mt[mi]? with
    | some e => args.length ≤ e.2.2.1 ∧ (∀ v ∈ args, v.category = 1) ∧ pm_W pm_ro0 (pm_Met mt d) (h.length + mc) ms Post e.2.2.2.1 e.2.2.2.2.2 0 (args.map some ++ List.replicate (e.2.2.1 - args.length) none) [] h 0
    | none => False
