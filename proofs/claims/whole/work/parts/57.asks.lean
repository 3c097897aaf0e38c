/-! The whole invariant; an ask keeps it; the model's ask. -/
section ML
variable {h h' : pmH} {m : Nat} {o : Nat → Int32} {A B : AD}
/-- what holds of a desk all the time -/
def mI (A : AD) : Prop := skV A ∧ cV A ∧ shV A ∧ ptV A ∧ (∀ x, tc A x ≤ 1) ∧ ((∀ x, 0 < tc A x → ∃ n, n < 100000 ∧ x = nI n) ∧ ∀ x ∈ li A 5, ∃ n, n < 100000 ∧ x = nI n) ∧ (∃ n s, n < s ∧ 10 ≤ s ∧ s ≤ 20000 ∧ sc A 0 = nI n ∧ sc A 11 = nI s) ∧ (∃ n, n ≤ 1000 ∧ sc A 12 = nI n) ∧ (li A 4).length ≤ 16 ∧ (li A 5).length ≤ 100
theorem mI.sk (I : mI A) : skV A := I.1
theorem mI.c (I : mI A) : cV A := I.2.1
theorem mI.sh (I : mI A) : shV A := I.2.2.1
theorem mI.pt (I : mI A) : ptV A := I.2.2.2.1
theorem mI.nd (I : mI A) (x : Int32) : tc A x ≤ 1 := I.2.2.2.2.1 x
theorem mI.ky (I : mI A) {x : Int32} (hx : 0 < tc A x) : ∃ n, n < 100000 ∧ x = nI n := I.2.2.2.2.2.1.1 x hx
theorem mI.kh (I : mI A) {x : Int32} (hx : x ∈ li A 5) : ∃ n, n < 100000 ∧ x = nI n := I.2.2.2.2.2.1.2 x hx
theorem mI.ad (I : mI A) : ∃ n s, n < s ∧ 10 ≤ s ∧ s ≤ 20000 ∧ sc A 0 = nI n ∧ sc A 11 = nI s := I.2.2.2.2.2.2.1
theorem mI.pe (I : mI A) : ∃ n, n ≤ 1000 ∧ sc A 12 = nI n := I.2.2.2.2.2.2.2.1
theorem mI.l4 (I : mI A) : (li A 4).length ≤ 16 := I.2.2.2.2.2.2.2.2.1
theorem mI.l5 (I : mI A) : (li A 5).length ≤ 100 := I.2.2.2.2.2.2.2.2.2
theorem mI.tt (I : mI A) : tot A ≤ 64 := by
  have b := I.sh.b
  obtain ⟨p1, p2, p3⟩ := I.pt
  unfold tot
  omega
theorem mem_ct {l : List Int32} {x : Int32} : x ∈ l ↔ 0 < l.count x := List.count_pos_iff.symm
/-- the sketch's numbers stay in their bounds -/
theorem skV_ad (V : skV A) (C : cV A) (D : ∃ n s, n < s ∧ 10 ≤ s ∧ s ≤ 20000 ∧ sc A 0 = nI n ∧ sc A 11 = nI s) (key : Int32) : skV (addF A key) ∧ cV (addF A key) ∧ ∃ n s, n < s ∧ 10 ≤ s ∧ s ≤ 20000 ∧ sc (addF A key) 0 = nI n ∧ sc (addF A key) 11 = nI s := by
  refine ⟨skV_addF V key, ?_⟩
  obtain ⟨n, s, n1, n2, n3, n4, n5⟩ := D
  have c1 : cV (addF1 A key) := by
    unfold addF1
    split
    · exact C
    · exact fun k hk => raiC_15 C key 4 k hk
  have d1 : ∃ n', n' ≤ n + 1 ∧ sc (addF1 A key) 0 = nI n' := by
    unfold addF1
    split
    · exact ⟨n, by omega, n4⟩
    · rw [sc_uS, if_pos rfl]
      split
      · exact ⟨n, by omega, n4⟩
      · exact ⟨n + 1, by omega, by rw [n4, nI_1]⟩
  have e1 : sc (addF1 A key) 11 = nI s := by
    unfold addF1
    split
    · exact n5
    · rw [sc_ne (by omega)]
      exact n5
  obtain ⟨n', n6, n7⟩ := d1
  unfold addF
  rw [n7, e1]
  by_cases c : nI n' < nI s
  · rw [if_pos c]
    exact ⟨c1, n', s, (nI_ltI (by omega) (by omega)).mp c, n2, n3, n7, e1⟩
  · rw [if_neg c]
    have c' : ¬ n' < s := fun z => c (nI_lt z (by omega))
    refine ⟨fun k hk => ?_, n' / 2, s, by omega, n2, n3, ?_, ?_⟩
    · obtain ⟨w, w1, w2⟩ := c1 k hk
      refine ⟨w / 2, by omega, ?_⟩
      show cn (addF1 A key) k / 2 = nI (w / 2)
      rw [w2, show (2 : Int32) = nI 2 from rfl, pk_div (by omega) (by omega) (by omega)]
    · unfold halF
      rw [sc_ne (by omega), sc_uS, if_pos rfl, n7, show (2 : Int32) = nI 2 from rfl, pk_div (by omega) (by omega) (by omega)]
    · unfold halF
      rw [sc_ne (by omega), sc_ne (by omega)]
      exact e1
/-- the scalars that only settings and the climb change -/
def smZ (A B : AD) : Prop := (∀ i, (i = 0 ∨ i = 1 ∨ 8 ≤ i ∧ i ≤ 18 ∨ i = 23) → sc B i = sc A i) ∧ B.2.2 = A.2.2 ∧ li B 5 = li A 5
theorem smZ.rf : smZ A A := ⟨fun _ _ => rfl, rfl, rfl⟩
theorem smZ.tr {C : AD} (x : smZ A B) (y : smZ B C) : smZ A C := ⟨fun i hi => (y.1 i hi).trans (x.1 i hi), y.2.1.trans x.2.1, y.2.2.trans x.2.2⟩
theorem smZ.shV (x : smZ A B) (V : shV A) : shV B ∧ wN B = wN A ∧ mN B = mN A ∧ sN B = sN A := V.cg (x.1 8 (by omega)) (x.1 9 (by omega)) (x.1 10 (by omega))
theorem smZ.nt (x : smZ A B) : nt B = nt A := congrArg (fun z => z.2.1) x.2.1
theorem smZ.cn (x : smZ A B) : cn B = cn A := congrArg (fun z => z.1) x.2.1
theorem smZ.lw (x : smZ A B) : lw B = lw A := congrArg (fun z => z.2.2) x.2.1
theorem smZ.skV (x : smZ A B) (V : skV A) : skV B := V.cg (x.1 13 (by omega)) (x.1 14 (by omega)) x.nt
theorem smZ.cV (x : smZ A B) (C : cV A) : cV B := fun k hk => by rw [x.cn]; exact C k hk
theorem smZ_uS {i : Nat} (hi : 2 ≤ i ∧ i ≤ 7 ∨ 19 ≤ i ∧ i ≤ 22) (v : Int32) : smZ A (uS A i v) := ⟨fun j hj => sc_ne (by omega), rfl, rfl⟩
theorem smZ_uL {p : Nat} (hp : p ≠ 5) (l : List Int32) : smZ A (uL A p l) := ⟨fun j hj => rfl, rfl, by rw [li_uL, if_neg (Ne.symm hp)]⟩
theorem smZ_gn (y : Int32) : smZ A (gnF A y) := (smZ_uL (p := 4) (by omega) _).tr (smZ_uS (by omega) _)
theorem smZ_clr : smZ A (clrF A) := (((smZ_uS (by omega) _).tr (smZ_uS (by omega) _)).tr (smZ_uS (by omega) _)).tr (smZ_uS (by omega) _)
theorem smZ_cmG (key : Int32) : smZ A (cmG A key) := by
  unfold cmG
  split
  · exact (smZ_uL (p := 4) (by omega) _).tr (smZ_uS (by omega) _)
  · exact smZ.rf
theorem smZ_insR {q : Nat} (hq : q ≠ 5) (y : Int32) : smZ A (insR A q y) := smZ_uL hq _
theorem smZ_drpR {q : Nat} (hq : q ≠ 5) : smZ A (drpR A q) := smZ_uL hq _
/-- a contest: the parts' lengths stay, nothing comes twice -/
theorem lvH_ok (hq : 0 < (li A (lvQ A)).length) (h64 : (li A 2).length + (li A 3).length ≤ 64) (h4 : (li A 4).length ≤ 16) {v c : Int32} (hv : v = (li A (lvQ A)).getLastD (-1)) (hs : sc A 20 = v) : smZ A (lvH A c) ∧ li (lvH A c) 1 = li A 1 ∧ (li (lvH A c) 2).length + (li (lvH A c) 3).length = (li A 2).length + (li A 3).length ∧ (li (lvH A c) 3).length ≤ (li A 3).length ∧ (li (lvH A c) 4).length ≤ 16 ∧ ∀ x, tc (lvH A c) x ≤ tc A x + ic c x := by
  unfold lvH
  split
  · have q23 := lvQ_le (A := A)
    unfold lvW
    dsimp only
    obtain ⟨q, eq_⟩ : ∃ q, q = lvQ A := ⟨_, rfl⟩
    rw [← eq_] at hq hv q23 ⊢
    rw [hs]
    have ql : (li (drpR A q) 2).length ≤ 64 := by
      rcases q23 with e | e
      · rw [e]
        show (li A 2).dropLast.length ≤ 64
        rw [List.length_dropLast]
        omega
      · rw [e]
        show (li A 2).length ≤ 64
        omega
    rw [insR_c ql]
    refine ⟨?_, ?_, ?_, ?_, ?_, fun x => ?_⟩
    · exact ((((smZ_drpR (by omega)).tr (smZ_uL (by omega) _)).tr (smZ_uS (by omega) _)).tr (smZ_uS (by omega) _)).tr ((smZ_uS (by omega) _).tr (smZ_gn _))
    · rcases q23 with e | e <;> rw [e] <;> rfl
    · rcases q23 with e | e
      · rw [e] at hq ⊢
        show (c :: (li A 2).dropLast).length + (li A 3).length = _
        rw [List.length_cons, List.length_dropLast]
        omega
      · rw [e] at hq ⊢
        show (c :: li A 2).length + (li A 3).dropLast.length = _
        rw [List.length_cons, List.length_dropLast]
        omega
    · rcases q23 with e | e
      · rw [e]
        exact Nat.le_refl _
      · rw [e]
        show (li A 3).dropLast.length ≤ _
        rw [List.length_dropLast]
        omega
    · show (ins0 _ v 16).length ≤ 16
      rw [ins_len]
      omega
    · obtain ⟨C, hC⟩ : ∃ C, C = uS (uS (uS (uL (drpR A q) 2 (c :: li (drpR A q) 2)) 21 v) 22 1) 6 (sc (uS (uS (uL (drpR A q) 2 (c :: li (drpR A q) 2)) 21 v) 22 1) 6 + 1) := ⟨_, rfl⟩
      rw [← hC]
      have t1 := tc_gn (A := C) v x
      have t2 : tc C x = tc (uL (drpR A q) 2 (c :: li (drpR A q) 2)) x := by rw [hC]; rfl
      have t3 := tc_uL (A := drpR A q) (q := 2) (by omega) (c :: li (drpR A q) 2) x
      have t4 := tc_dr (A := A) (q := q) (by omega) hq x
      have t5 := ct_cons c x (li (drpR A q) 2)
      rw [← hv] at t4
      omega
  · unfold lvX
    dsimp only
    refine ⟨?_, rfl, rfl, Nat.le_refl _, ?_, fun x => ?_⟩
    · exact ((smZ_uS (by omega) _).tr (smZ_uS (by omega) _)).tr ((smZ_uS (by omega) _).tr (smZ_gn _))
    · show (ins0 _ c 16).length ≤ 16
      rw [ins_len]
      omega
    · exact tc_gn (A := uS (uS (uS A 21 c) 22 0) 7 (sc (uS (uS A 21 c) 22 0) 7 + 1)) c x
theorem lvQ_pos (h0 : 0 < (li A 2).length + (li A 3).length) (h64 : (li A 2).length + (li A 3).length ≤ 64) : 0 < (li A (lvQ A)).length := by
  by_cases z : 0 < (li A 2).length
  · have : lvQ A = 2 := by
      unfold lvQ
      rw [if_pos (show (0 : Int32) < nI (li A 2).length from nI_lt (a := 0) z (by omega))]
    rw [this]
    exact z
  · have : lvQ A = 3 := by
      unfold lvQ
      rw [if_neg (show ¬ (0 : Int32) < nI (li A 2).length from nI_nlt (a := 0) (b := (li A 2).length) (by omega) (by omega))]
    rw [this]
    omega
/-- one leaves the window -/
theorem lvG_ok (V : shV A) (h2 : (li A 2).length + (li A 3).length ≤ mN A) (h3 : (li A 3).length ≤ sN A) (h4 : (li A 4).length ≤ 16) (c : Int32) : smZ A (lvG A c) ∧ li (lvG A c) 1 = li A 1 ∧ (li (lvG A c) 2).length + (li (lvG A c) 3).length ≤ mN A ∧ (li (lvG A c) 3).length ≤ sN A ∧ (li (lvG A c) 4).length ≤ 16 ∧ ∀ x, tc (lvG A c) x ≤ tc A x + ic c x := by
  have b := V.b
  unfold lvG
  rw [V.mm, nI_add]
  by_cases c1 : nI ((li A 2).length + (li A 3).length) < nI (mN A)
  · have c1n : (li A 2).length + (li A 3).length < mN A := (nI_ltI (by omega) (by omega)).mp c1
    rw [if_pos c1]
    refine ⟨smZ_insR (by omega) _, rfl, ?_, h3, h4, fun x => tc_in (by omega) c x⟩
    show (ins0 (li A 2) c 65).length + (li A 3).length ≤ _
    rw [ins_len]
    omega
  · rw [if_neg c1]
    have c1n : ¬ (li A 2).length + (li A 3).length < mN A := fun z => c1 (nI_lt z (by omega))
    by_cases c2 : mN A = 0
    · have c2a : nI (mN A) < 1 := by rw [c2]; decide
      rw [if_pos c2a]
      refine ⟨(smZ_uS (by omega) _).tr (smZ_gn _), rfl, h2, h3, ?_, fun x => tc_gn (A := uS A 21 c) c x⟩
      show (ins0 _ c 16).length ≤ 16
      rw [ins_len]
      omega
    · have c2a : ¬ nI (mN A) < 1 := nI_nlt (b := 1) (by omega) (by omega)
      rw [if_neg c2a]
      have K := lvH_ok (A := uS A 20 ((li A (lvQ A)).getLastD (-1))) (c := c) (v := (li A (lvQ A)).getLastD (-1)) (lvQ_pos (A := A) (by omega) (by omega)) (show (li A 2).length + (li A 3).length ≤ 64 by omega) h4 rfl (by rw [sc_uS, if_pos rfl])
      obtain ⟨k1, k2, k3, k4, k5, k6⟩ := K
      refine ⟨(smZ_uS (by omega) _).tr k1, k2, ?_, Nat.le_trans k4 h3, k5, k6⟩
      have e : (li (uS A 20 ((li A (lvQ A)).getLastD (-1))) 2).length + (li (uS A 20 ((li A (lvQ A)).getLastD (-1))) 3).length = (li A 2).length + (li A 3).length := rfl
      omega
/-- a miss: B is the desk with the key at the window's front -/
theorem srB2_ok (V : shV B) (h1 : (li B 1).length ≤ wN B + 1) (h2 : (li B 2).length + (li B 3).length ≤ mN B) (h3 : (li B 3).length ≤ sN B) (h4 : (li B 4).length ≤ 16) : smZ B (srB2 B) ∧ ptV (srB2 B) ∧ (li (srB2 B) 4).length ≤ 16 ∧ ∀ x, tc (srB2 B) x ≤ tc B x := by
  have b := V.b
  have eR : srB2 B = if nI (wN B) < nI (li B 1).length then lvF (drpR B 1) ((li B 1).getLastD (-1)) else B := by
    unfold srB2
    rw [V.w]
  rw [eR]
  by_cases c : nI (wN B) < nI (li B 1).length
  · rw [if_pos c]
    have cc : wN B < (li B 1).length := (nI_ltI (by omega) (by omega)).mp c
    have z : smZ B (uS (drpR B 1) 19 ((li B 1).getLastD (-1))) := (smZ_drpR (by omega)).tr (smZ_uS (by omega) _)
    obtain ⟨V1, w1, m1, s1⟩ := z.shV V
    obtain ⟨k1, k2, k3, k4, k5, k6⟩ := lvG_ok (A := uS (drpR B 1) 19 ((li B 1).getLastD (-1))) V1 (by rw [m1]; exact h2) (by rw [s1]; exact h3) h4 ((li B 1).getLastD (-1))
    have e : lvF (drpR B 1) ((li B 1).getLastD (-1)) = lvG (uS (drpR B 1) 19 ((li B 1).getLastD (-1))) ((li B 1).getLastD (-1)) := rfl
    rw [← e] at k1 k2 k3 k4 k5 k6
    have zz := z.tr k1
    obtain ⟨V2, w2, m2, s2⟩ := zz.shV V
    refine ⟨zz, ⟨?_, ?_, ?_⟩, k5, fun x => ?_⟩
    · rw [k2, w2]
      show (li B 1).dropLast.length ≤ _
      rw [List.length_dropLast]
      omega
    · rw [m2, ← m1]
      exact k3
    · rw [s2, ← s1]
      exact k4
    · have t1 := k6 x
      have t2 := tc_dr (A := B) (q := 1) (by omega) (by omega) x
      have t3 : tc (uS (drpR B 1) 19 ((li B 1).getLastD (-1))) x = tc (drpR B 1) x := rfl
      omega
  · rw [if_neg c]
    have cc : ¬ wN B < (li B 1).length := fun z => c (nI_lt z (by omega))
    exact ⟨smZ.rf, ⟨by omega, h2, h3⟩, h4, fun x => Nat.le_refl _⟩
theorem partN_1 {key : Int32} (h : partN A key = 0) : key ∉ li A 1 ∧ key ∉ li A 2 ∧ key ∉ li A 3 := by
  unfold partN at h
  by_cases c1 : key ∈ li A 1
  · rw [if_pos c1] at h
    omega
  rw [if_neg c1] at h
  by_cases c2 : key ∈ li A 2
  · rw [if_pos c2] at h
    omega
  rw [if_neg c2] at h
  by_cases c3 : key ∈ li A 3
  · rw [if_pos c3] at h
    omega
  exact ⟨c1, c2, c3⟩
theorem partN_2 {key : Int32} (h : ¬ partN A key = 0) : 1 ≤ partN A key ∧ partN A key ≤ 3 ∧ key ∈ li A (partN A key) := by
  unfold partN at h ⊢
  by_cases c1 : key ∈ li A 1
  · rw [if_pos c1]
    exact ⟨by omega, by omega, c1⟩
  rw [if_neg c1] at h ⊢
  by_cases c2 : key ∈ li A 2
  · rw [if_pos c2]
    exact ⟨by omega, by omega, c2⟩
  rw [if_neg c2] at h ⊢
  by_cases c3 : key ∈ li A 3
  · rw [if_pos c3]
    exact ⟨by omega, by omega, c3⟩
  rw [if_neg c3] at h
  exact absurd rfl h
/-- a hit -/
theorem mvF_ok (V : shV A) (P : ptV A) {p : Nat} (h1 : 1 ≤ p) (h3 : p ≤ 3) {key : Int32} (hm : key ∈ li A p) : smZ A (mvF A p key) ∧ ptV (mvF A p key) ∧ li (mvF A p key) 4 = li A 4 ∧ ∀ x, tc (mvF A p key) x ≤ tc A x := by
  have b := V.b
  obtain ⟨p1, p2, p3⟩ := P
  have le : ((li A p).erase key).length = (li A p).length - 1 := List.length_erase_of_mem hm
  have nz : 0 < (li A p).length := List.length_pos_of_mem hm
  have te : ∀ x, tc (uL A p ((li A p).erase key)) x + ic key x = tc A x := fun x => by
    have t1 := tc_uL (A := A) (q := p) (by omega) ((li A p).erase key) x
    have t2 := ct_er hm x
    omega
  -- the second step: SAFE's last one to TRIED
  have fin : ∀ C : AD, smZ A C → (li C 1).length ≤ wN A → (li C 2).length + (li C 3).length ≤ mN A → (li C 3).length ≤ sN A + 1 → li C 4 = li A 4 → (∀ x, tc C x ≤ tc A x) → smZ A (mvE C) ∧ ptV (mvE C) ∧ li (mvE C) 4 = li A 4 ∧ ∀ x, tc (mvE C) x ≤ tc A x := by
    intro C z q1 q2 q3 q4 q5
    obtain ⟨V1, w1, m1, s1⟩ := z.shV V
    have eE : mvE C = if nI (sN C) < nI (li C 3).length then mvD C 3 else C := by
      unfold mvE
      rw [V1.s]
    rw [eE, s1]
    by_cases c : nI (sN A) < nI (li C 3).length
    · rw [if_pos c]
      have cc : sN A < (li C 3).length := (nI_ltI (by omega) (by omega)).mp c
      have zz : smZ A (mvD C 3) := z.tr ((smZ_drpR (by omega)).tr (smZ_insR (by omega) _))
      obtain ⟨V2, w2, m2, s2⟩ := zz.shV V
      have l3 : (li (mvD C 3) 3).length = (li C 3).length - 1 := by
        show (li C 3).dropLast.length = _
        rw [List.length_dropLast]
      have l2 : (li (mvD C 3) 2).length = min 65 ((li C 2).length + 1) := ins_len _ _ _
      refine ⟨zz, ⟨by rw [w2]; exact q1, by rw [m2]; omega, by rw [s2]; omega⟩, q4, fun x => Nat.le_trans (tc_mv (by omega) (by omega) x) (q5 x)⟩
    · rw [if_neg c]
      have cc : ¬ sN A < (li C 3).length := fun z => c (nI_lt z (by omega))
      exact ⟨z, ⟨by rw [w1]; exact q1, by rw [m1]; exact q2, by rw [s1]; omega⟩, q4, q5⟩
  have : p = 1 ∨ p = 2 ∨ p = 3 := by omega
  rcases this with rfl | rfl | rfl
  · refine fin (insR (uL A 1 ((li A 1).erase key)) 1 key) ((smZ_uL (by omega) _).tr (smZ_insR (by omega) _)) ?_ p2 (by show (li A 3).length ≤ _; omega) rfl (fun x => ?_)
    · show (ins0 ((li A 1).erase key) key 65).length ≤ _
      rw [ins_len]
      omega
    · have t1 := te x
      have t2 := tc_in (A := uL A 1 ((li A 1).erase key)) (q := 1) (by omega) key x
      omega
  · refine fin (insR (uL A 2 ((li A 2).erase key)) 3 key) ((smZ_uL (by omega) _).tr (smZ_insR (by omega) _)) p1 ?_ ?_ rfl (fun x => ?_)
    · show ((li A 2).erase key).length + (ins0 (li A 3) key 65).length ≤ _
      rw [ins_len]
      omega
    · show (ins0 (li A 3) key 65).length ≤ _
      rw [ins_len]
      omega
    · have t1 := te x
      have t2 := tc_in (A := uL A 2 ((li A 2).erase key)) (q := 3) (by omega) key x
      omega
  · refine fin (insR (uL A 3 ((li A 3).erase key)) 3 key) ((smZ_uL (by omega) _).tr (smZ_insR (by omega) _)) p1 ?_ ?_ rfl (fun x => ?_)
    · show (li A 2).length + (ins0 ((li A 3).erase key) key 65).length ≤ _
      rw [ins_len]
      omega
    · show (ins0 ((li A 3).erase key) key 65).length ≤ _
      rw [ins_len]
      omega
    · have t1 := te x
      have t2 := tc_in (A := uL A 3 ((li A 3).erase key)) (q := 3) (by omega) key x
      omega
end ML
