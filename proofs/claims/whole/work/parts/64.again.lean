/-! What an ask's hits don't hang on: the history, the climb's numbers, the contest's. -/
section MS
variable {A B : AD} {c v : Int32}
def rH (A B : AD) : Prop := (∀ i, i < 15 ∨ i = 23 → sc B i = sc A i) ∧ (∀ p, 1 ≤ p ∧ p ≤ 4 → li B p = li A p) ∧ cn B = cn A ∧ nt B = nt A ∧ lw B = lw A
theorem rH_uS (H : rH A B) (i : Nat) {v w : Int32} (e : v = w) : rH (uS A i v) (uS B i w) := by
  subst e
  refine ⟨fun j hj => ?_, fun p hp => ?_, H.2.2.1, H.2.2.2.1, H.2.2.2.2⟩
  · rw [sc_uS, sc_uS]
    split
    · rfl
    · exact H.1 j hj
  · rw [li_uS, li_uS]
    exact H.2.1 p hp
theorem rH_uSl (H : rH A B) {i : Nat} (hi : 15 ≤ i ∧ i ≤ 22) (v w : Int32) : rH (uS A i v) (uS B i w) := by
  refine ⟨fun j hj => ?_, fun p hp => ?_, H.2.2.1, H.2.2.2.1, H.2.2.2.2⟩
  · rw [sc_ne (by omega), sc_ne (by omega)]
    exact H.1 j hj
  · rw [li_uS, li_uS]
    exact H.2.1 p hp
theorem rH_uL (H : rH A B) (p : Nat) {x y : List Int32} (e : p ≠ 5 → x = y) : rH (uL A p x) (uL B p y) := by
  refine ⟨fun j hj => ?_, fun q hq => ?_, H.2.2.1, H.2.2.2.1, H.2.2.2.2⟩
  · rw [sc_uL, sc_uL]
    exact H.1 j hj
  · rw [li_uL, li_uL]
    by_cases c : q = p
    · rw [if_pos c, if_pos c]
      exact (e (by omega)).symm
    · rw [if_neg c, if_neg c]
      exact H.2.1 q hq
theorem rH_uC (H : rH A B) {f g : Nat → Int32} (e : f = g) : rH (uC A f) (uC B g) := ⟨H.1, H.2.1, e.symm, H.2.2.2.1, H.2.2.2.2⟩
theorem rH_uN (H : rH A B) {f g : Nat → Int32} (e : f = g) : rH (uN A f) (uN B g) := ⟨H.1, H.2.1, H.2.2.1, e.symm, H.2.2.2.2⟩
theorem rH_est (H : rH A B) (k : Int32) : estF B k = estF A k := estF_cg (H.1 13 (by omega)) (H.1 14 (by omega)) H.2.2.1 H.2.2.2.1 k
theorem rH_half (H : rH A B) : rH (halF A) (halF B) := by
  unfold halF
  refine rH_uS (rH_uS (rH_uN (rH_uC H ?_) rfl) 0 ?_) 1 ?_
  · rw [H.2.2.1]
  · rw [H.1 0 (by omega)]
  · rw [H.1 1 (by omega)]
theorem rH_add1 (H : rH A B) (k : Int32) : rH (addF1 A k) (addF1 B k) := by
  unfold addF1
  rw [H.1 14 (by omega), notd_cg (H.1 14 (by omega)) H.2.2.2.1, raiC_cg (H.1 13 (by omega)) H.2.2.1, H.2.2.2.1, H.1 0 (by omega)]
  split
  · exact rH_uN H rfl
  · exact rH_uS (rH_uC H rfl) 0 rfl
theorem rH_add (H : rH A B) (k : Int32) : rH (addF A k) (addF B k) := by
  have H1 := rH_add1 H k
  unfold addF
  rw [H1.1 0 (by omega), H1.1 11 (by omega)]
  split
  · exact H1
  · exact rH_half H1
theorem fcF_0 : fcF A c v 0 = estF A c := rfl
theorem fcF_1 : fcF A c v 1 = estF A v := rfl
theorem fcF_2 : fcF A c v 2 = sc A 3 := rfl
theorem fcF_3 : fcF A c v 3 = sc A 2 := rfl
theorem fcF_4 : fcF A c v 4 = sc A 4 := rfl
theorem fcF_5 : fcF A c v 5 = sc A 9 := rfl
theorem fcF_6 : fcF A c v 6 = sc A 8 := rfl
theorem fcF_7 (n : Nat) : fcF A c v (n + 7) = c - c / 10 * 10 := rfl
theorem rH_bef (H : rH A B) (c v : Int32) : beF B c v = beF A c v := by
  have ef : fcF B c v = fcF A c v := by
    funext i
    match i with
    | 0 => rw [fcF_0, fcF_0, rH_est H c]
    | 1 => rw [fcF_1, fcF_1, rH_est H v]
    | 2 => rw [fcF_2, fcF_2, H.1 3 (by omega)]
    | 3 => rw [fcF_3, fcF_3, H.1 2 (by omega)]
    | 4 => rw [fcF_4, fcF_4, H.1 4 (by omega)]
    | 5 => rw [fcF_5, fcF_5, H.1 9 (by omega)]
    | 6 => rw [fcF_6, fcF_6, H.1 8 (by omega)]
    | n + 7 => rw [fcF_7, fcF_7]
  unfold beF
  rw [H.1 23 (by omega), rH_est H c, rH_est H v, H.2.2.2.2, ef]
theorem rH_gn (H : rH A B) (k : Int32) : rH (gnF A k) (gnF B k) := by
  unfold gnF
  exact rH_uS (rH_uL H 4 (fun _ => by rw [H.2.1 4 (by omega)])) 4 (by rw [H.1 4 (by omega)])
theorem rH_ins (H : rH A B) {q : Nat} (hq : 1 ≤ q ∧ q ≤ 4) {x y : Int32} (e : x = y) : rH (insR A q x) (insR B q y) := by
  unfold insR
  exact rH_uL H q (fun _ => by rw [H.2.1 q hq, e])
theorem rH_drp (H : rH A B) {q : Nat} (hq : 1 ≤ q ∧ q ≤ 4) : rH (drpR A q) (drpR B q) := by
  unfold drpR
  exact rH_uL H q (fun _ => by rw [H.2.1 q hq])
theorem rH_lvQ (H : rH A B) : lvQ B = lvQ A := by
  unfold lvQ
  rw [H.2.1 2 (by omega)]
theorem rH_lvH (H : rH A B) (e : sc B 20 = sc A 20) (c : Int32) : rH (lvH A c) (lvH B c) := by
  have q5 : 1 ≤ lvQ A ∧ lvQ A ≤ 4 := by
    rcases lvQ_le (A := A) with z | z <;> rw [z] <;> omega
  unfold lvH
  rw [rH_bef H, e]
  split
  · unfold lvW
    rw [rH_lvQ H, e]
    dsimp only
    have H1 : rH (uS (uS (insR (drpR A (lvQ A)) 2 c) 21 (sc A 20)) 22 1) (uS (uS (insR (drpR B (lvQ A)) 2 c) 21 (sc A 20)) 22 1) := rH_uS (rH_uS (rH_ins (rH_drp H q5) (by omega) rfl) 21 rfl) 22 rfl
    exact rH_gn (rH_uS H1 6 (by rw [H1.1 6 (by omega)])) _
  · unfold lvX
    dsimp only
    have H1 : rH (uS (uS A 21 c) 22 0) (uS (uS B 21 c) 22 0) := rH_uS (rH_uS H 21 rfl) 22 rfl
    exact rH_gn (rH_uS H1 7 (by rw [H1.1 7 (by omega)])) _
theorem rH_lvG (H : rH A B) (c : Int32) : rH (lvG A c) (lvG B c) := by
  have q5 : 1 ≤ lvQ A ∧ lvQ A ≤ 4 := by
    rcases lvQ_le (A := A) with z | z <;> rw [z] <;> omega
  unfold lvG
  rw [H.2.1 2 (by omega), H.2.1 3 (by omega), H.1 8 (by omega), H.1 9 (by omega), rH_lvQ H, H.2.1 _ q5]
  split
  · exact rH_ins H (by omega) rfl
  · split
    · exact rH_gn (rH_uS H 21 rfl) _
    · exact rH_lvH (rH_uS H 20 rfl) (by rw [sc_uS, sc_uS, if_pos rfl, if_pos rfl]) c
theorem rH_srB2 (H : rH A B) : rH (srB2 A) (srB2 B) := by
  unfold srB2 lvF
  rw [H.1 8 (by omega), H.1 9 (by omega), H.2.1 1 (by omega)]
  split
  · exact rH_lvG (rH_uS (rH_drp H (by omega)) 19 rfl) _
  · exact H
theorem rH_cmF (H : rH A B) (k : Int32) : rH (cmF A k) (cmF B k) := by
  have H1 : rH (clrF A) (clrF B) := rH_uS (rH_uS (rH_uS (rH_uS H 19 rfl) 20 rfl) 21 rfl) 22 rfl
  unfold cmF cmG
  rw [H1.2.1 4 (by omega), H1.1 5 (by omega)]
  split
  · exact rH_ins (rH_uS (rH_uL H1 4 (fun _ => rfl)) 5 rfl) (by omega) rfl
  · exact rH_ins H1 (by omega) rfl
theorem rH_mvE (H1 : rH A B) : rH (mvE A) (mvE B) := by
  unfold mvE
  rw [H1.1 8 (by omega), H1.1 9 (by omega), H1.1 10 (by omega), H1.2.1 3 (by omega)]
  split
  · unfold mvD
    rw [H1.2.1 3 (by omega)]
    exact rH_ins (rH_drp H1 (by omega)) (by omega) rfl
  · exact H1
theorem rH_mvF (H : rH A B) {p : Nat} (hp : 1 ≤ p ∧ p ≤ 4) (k : Int32) : rH (mvF A p k) (mvF B p k) := by
  obtain ⟨q, hq⟩ : ∃ q, (if p = 1 then 1 else 3) = q := ⟨_, rfl⟩
  have q5 : 1 ≤ q ∧ q ≤ 4 := by
    rw [← hq]
    split <;> omega
  unfold mvF
  rw [hq, H.2.1 p hp]
  exact rH_mvE (rH_ins (rH_uL H p (fun _ => rfl)) q5 rfl)
theorem rH_par (H : rH A B) (k : Int32) : partN B k = partN A k := by
  unfold partN
  rw [H.2.1 1 (by omega), H.2.1 2 (by omega), H.2.1 3 (by omega)]
theorem rH_srA (H : rH A B) (k : Int32) : rH (srA A k) (srA B k) := by
  have H1 := rH_add H k
  unfold srA remF
  exact rH_uL (rH_uS H1 2 (by rw [H1.1 2 (by omega)])) 5 (fun z => absurd rfl z)
theorem srC_no (h : sc A 12 < 1) (b : Int32) : srC A b = A := by
  unfold srC
  rw [if_pos h]
theorem rH_srv (I : mI A) (H : rH A B) {k : Int32} (hk : ∃ n, n < 100000 ∧ k = nI n) (h12 : sc A 12 < 1) : rH (srvF A k) (srvF B k) ∧ sc (srvF A k) 12 < 1 := by
  have S := rH_srA H k
  have SI := srA_ok I hk
  have a12 : sc (srA A k) 12 = sc A 12 := srA_sc k (by omega) (by omega) (by omega) (by omega) (by omega) (by omega)
  unfold srvF srG
  rw [rH_par S]
  by_cases c : partN (srA A k) k = 0
  · rw [if_pos c, if_pos c]
    obtain ⟨c1, c2, c3, c4, c5, c6, c7⟩ := cmF_ok SI hk c
    obtain ⟨V1, w1, m1, s1⟩ := c1.shV SI.sh
    obtain ⟨p1, p2, p3⟩ := SI.pt
    obtain ⟨b1, b2, b3, b4⟩ := srB2_ok (B := cmF (srA A k) k) V1 (by rw [w1]; exact c2) (by rw [c3, c4, m1]; exact p2) (by rw [c4, s1]; exact p3) c5
    have e12 : sc (srB2 (cmF (srA A k) k)) 12 < 1 := by
      rw [(c1.tr b1).1 12 (by omega), a12]
      exact h12
    have R := rH_srB2 (rH_cmF S k)
    rw [srC_no e12, srC_no (by rw [R.1 12 (by omega)]; exact e12)]
    exact ⟨R, e12⟩
  · rw [if_neg c, if_neg c]
    obtain ⟨q1, q2, q3⟩ := partN_2 c
    have z : smZ (srA A k) (uS (srA A k) 3 (sc (srA A k) 3 + 1)) := smZ_uS (by omega) _
    obtain ⟨V1, w1, m1, s1⟩ := z.shV SI.sh
    have P1 : ptV (uS (srA A k) 3 (sc (srA A k) 3 + 1)) := by
      unfold ptV
      rw [w1, m1, s1]
      exact SI.pt
    obtain ⟨b1, b2, b3, b4⟩ := mvF_ok V1 P1 q1 q2 (key := k) q3
    have e12 : sc (mvF (uS (srA A k) 3 (sc (srA A k) 3 + 1)) (partN (srA A k) k) k) 12 < 1 := by
      rw [(z.tr b1).1 12 (by omega), a12]
      exact h12
    have R := rH_mvF (rH_uS S 3 (v := sc (srA A k) 3 + 1) (w := sc (srA B k) 3 + 1) (by rw [S.1 3 (by omega)])) (p := partN (srA A k) k) (by omega) k
    rw [srC_no e12, srC_no (by rw [R.1 12 (by omega)]; exact e12)]
    exact ⟨R, e12⟩
theorem rH_fs : ∀ (ks : List Int32) {A B : AD}, mI A → rH A B → (∀ x ∈ ks, ∃ n, n < 100000 ∧ x = nI n) → sc A 12 < 1 → rH (fsF A ks) (fsF B ks)
  | [], _, _, _, H, _, _ => H
  | x :: ks, _, _, I, H, hk, h12 => by
    have hx := hk x List.mem_cons_self
    obtain ⟨R, e⟩ := rH_srv I H hx h12
    exact rH_fs ks (srvF_ok I hx) R (fun y hy => hk y (List.mem_cons_of_mem _ hy)) e
/-- how the hits go -/
theorem gn_3 (y : Int32) : sc (gnF A y) 3 = sc A 3 := by
  unfold gnF
  rw [sc_ne (by omega), sc_uL]
theorem lvH_3 (c : Int32) : sc (lvH A c) 3 = sc A 3 := by
  unfold lvH
  split
  · unfold lvW insR drpR
    dsimp only
    rw [gn_3, sc_ne (by omega), sc_ne (by omega), sc_ne (by omega), sc_uL, sc_uL]
  · unfold lvX
    dsimp only
    rw [gn_3, sc_ne (by omega), sc_ne (by omega), sc_ne (by omega)]
theorem lvG_3 (c : Int32) : sc (lvG A c) 3 = sc A 3 := by
  unfold lvG
  split
  · unfold insR
    rw [sc_uL]
  · split
    · rw [gn_3, sc_ne (by omega)]
    · rw [lvH_3, sc_ne (by omega)]
theorem srB2_3 : sc (srB2 A) 3 = sc A 3 := by
  unfold srB2 lvF drpR
  split
  · rw [lvG_3, sc_ne (by omega), sc_uL]
  · rfl
theorem cmF_3 (k : Int32) : sc (cmF A k) 3 = sc A 3 := by
  unfold cmF cmG clrF insR
  split
  · rw [sc_uL, sc_ne (by omega), sc_uL, sc_ne (by omega), sc_ne (by omega), sc_ne (by omega), sc_ne (by omega)]
  · rw [sc_uL, sc_ne (by omega), sc_ne (by omega), sc_ne (by omega), sc_ne (by omega)]
theorem mvE_3 : sc (mvE A) 3 = sc A 3 := by
  unfold mvE mvD insR drpR
  split
  · rw [sc_uL, sc_uL]
  · rfl
theorem mvF_3 (p : Nat) (k : Int32) : sc (mvF A p k) 3 = sc A 3 := by
  unfold mvF
  rw [mvE_3]
  unfold insR
  rw [sc_uL, sc_uL]
theorem srC_3 (I : mI A) (b : Int32) : sc (srC A b) 3 = sc A 3 := by
  unfold srC
  split
  · rfl
  · split
    · exact srC1_n (by omega) (by omega)
    · have J := srC_fit I b
      have f5 := (fitF_ok J.2.2.1 J.2.2.2.1 J.2.2.2.2.2.2.2.2.1).2.2.2.2.1
      rw [f5.1 3 (by omega), srC3_n (by omega), srC2_n (by omega), srC1_n (by omega) (by omega)]
def hitN (A : AD) (k : Int32) : Nat := if partN A k = 0 then 0 else 1
theorem srv_3 (I : mI A) {k : Int32} (hk : ∃ n, n < 100000 ∧ k = nI n) : sc (srvF A k) 3 = sc A 3 + nI (hitN A k) := by
  have SI := srA_ok I hk
  have a3 : sc (srA A k) 3 = sc A 3 := srA_sc k (by omega) (by omega) (by omega) (by omega) (by omega) (by omega)
  unfold hitN srvF srG
  rw [srA_pn]
  by_cases c : partN A k = 0
  · rw [if_pos c, if_pos c, srC_3 (srG_miss SI hk (by rw [srA_pn]; exact c)), srB2_3, cmF_3, a3]
    exact (Int32.add_zero _).symm
  · have IH := srG_hit SI (key := k) (by rw [srA_pn]; exact c)
    rw [srA_pn] at IH
    rw [if_neg c, if_neg c, srC_3 IH, mvF_3, sc_uS, if_pos rfl, a3]
    rfl
/-- how many hits a row of asks brings -/
def hitS : List Int32 → AD → Nat
  | [], _ => 0
  | x :: ks, A => hitN A x + hitS ks (srvF A x)
theorem hitS_le : ∀ (ks : List Int32) (A : AD), hitS ks A ≤ ks.length
  | [], _ => Nat.le_refl _
  | x :: ks, A => by
    have := hitS_le ks (srvF A x)
    have h1 : hitN A x ≤ 1 := by
      unfold hitN
      split <;> omega
    show hitN A x + hitS ks (srvF A x) ≤ _
    rw [List.length_cons]
    omega
theorem fs_3 : ∀ (ks : List Int32) {A : AD}, mI A → (∀ x ∈ ks, ∃ n, n < 100000 ∧ x = nI n) → sc (fsF A ks) 3 = sc A 3 + nI (hitS ks A)
  | [], _, _, _ => (Int32.add_zero _).symm
  | x :: ks, A, I, hk => by
    have hx := hk x List.mem_cons_self
    have e := fs_3 ks (srvF_ok I hx) (fun y hy => hk y (List.mem_cons_of_mem _ hy))
    have e2 : fsF A (x :: ks) = fsF (srvF A x) ks := rfl
    rw [e2, e, srv_3 I hx, Int32.add_assoc, nI_add]
    rfl
theorem fs_app (A : AD) (xs ys : List Int32) : fsF A (xs ++ ys) = fsF (fsF A xs) ys := List.foldl_append
/-- the model's desk of AGAIN -/
def agD (A : AD) (door : Int32) : AD := (fun i => if i < 8 then 0 else if i = 9 then door else if i = 12 then 0 else sc A i, fun p => if p = 5 then li A 5 else [], fun _ => 0, fun _ => 0, lw A)
end MS
