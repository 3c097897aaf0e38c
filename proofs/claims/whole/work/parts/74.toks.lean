/-! A text's tokens, from a byte on: what stands there. -/
section NC
variable {bs : List Int32} {dm : Int32}
def isB (x : Int32) : Bool := decide (x = 9 ∨ x = 10 ∨ x = 32)
theorem beR_in (p : Int32 → Bool) {k : Nat} (hk : k < bs.length) (hp : p (bs.getD k (-1)) = true) : beR p bs k = beR p bs (k + 1) := by
  unfold beR
  rw [show bs.length - k = (bs.length - (k + 1)) + 1 by omega]
  show (if p (bs.getD k (-1)) = true then beG p bs (bs.length - (k + 1)) (k + 1) else k) = _
  rw [if_pos hp]
theorem beR_out (p : Int32 → Bool) {k : Nat} (hk : k < bs.length) (hp : p (bs.getD k (-1)) = false) : beR p bs k = k := by
  unfold beR
  rw [show bs.length - k = (bs.length - (k + 1)) + 1 by omega]
  show (if p (bs.getD k (-1)) = true then beG p bs (bs.length - (k + 1)) (k + 1) else k) = _
  rw [hp, if_neg (by decide)]
theorem beR_end (p : Int32 → Bool) {k : Nat} (hk : bs.length ≤ k) : beR p bs k = k := by
  unfold beR
  rw [show bs.length - k = 0 by omega]
  rfl
theorem beR_stop (p : Int32 → Bool) : ∀ z k, bs.length - k = z → k ≤ bs.length → k ≤ beR p bs k ∧ beR p bs k ≤ bs.length ∧ (∀ j, k ≤ j → j < beR p bs k → p (bs.getD j (-1)) = true) ∧ (beR p bs k < bs.length → p (bs.getD (beR p bs k) (-1)) = false)
  | 0, k, hz, hk => by
    rw [beR_end p (by omega)]
    exact ⟨Nat.le_refl _, hk, fun j h1 h2 => by omega, fun h => by omega⟩
  | z + 1, k, hz, hk => by
    cases c : p (bs.getD k (-1)) with
    | true =>
      obtain ⟨i1, i2, i3, i4⟩ := beR_stop p z (k + 1) (by omega) (by omega)
      rw [beR_in p (by omega) c]
      refine ⟨by omega, i2, fun j h1 h2 => ?_, i4⟩
      by_cases e : j = k
      · rw [e]
        exact c
      · exact i3 j (by omega) h2
    | false =>
      rw [beR_out p (by omega) c]
      exact ⟨Nat.le_refl _, hk, fun j h1 h2 => by omega, fun _ => c⟩
/-- where the next token begins -/
def skp (bs : List Int32) (k : Nat) : Nat := beR isB bs k
theorem skp_le {k : Nat} (hk : k ≤ bs.length) : k ≤ skp bs k ∧ skp bs k ≤ bs.length := ⟨(beR_stop isB _ k rfl hk).1, (beR_stop isB _ k rfl hk).2.1⟩
theorem skp_nb {k : Nat} (hk : k ≤ bs.length) (hs : skp bs k < bs.length) : isB (bs.getD (skp bs k) (-1)) = false := (beR_stop isB _ k rfl hk).2.2.2 hs
theorem skp_id {k : Nat} (hb : k < bs.length → isB (bs.getD k (-1)) = false) : skp bs k = k := by
  unfold skp
  by_cases c : k < bs.length
  · exact beR_out isB c (hb c)
  · exact beR_end isB (by omega)
theorem skp_skp {k : Nat} (hk : k ≤ bs.length) : skp bs (skp bs k) = skp bs k := skp_id (fun h => skp_nb hk h)
/-- tokens put behind tokens -/
def tsA (t u : TS) : TS := (t.1 ++ u.1, t.2.1 ++ u.2.1, t.2.2 ++ u.2.2)
theorem tsA_n (t : TS) : tsA t ([], [], []) = t := by
  unfold tsA
  rw [List.append_nil, List.append_nil, List.append_nil]
theorem tsA_l (t : TS) : tsA ([], [], []) t = t := rfl
theorem tsA_a (t u v : TS) : tsA (tsA t u) v = tsA t (tsA u v) := by
  unfold tsA
  rw [List.append_assoc, List.append_assoc, List.append_assoc]
theorem tkA_a (t : TS) (k n s : Int32) : tkA t k n s = tsA t ([k], [s], [n]) := rfl
theorem coF_a (k : Nat) (t : TS) : coF bs dm k t = ((coF bs dm k ([], [], [])).1, tsA t (coF bs dm k ([], [], [])).2) := by
  unfold coF
  dsimp only
  split
  · rw [tsA_n]
  · split
    · split
      · rfl
      · rfl
    · split
      · rfl
      · rfl
theorem coF_lt {k : Nat} (hk : k < bs.length) (t : TS) : k < (coF bs dm k t).1 ∧ (coF bs dm k t).1 ≤ bs.length := by
  unfold coF
  dsimp only
  split
  · exact ⟨by show k < k + 1; omega, by show k + 1 ≤ _; omega⟩
  · split
    · rename_i hd
      have := beR_lt isD hk hd
      have := beR_le isD hk
      split
      · exact ⟨by assumption, by omega⟩
      · exact ⟨by assumption, by omega⟩
    · split
      · rename_i hd
        have := beR_lt isL hk hd
        have := beR_le isL hk
        exact ⟨by assumption, by omega⟩
      · exact ⟨by show k < k + 1; omega, by show k + 1 ≤ _; omega⟩
/-- the tokens from a byte on -/
def tkS (bs : List Int32) (dm : Int32) (k : Nat) : TS := cuG bs dm (bs.length - k) k ([], [], [])
theorem cuG_t : ∀ (z k f : Nat) (t : TS), bs.length - k = z → z ≤ f → cuG bs dm f k t = tsA t (tkS bs dm k) ∧ cuG bs dm f k t = tsA t (cuG bs dm z k ([], [], []))
  | z, k, 0, t, hz, hf => by
    have e : tkS bs dm k = ([], [], []) := by
      unfold tkS
      rw [show bs.length - k = 0 by omega]
      rfl
    have z0 : z = 0 := by omega
    subst z0
    rw [e, tsA_n]
    exact ⟨rfl, (tsA_n t).symm⟩
  | z, k, f + 1, t, hz, hf => by
    have key : cuG bs dm (f + 1) k t = tsA t (cuG bs dm z k ([], [], [])) := by
      rw [cuG_s]
      by_cases c : k < bs.length
      · rw [if_pos c]
        obtain ⟨l1, l2⟩ := coF_lt (dm := dm) c t
        cases z with
        | zero => omega
        | succ z =>
          have e2 : cuG bs dm (z + 1) k ([], [], []) = cuG bs dm z (coF bs dm k ([], [], [])).1 (coF bs dm k ([], [], [])).2 := by
            rw [cuG_s, if_pos c]
          have ca := coF_a (bs := bs) (dm := dm) k t
          rw [e2]
          have q1 : (coF bs dm k t).1 = (coF bs dm k ([], [], [])).1 := by rw [ca]
          have q2 : (coF bs dm k t).2 = tsA t (coF bs dm k ([], [], [])).2 := by rw [ca]
          rw [q1] at l1 l2
          rw [q1, q2]
          have i1 := (cuG_t (bs.length - (coF bs dm k ([], [], [])).1) (coF bs dm k ([], [], [])).1 f (tsA t (coF bs dm k ([], [], [])).2) rfl (by omega)).2
          have i2 := (cuG_t (bs.length - (coF bs dm k ([], [], [])).1) (coF bs dm k ([], [], [])).1 z (coF bs dm k ([], [], [])).2 rfl (by omega)).2
          rw [i1, i2, tsA_a]
      · rw [if_neg c]
        have z0 : z = 0 := by omega
        subst z0
        exact (tsA_n t).symm
    refine ⟨?_, key⟩
    rw [key]
    unfold tkS
    rw [hz]
  termination_by z k f => f
theorem tkS_s {k : Nat} (hk : k < bs.length) : tkS bs dm k = tsA (coF bs dm k ([], [], [])).2 (tkS bs dm (coF bs dm k ([], [], [])).1) := by
  obtain ⟨l1, l2⟩ := coF_lt (dm := dm) hk ([], [], [])
  have e : tkS bs dm k = cuG bs dm (bs.length - (k + 1)) (coF bs dm k ([], [], [])).1 (coF bs dm k ([], [], [])).2 := by
    unfold tkS
    rw [show bs.length - k = (bs.length - (k + 1)) + 1 by omega, cuG_s, if_pos hk]
  rw [e]
  exact (cuG_t (dm := dm) _ _ _ _ rfl (by omega)).1
theorem tkS_e {k : Nat} (hk : bs.length ≤ k) : tkS bs dm k = ([], [], []) := by
  unfold tkS
  rw [show bs.length - k = 0 by omega]
  rfl
theorem cuF_t (hl : bs.length ≤ 400) : cuF bs dm = tkS bs dm 0 := by
  unfold cuF
  rw [(cuG_t (dm := dm) _ 0 400 ([], [], []) rfl (by omega)).1, tsA_l]
theorem tkS_b {k : Nat} (hk : k < bs.length) (hb : isB (bs.getD k (-1)) = true) : tkS bs dm k = tkS bs dm (k + 1) := by
  have hb' : bs.getD k (-1) = 9 ∨ bs.getD k (-1) = 10 ∨ bs.getD k (-1) = 32 := of_decide_eq_true hb
  have e : coF bs dm k ([], [], []) = (k + 1, ([], [], [])) := by
    unfold coF
    dsimp only
    rw [if_pos hb']
  rw [tkS_s hk, e, tsA_l]
theorem tkS_skp : ∀ z k, bs.length - k = z → k ≤ bs.length → tkS bs dm k = tkS bs dm (skp bs k)
  | 0, k, hz, hk => by
    unfold skp
    rw [beR_end isB (by omega)]
  | z + 1, k, hz, hk => by
    cases c : isB (bs.getD k (-1)) with
    | true =>
      have e : skp bs k = skp bs (k + 1) := beR_in isB (by omega) c
      rw [e, tkS_b (by omega) c]
      exact tkS_skp z (k + 1) (by omega) (by omega)
    | false =>
      have e : skp bs k = k := beR_out isB (by omega) c
      rw [e]
/-- token ix stands next, from byte p on -/
def RT (bs : List Int32) (dm : Int32) (p ix : Nat) : Prop := p ≤ bs.length ∧ ix ≤ (cuF bs dm).1.length ∧ ((cuF bs dm).1.drop ix, (cuF bs dm).2.1.drop ix, (cuF bs dm).2.2.drop ix) = tkS bs dm p
theorem RT_0 (hl : bs.length ≤ 400) : RT bs dm 0 0 := ⟨Nat.zero_le _, Nat.zero_le _, by rw [cuF_t hl]; rfl⟩
theorem RT_skp {p ix : Nat} (R : RT bs dm p ix) : RT bs dm (skp bs p) ix := ⟨(skp_le R.1).2, R.2.1, R.2.2.trans (tkS_skp _ p rfl R.1)⟩
theorem drop_c {l : List Int32} {ix : Nat} {x : Int32} {r : List Int32} (h : l.drop ix = x :: r) : ix < l.length ∧ l.getD ix (-1) = x ∧ l.drop (ix + 1) = r := by
  have hl : ix < l.length := by
    rcases Nat.lt_or_ge ix l.length with z | z
    · exact z
    · rw [List.drop_of_length_le z] at h
      cases h
  have e := drop_at hl
  rw [h] at e
  injection e with e1 e2
  exact ⟨hl, e1.symm, e2.symm⟩
/-- no token any more -/
theorem RT_end {p ix : Nat} (R : RT bs dm p ix) (he : skp bs p = bs.length) : ix = (cuF bs dm).1.length ∧ (cuF bs dm).1.getD ix (-1) = -1 := by
  have e := (RT_skp R).2.2
  rw [he, tkS_e (Nat.le_refl _)] at e
  have e1 : (cuF bs dm).1.drop ix = [] := congrArg (fun z => z.1) e
  have := List.drop_eq_nil_iff.mp e1
  have i1 := R.2.1
  refine ⟨by omega, ?_⟩
  rw [List.getD_eq_getElem?_getD, List.getElem?_eq_none (by omega)]
  rfl
/-- a token: its kind, its first byte, its number; what comes behind -/
theorem RT_tok {p ix q' : Nat} {k s n : Int32} (R : RT bs dm p ix) (hs : skp bs p < bs.length) (hc : coF bs dm (skp bs p) ([], [], []) = (q', ([k], [s], [n]))) : ix < (cuF bs dm).1.length ∧ (cuF bs dm).1.getD ix (-1) = k ∧ (cuF bs dm).2.1.getD ix (-1) = s ∧ ix < (cuF bs dm).2.1.length ∧ (cuF bs dm).2.2.getD ix (-1) = n ∧ RT bs dm q' (ix + 1) := by
  have e := (RT_skp R).2.2
  have l := (coF_lt (dm := dm) hs ([], [], [])).2
  rw [hc] at l
  rw [tkS_s hs, hc] at e
  have e1 : (cuF bs dm).1.drop ix = k :: (tkS bs dm q').1 := congrArg (fun z => z.1) e
  have e2 : (cuF bs dm).2.1.drop ix = s :: (tkS bs dm q').2.1 := congrArg (fun z => z.2.1) e
  have e3 : (cuF bs dm).2.2.drop ix = n :: (tkS bs dm q').2.2 := congrArg (fun z => z.2.2) e
  obtain ⟨a1, a2, a3⟩ := drop_c e1
  obtain ⟨b1, b2, b3⟩ := drop_c e2
  obtain ⟨c1, c2, c3⟩ := drop_c e3
  exact ⟨a1, a2, b2, b1, c2, l, a1, by rw [a3, b3, c3]⟩
/-- a sign -/
theorem RT_sign {p ix : Nat} (R : RT bs dm p ix) (hs : skp bs p < bs.length) (hd : isD (bs.getD (skp bs p) (-1)) = false) (hl : isL (bs.getD (skp bs p) (-1)) = false) : ix < (cuF bs dm).1.length ∧ (cuF bs dm).1.getD ix (-1) = bs.getD (skp bs p) (-1) ∧ (cuF bs dm).2.1.getD ix (-1) = nI (skp bs p) ∧ ix < (cuF bs dm).2.1.length ∧ RT bs dm (skp bs p + 1) (ix + 1) := by
  have nb : ¬ (bs.getD (skp bs p) (-1) = 9 ∨ bs.getD (skp bs p) (-1) = 10 ∨ bs.getD (skp bs p) (-1) = 32) := of_decide_eq_false (skp_nb R.1 hs)
  have hc : coF bs dm (skp bs p) ([], [], []) = (skp bs p + 1, ([bs.getD (skp bs p) (-1)], [nI (skp bs p)], [0])) := by
    unfold coF
    dsimp only
    rw [if_neg nb, hd, hl, if_neg (by decide), if_neg (by decide)]
    rfl
  obtain ⟨a1, a2, a3, a4, a5, a6⟩ := RT_tok R hs hc
  exact ⟨a1, a2, a3, a4, a6⟩
/-- a word -/
theorem RT_word {p ix : Nat} (R : RT bs dm p ix) (hs : skp bs p < bs.length) (hd : isD (bs.getD (skp bs p) (-1)) = false) (hl : isL (bs.getD (skp bs p) (-1)) = true) : ix < (cuF bs dm).1.length ∧ (cuF bs dm).1.getD ix (-1) = woF bs (skp bs p) (beR isL bs (skp bs p)) ∧ (cuF bs dm).2.1.getD ix (-1) = nI (skp bs p) ∧ ix < (cuF bs dm).2.1.length ∧ RT bs dm (beR isL bs (skp bs p)) (ix + 1) := by
  have nb : ¬ (bs.getD (skp bs p) (-1) = 9 ∨ bs.getD (skp bs p) (-1) = 10 ∨ bs.getD (skp bs p) (-1) = 32) := of_decide_eq_false (skp_nb R.1 hs)
  have hc : coF bs dm (skp bs p) ([], [], []) = (beR isL bs (skp bs p), ([woF bs (skp bs p) (beR isL bs (skp bs p))], [nI (skp bs p)], [0])) := by
    unfold coF
    dsimp only
    rw [if_neg nb, hd, hl, if_neg (by decide), if_pos rfl]
    rfl
  obtain ⟨a1, a2, a3, a4, a5, a6⟩ := RT_tok R hs hc
  exact ⟨a1, a2, a3, a4, a6⟩
/-- a number -/
theorem RT_num {p ix : Nat} (R : RT bs dm p ix) (hs : skp bs p < bs.length) (hd : isD (bs.getD (skp bs p) (-1)) = true) : ix < (cuF bs dm).1.length ∧ (cuF bs dm).1.getD ix (-1) = (if dm < nI (beR isD bs (skp bs p) - skp bs p) then 268 else 267) ∧ (cuF bs dm).2.1.getD ix (-1) = nI (skp bs p) ∧ ix < (cuF bs dm).2.1.length ∧ (cuF bs dm).2.2.getD ix (-1) = (if dm < nI (beR isD bs (skp bs p) - skp bs p) then 0 else nuF bs (skp bs p) (beR isD bs (skp bs p))) ∧ RT bs dm (beR isD bs (skp bs p)) (ix + 1) := by
  have nb : ¬ (bs.getD (skp bs p) (-1) = 9 ∨ bs.getD (skp bs p) (-1) = 10 ∨ bs.getD (skp bs p) (-1) = 32) := of_decide_eq_false (skp_nb R.1 hs)
  by_cases c : dm < nI (beR isD bs (skp bs p) - skp bs p)
  · have hc : coF bs dm (skp bs p) ([], [], []) = (beR isD bs (skp bs p), ([268], [nI (skp bs p)], [0])) := by
      unfold coF
      dsimp only
      rw [if_neg nb, hd, if_pos rfl, if_pos c]
      rfl
    obtain ⟨a1, a2, a3, a4, a5, a6⟩ := RT_tok R hs hc
    rw [if_pos c, if_pos c]
    exact ⟨a1, a2, a3, a4, a5, a6⟩
  · have hc : coF bs dm (skp bs p) ([], [], []) = (beR isD bs (skp bs p), ([267], [nI (skp bs p)], [nuF bs (skp bs p) (beR isD bs (skp bs p))])) := by
      unfold coF
      dsimp only
      rw [if_neg nb, hd, if_pos rfl, if_neg c]
      rfl
    obtain ⟨a1, a2, a3, a4, a5, a6⟩ := RT_tok R hs hc
    rw [if_neg c, if_neg c]
    exact ⟨a1, a2, a3, a4, a5, a6⟩
end NC
