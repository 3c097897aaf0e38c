/-! AdmissionDeskModel: a law's text, at every depth. -/
section ML
variable {h0 : pmH} {m : Nat} {o : Nat → Int32} {bs : List Int32} {dp : Nat} {ks : List Int32}
theorem c_Y_atF (T : tap_ h0 m bs) (hdp : dp ≤ 8) {top : Bool} (ht : top = decide (8 ≤ dp)) {E : LZ → LZ} {D : Nat} (HE : dp < 8 → ∀ (f : Nat) (h : pmH) (s : LZ) (p b n : Nat) (fa : Int32) (cs : List Int32), pr_ h0 h m o bs p b (dp + 1) n fa cs ks → sm_ bs 4 s.1 p fa → fa = -1 → n = s.2.1 → n ≤ 60 → cs.length ≤ p → 400 ≤ f + s.1.1 → PM (D + 12 + f) 167 [.ref m] h (fun x h' => x = none ∧ ∃ p' b' n' fa' cs', pr_ h0 h' m o bs p' b' (dp + 1) n' fa' cs' ks ∧ Rl bs s (E s) cs p p' n' fa' cs')) (f : Nat) (h : pmH) (s : LZ) (p b n : Nat) (fa : Int32) (cs : List Int32) (P : pr_ h0 h m o bs p b dp n fa cs ks) (S : sm_ bs 4 s.1 p fa) (hf : fa = -1) (hn : n = s.2.1) (hn2 : n ≤ 60) (hc : cs.length ≤ p) (hix : 400 ≤ f + s.1.1) : PM (D + 12 + f + 1) 169 [.ref m] h (fun x h' => x = none ∧ ∃ p' b' n' fa' cs', pr_ h0 h' m o bs p' b' dp n' fa' cs' ks ∧ Rl bs s (atF (cuF bs 4).1 (cuF bs 4).2.2 top E s) cs p p' n' fa' cs') := by
  have KL := cuF_kl1 (dm := 4) T.1
  refine PM_use (c_Y_atom T hdp ht HE f h s p b n fa cs P S hf hn hn2 hc hix) ?_
  rintro v h' - ⟨rfl, p', b', n', fa', cs', P', R⟩
  refine ⟨rfl, _, _, _, _, _, P', ?_⟩
  have F := R.fin
  rw [ntF_f f 400 false s (by omega) (by omega)] at F
  unfold atF
  exact F
/-- from a comparison to the whole -/
theorem c_Y_up (T : tap_ h0 m bs) {A : LZ → LZ} {D : Nat} (HA : ∀ (f : Nat) (h : pmH) (s : LZ) (p b n : Nat) (fa : Int32) (cs : List Int32), pr_ h0 h m o bs p b dp n fa cs ks → sm_ bs 4 s.1 p fa → fa = -1 → n = s.2.1 → n ≤ 60 → cs.length ≤ p → 400 ≤ f + s.1.1 → PM (D + 12 + f + 1) 169 [.ref m] h (fun x h' => x = none ∧ ∃ p' b' n' fa' cs', pr_ h0 h' m o bs p' b' dp n' fa' cs' ks ∧ Rl bs s (A s) cs p p' n' fa' cs')) (f : Nat) (h : pmH) (s : LZ) (p b n : Nat) (fa : Int32) (cs : List Int32) (P : pr_ h0 h m o bs p b dp n fa cs ks) (S : sm_ bs 4 s.1 p fa) (hf : fa = -1) (hn : n = s.2.1) (hn2 : n ≤ 60) (hc : cs.length ≤ p) (hix : 400 ≤ f + s.1.1) : PM (D + 3 + 12 + f) 167 [.ref m] h (fun x h' => x = none ∧ ∃ p' b' n' fa' cs', pr_ h0 h' m o bs p' b' dp n' fa' cs' ks ∧ Rl bs s (alF (cuF bs 4).1 265 15 (alF (cuF bs 4).1 264 14 A) s) cs p p' n' fa' cs') := by
  have e1 : D + 3 + 12 + f = (D + 10 + f) + 5 := by omega
  rw [e1]
  refine c_Y_some T (f := f) (fun h s p b n fa cs P S hf hn hn2 hc hix => ?_) P S hf hn hn2 hc hix
  have e2 : (D + 10 + f) + 4 = (D + 9 + f) + 5 := by omega
  rw [e2]
  refine c_Y_every T (f := f) (fun h s p b n fa cs P S hf hn hn2 hc hix => ?_) P S hf hn hn2 hc hix
  have e3 : (D + 9 + f) + 4 = D + 12 + f + 1 := by omega
  rw [e3]
  exact HA f h s p b n fa cs P S hf hn hn2 hc hix
theorem c_Y_LE (T : tap_ h0 m bs) (d : Nat) : ∀ e, e ≤ 8 → ∀ (f : Nat) (h : pmH) (s : LZ) (p b n : Nat) (fa : Int32) (cs : List Int32), pr_ h0 h m o bs p b (8 - e) n fa cs ks → sm_ bs 4 s.1 p fa → fa = -1 → n = s.2.1 → n ≤ 60 → cs.length ≤ p → 400 ≤ f + s.1.1 → PM (d + 3 * e + 3 + 12 + f) 167 [.ref m] h (fun x h' => x = none ∧ ∃ p' b' n' fa' cs', pr_ h0 h' m o bs p' b' (8 - e) n' fa' cs' ks ∧ Rl bs s (LE (cuF bs 4).1 (cuF bs 4).2.2 e s) cs p p' n' fa' cs')
  | 0, _ => c_Y_up T (D := d) (c_Y_atF T (dp := 8) (by omega) (top := true) (by decide) (E := id) (D := d) (fun z => absurd z (by omega)))
  | e + 1, he => by
    have I := c_Y_LE T d e (by omega)
    have e8 : 8 - e = 8 - (e + 1) + 1 := by omega
    rw [e8] at I
    have K := c_Y_up T (D := d + 3 * e + 3) (c_Y_atF T (dp := 8 - (e + 1)) (by omega) (top := false) (by rw [eq_comm, decide_eq_false_iff_not]; omega) (E := LE (cuF bs 4).1 (cuF bs 4).2.2 e) (D := d + 3 * e + 3) (fun _ => I))
    have ed : d + 3 * (e + 1) + 3 = d + 3 * e + 3 + 3 := by omega
    rw [ed]
    exact K
end ML
