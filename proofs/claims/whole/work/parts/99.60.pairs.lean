/-! A call of the class and the reference's answer to it. -/
section RX
variable {h h1 h' : pmH} {bs ws bs' ws' : List Int32} {A K A' K' : AD} {ik ft ik' ft' th : Int32} {o : Nat → Int32} {mi mi' : Nat} {as : List Value}
theorem mI_uW (I : mI A) (f : (Nat → Int32) → Bool) : mI (uW A f) := I
theorem lwA_I (I : mI A) : mI (lwA A bs) := by
  unfold lwA lwB
  exact mI_uW (fre_I I _) _
theorem cr_ex (C : cr_ h 0 bs ws A K ik ft) (F : ∀ i, i < 113 ∨ 125 ≤ i → h'[i]? = h[i]?) : cr_ h' 0 bs ws A K ik ft := C.mk' (x := 113) (y := 125) F (fun _ => ⟨rfl, rfl⟩) (fun c => by omega) (fun _ => rfl) (fun c => by omega) (fun _ => rfl) (fun c => by omega) (fun c => by omega) (fun c => by omega) (fun c => by omega) (fun _ => rfl) (fun c => by omega) (fun _ => rfl) (fun c => by omega) (fun c => by omega)
theorem cr_fr (C : cr_ h 0 bs ws A K ik ft) (F : frM h h' 113) : cr_ h' 0 bs ws A K ik ft := cr_ex C (fun i hi => F i (by omega))
theorem mm_ex (M : mm_ h 113 o A K bs ws) (F : ∀ i, 113 ≤ i → i < 124 → h'[i]? = h[i]?) : mm_ h' 113 o A K bs ws := by
  refine ⟨?_, ?_, ?_, ?_, ?_, ?_, ?_, ?_, ?_, ?_, ?_⟩
  · have z := M.ob
    unfold mO at z ⊢
    exact (F _ (by omega) (by omega)).trans z
  · obtain ⟨f, a, b⟩ := M.n
    exact ⟨f, (F _ (by omega) (by omega)).trans a, b⟩
  · obtain ⟨f, a, b⟩ := M.k
    exact ⟨f, (F _ (by omega) (by omega)).trans a, b⟩
  · obtain ⟨f, a⟩ := M.as
    exact ⟨f, (F _ (by omega) (by omega)).trans a⟩
  · obtain ⟨f, a, b⟩ := M.tp
    exact ⟨f, (F _ (by omega) (by omega)).trans a, b⟩
  · obtain ⟨f, a⟩ := M.fv
    exact ⟨f, (F _ (by omega) (by omega)).trans a⟩
  · obtain ⟨f, a⟩ := M.cd
    exact ⟨f, (F _ (by omega) (by omega)).trans a⟩
  · exact M.p.keep (F _ (by omega) (by omega))
  · obtain ⟨f, a⟩ := M.td
    exact ⟨f, (F _ (by omega) (by omega)).trans a⟩
  · obtain ⟨f, a⟩ := M.rw
    exact ⟨f, (F _ (by omega) (by omega)).trans a⟩
  · obtain ⟨f, a, b⟩ := M.tx
    exact ⟨f, (F _ (by omega) (by omega)).trans a, b⟩
theorem mm_fr (M : mm_ h 113 o A K bs ws) (F : frC h h' 0) : mm_ h' 113 o A K bs ws := mm_ex M (fun i a _ => F i (by omega))
/-- the two stand alike -/
def ST (h : pmH) (bs ws : List Int32) (A K : AD) (o : Nat → Int32) : Prop := cr_ h 0 bs ws A K (o 0) (o 7) ∧ mm_ h 113 o A K bs ws ∧ mI A ∧ (o 0 = 1 → mI K) ∧ skV K ∧ byts bs ∧ (o 0 = 0 ∨ o 0 = 1)
def RZ (th : Int32) (h : pmH) : Prop := ∃ bs ws A K o, ST h bs ws A K o ∧ o 1 = th
theorem ST.C (S : ST h bs ws A K o) : cr_ h 0 bs ws A K (o 0) (o 7) := S.1
theorem ST.M (S : ST h bs ws A K o) : mm_ h 113 o A K bs ws := S.2.1
theorem ST.I (S : ST h bs ws A K o) : mI A := S.2.2.1
theorem ST.IK (S : ST h bs ws A K o) : o 0 = 1 → mI K := S.2.2.2.1
theorem ST.VK (S : ST h bs ws A K o) : skV K := S.2.2.2.2.1
theorem ST.HB (S : ST h bs ws A K o) : byts bs := S.2.2.2.2.2.1
theorem ST.hk (S : ST h bs ws A K o) : o 0 = 0 ∨ o 0 = 1 := S.2.2.2.2.2.2
theorem RZ_mk (C1 : cr_ h1 0 bs ws A K ik ft) (q : mq_ h1 113 A K bs ws ik th ft h') (I : mI A) (IK : ik = 1 → mI K) (VK : skV K) (HB : byts bs) (hk : ik = 0 ∨ ik = 1) : RZ th h' ∧ h'[124]? = h1[124]? := by
  obtain ⟨⟨o', M2, e0, e1, e7⟩, F2⟩ := q
  subst e0
  subst e7
  exact ⟨⟨bs, ws, A, K, o', ⟨cr_fr C1 F2, M2, I, IK, VK, HB, hk⟩, e1⟩, F2 124 (Or.inr (by omega))⟩
/-- both answer alike -/
def PR (h : pmH) (mi mi' : Nat) (as : List Value) : Prop := PM 460 mi (.ref 0 :: as) h (fun v h1 => ∃ y, v = some (.int y) ∧ h1[124]? = h[124]? ∧ (∃ fs, h1[113]? = some (.inr (12, fs))) ∧ PM 460 mi' (.ref 113 :: as) h1 (fun w h2 => w = some (.int y) ∧ RZ 0 h2 ∧ h2[124]? = h1[124]?))
theorem pr_mk (S : ST h bs ws A K o) {y : Int32} (c : PM 460 mi (.ref 0 :: as) h (fun v h1 => v = some (.int y) ∧ cr_ h1 0 bs' ws' A' K' ik' ft' ∧ frC h h1 0)) (q : ∀ h1, mm_ h1 113 o A K bs ws → PM 460 mi' (.ref 113 :: as) h1 (rq_ h1 113 A' K' bs' ws' ik' ft' true y)) (I : mI A') (IK : ik' = 1 → mI K') (VK : skV K') (HB : byts bs') (hk : ik' = 0 ∨ ik' = 1) : PR h mi mi' as := by
  refine PM_use c ?_
  rintro v h1 l1 ⟨rfl, C1, F1⟩
  have M1 := mm_fr S.M F1
  refine ⟨y, rfl, F1 124 (Or.inr (by omega)), ⟨_, M1.ob⟩, ?_⟩
  refine PM_use (q h1 M1) ?_
  rintro w h2 l2 ⟨rfl, Q⟩
  exact ⟨rfl, RZ_mk C1 Q I IK VK HB hk⟩
theorem pm_same (C : cr_ h 0 bs ws A K ik ft) {x : Option Value} (q : PM 460 mi as h (fun v h' => v = x ∧ h' = h)) : PM 460 mi as h (fun v h1 => v = x ∧ cr_ h1 0 bs ws A K ik ft ∧ frC h h1 0) := by
  refine PM_use q ?_
  rintro v h1 _ ⟨rfl, rfl⟩
  exact ⟨rfl, C, frC.rf⟩
theorem byts_app {a b : List Int32} (ha : byts a) (hb : byts b) : byts (a ++ b) := fun x hx => by
  rcases List.mem_append.mp hx with z | z
  · exact ha x z
  · exact hb x z
theorem byts_S (x : Int32) : byts (byS x) := fun y hy => by
  unfold byS at hy
  simp only [List.mem_cons, List.not_mem_nil, or_false] at hy
  rcases hy with rfl | rfl | rfl | rfl <;> exact usB_b _ _
theorem byts_5 (x1 x2 x3 x4 x5 : Int32) : byts (by5 x1 x2 x3 x4 x5) := byts_app (byts_S _) (byts_app (byts_S _) (byts_app (byts_S _) (byts_app (byts_S _) (byts_S _))))
theorem byts_t {a : List Int32} (ha : byts a) (n : Nat) : byts (a.take n) := fun x hx => ha x (List.mem_of_mem_take hx)
theorem byts_n : byts [] := fun x hx => by cases hx
theorem pr_feed (S : ST h bs ws A K o) (hl : h.length = 125) (x1 x2 x3 x4 x5 : Int32) : PR h 122 151 [.int x1, .int x2, .int x3, .int x4, .int x5] := by
  have c := c_F_feed S.C x1 x2 x3 x4 x5 457
  have q : ∀ h1, mm_ h1 113 o A K bs ws → _ := fun h1 M => c_P_feed M x1 x2 x3 x4 x5 459
  by_cases z : 400 < bs.length + 20
  · simp only [if_pos z] at c q
    exact pr_mk S c q S.I S.IK S.VK S.HB S.hk
  · simp only [if_neg z] at c q
    exact pr_mk S c q S.I S.IK S.VK (byts_app S.HB (byts_5 _ _ _ _ _)) S.hk
theorem pr_end (S : ST h bs ws A K o) (hl : h.length = 125) (n : Int32) : PR h 124 152 [.int n] := by
  have c := c_F_end S.C n 458
  have q : ∀ h1, mm_ h1 113 o A K bs ws → _ := fun h1 M => c_P_end M n 459
  by_cases z : n < 0 ∨ nI bs.length < n
  · simp only [if_pos z] at c q
    exact pr_mk S c q S.I S.IK S.VK S.HB S.hk
  · simp only [if_neg z] at c q
    exact pr_mk S c q S.I S.IK S.VK (byts_t S.HB _) S.hk
theorem pr_free (S : ST h bs ws A K o) (hl : h.length = 125): PR h 125 174 [] := pr_mk S (c_F_free S.C 457) (fun h1 M => c_P_free M 459) (fre_I S.I _) S.IK S.VK S.HB S.hk
theorem pr_fault (S : ST h bs ws A K o) (hl : h.length = 125) : PR h 126 165 [] := pr_mk S (pm_same S.C (c_F_fault S.C 459)) (fun h1 M => c_P_fault M 459) S.I S.IK S.VK S.HB S.hk
theorem pr_out (S : ST h bs ws A K o) (hl : h.length = 125) (k : Int32) : PR h 127 215 [.int k] := pr_mk S (pm_same S.C (c_F_out S.C k 458)) (fun h1 M => c_P_out M k 458) S.I S.IK S.VK S.HB S.hk
theorem pr_history (S : ST h bs ws A K o) (hl : h.length = 125) (k : Int32) : PR h 133 241 [.int k] := pr_mk S (pm_same S.C (c_F_history S.C k 458)) (fun h1 M => c_P_history M k 458) S.I S.IK S.VK S.HB S.hk
theorem pr_octet (S : ST h bs ws A K o) (hl : h.length = 125) (k : Int32) : PR h 137 253 [.int k] := pr_mk S (pm_same S.C (c_F_octet S.C k 458)) (fun h1 M => c_P_octet M k 458) S.I S.IK S.VK S.HB S.hk
theorem pr_halve (S : ST h bs ws A K o) (hl : h.length = 125) : PR h 128 221 [] := pr_mk S (c_F_halve S.C 457) (fun h1 M => c_P_halve M 458) (halF_I S.I) S.IK S.VK S.HB S.hk
theorem pr_doorman (S : ST h bs ws A K o) (hl : h.length = 125) {b : Int32} (hb : b = 0 ∨ b = 1) : PR h 129 227 [.int b] := by
  have c := c_F_doorman S.C hb 458
  have q : ∀ h1, mm_ h1 113 o A K bs ws → _ := fun h1 M => c_P_doorman M S.I.sk hb 459
  by_cases z : sc A 14 = b
  · simp only [if_pos z] at c q
    exact pr_mk S c q S.I S.IK S.VK S.HB S.hk
  · simp only [if_neg z] at c q
    exact pr_mk S c q (doF_I S.I hb) S.IK S.VK S.HB S.hk
theorem pr_best (S : ST h bs ws A K o) (hl : h.length = 125) {b : Int32} (hb : b = 0 ∨ b = 1) : PR h 131 232 [.int b] := pr_mk S (c_F_best (by omega) S.C S.I.sk b 452) (fun h1 M => c_P_best M S.I hb 449) S.I S.IK S.VK S.HB S.hk
theorem pr_enough (S : ST h bs ws A K o) (hl : h.length = 125) (n : Int32) : PR h 132 237 [.int n] := pr_mk S (c_F_enough S.C n 457) (fun h1 M => c_P_enough M S.I.l5 n 457) S.I S.IK S.VK S.HB S.hk
theorem pr_hot (S : ST h bs ws A K o) (hl : h.length = 125) (k : Int32) : PR h 134 247 [.int k] := pr_mk S (c_F_hot (by omega) S.C S.I.sk (by have := S.I.tt; unfold tot at this; omega) k 454) (fun h1 M => c_P_hot M S.I.sk.1 S.I.c k 455) S.I S.IK S.VK S.HB S.hk
theorem pr_heat (S : ST h bs ws A K o) (hl : h.length = 125) (n : Int32) : PR h 135 248 [.int n] := pr_mk S (pm_same S.C (c_F_heat (by omega) S.C S.I.sk n 455)) (fun h1 M => c_P_heat M S.I.sk.1 n 455) S.I S.IK S.VK S.HB S.hk
theorem pr_write (S : ST h bs ws A K o) (hl : h.length = 125) : PR h 136 252 [] := by
  have c := c_F_write S.C 456
  rw [wtF_600 (li A 5) S.I.l5] at c
  exact pr_mk S c (fun h1 M => c_P_write M S.I.l5 (fun x hx => S.I.kh hx) 453) S.I S.IK S.VK S.HB S.hk
theorem pr_keep (S : ST h bs ws A K o) (hl : h.length = 125) : PR h 138 254 [] := pr_mk S (c_F_keep S.C S.I.sk 454) (fun h1 M => c_P_keep M 458) S.I (fun _ => S.I) S.I.sk S.HB (Or.inr rfl)
theorem pr_count (S : ST h bs ws A K o) (hl : h.length = 125) (n : Int32) : PR h 139 257 [.int n] := pr_mk S (pm_same S.C (c_F_count S.C n 457)) (fun h1 M => c_P_count M S.I.sk n 456) S.I S.IK S.VK S.HB S.hk
/-- what a call that may throw leaves, and what the reference then answers -/
def QT (h : pmH) (mi' : Nat) (as : List Value) (E : Nat → Prop) (kx : Nat → Int32) : pmQ := fun v h1 => h1[124]? = h[124]? ∧ (∃ fs, h1[113]? = some (.inr (12, fs))) ∧ ((∃ y, v = some (.int y) ∧ ∀ h2 : pmH, (∀ i, i ≠ 124 → h2[i]? = h1[i]?) → PM 460 mi' (.ref 113 :: as) h2 (fun w h3 => w = some (.int y) ∧ RZ 0 h3 ∧ h3[124]? = h2[124]?)) ∨ ∃ e, v = some (.retAddr e) ∧ E e ∧ PM 460 mi' (.ref 113 :: as) h1 (fun w h3 => (∃ z, w = some (.int z)) ∧ RZ (kx e) h3 ∧ h3[124]? = h1[124]?))
theorem qt_ok (S : ST h bs ws A K o) {E : Nat → Prop} {kx : Nat → Int32} {y : Int32} (C1 : cr_ h1 0 bs' ws' A' K' ik' ft') (F1 : frC h h1 0) (q : ∀ h2, mm_ h2 113 o A K bs ws → PM 460 mi' (.ref 113 :: as) h2 (fun w h3 => w = some (.int y) ∧ mq_ h2 113 A' K' bs' ws' ik' 0 ft' h3 ∧ mI A')) (IK : ik' = 1 → mI K') (VK : skV K') (HB : byts bs') (hk : ik' = 0 ∨ ik' = 1) : QT h mi' as E kx (some (.int y)) h1 := by
  have M1 := mm_fr S.M F1
  refine ⟨F1 124 (Or.inr (by omega)), ⟨_, M1.ob⟩, Or.inl ⟨y, rfl, fun h2 f2 => ?_⟩⟩
  refine PM_use (q h2 (mm_ex M1 fun i _ b => f2 i (by omega))) ?_
  rintro w h3 _ ⟨rfl, Q, I⟩
  exact ⟨rfl, RZ_mk (cr_ex C1 fun i hi => f2 i (by omega)) Q I IK VK HB hk⟩
theorem qt_no (S : ST h bs ws A K o) {E : Nat → Prop} {kx : Nat → Int32} {z : Int32} {e : Nat} (he : E e) (C1 : cr_ h1 0 bs' ws' A' K' ik' ft') (F1 : frC h h1 0) (q : ∀ h2, mm_ h2 113 o A K bs ws → PM 460 mi' (.ref 113 :: as) h2 (fun w h3 => w = some (.int z) ∧ mq_ h2 113 A' K' bs' ws' ik' (kx e) ft' h3)) (I : mI A') (IK : ik' = 1 → mI K') (VK : skV K') (HB : byts bs') (hk : ik' = 0 ∨ ik' = 1) : QT h mi' as E kx (some (.retAddr e)) h1 := by
  have M1 := mm_fr S.M F1
  refine ⟨F1 124 (Or.inr (by omega)), ⟨_, M1.ob⟩, Or.inr ⟨e, rfl, he, ?_⟩⟩
  refine PM_use (q h1 M1) ?_
  rintro w h3 _ ⟨rfl, Q⟩
  exact ⟨⟨z, rfl⟩, RZ_mk C1 Q I IK VK HB hk⟩
theorem qt_re (S : ST h bs ws A K o) {e : Nat} {ok : Bool} {y : Int32} (q : ∀ h2, mm_ h2 113 o A K bs ws → PM 460 mi' (.ref 113 :: as) h2 (rq_ h2 113 A K bs ws (o 0) (o 7) ok y)) : ∀ v h1, reQ 0 bs ws A K (o 0) (o 7) h ok e y v h1 → QT h mi' as (fun x => x = e) (fun _ => 1) v h1 := by
  rintro v h1 ⟨rfl, C1, F1⟩
  cases ok with
  | true => exact qt_ok S C1 F1 (fun h2 M2 => PM_use (q h2 M2) fun w h3 _ z => ⟨z.1, z.2, S.I⟩) S.IK S.VK S.HB S.hk
  | false => exact qt_no S rfl C1 F1 (fun h2 M2 => PM_use (q h2 M2) fun w h3 _ z => ⟨z.1, z.2⟩) S.I S.IK S.VK S.HB S.hk
def QW (h : pmH) (mi' : Nat) (as : List Value) (E : Nat → Prop) (kx : Nat → Int32) (W : pmQ → Prop) : Prop := ∃ Q : pmQ, W Q ∧ ∀ v h1, Q v h1 → QT h mi' as E kx v h1

theorem tr_where (S : ST h bs ws A K o) (hl : h.length = 125) (x1 : Int32) : QW h 211 [.int x1] (fun x => x = 0) (fun _ => 1) (fun Q => W_X11_where 458 (h.length + 0) 0 Q 0 [some (.ref 0), some (.int x1)] [] h 0) := ⟨_, c_F_where S.C x1 456, qt_re S fun h2 M => c_P_where M x1 455⟩
theorem tr_part (S : ST h bs ws A K o) (hl : h.length = 125) (x1 x2 : Int32) : QW h 212 [.int x1, .int x2] (fun x => x = 1) (fun _ => 1) (fun Q => W_X11_part 458 (h.length + 0) 0 Q 0 [some (.ref 0), some (.int x1), some (.int x2)] [] h 0) := ⟨_, c_F_part S.C x1 x2 454, qt_re S fun h2 M => c_P_part M x1 x2 457⟩
theorem tr_at (S : ST h bs ws A K o) (hl : h.length = 125) (x1 x2 : Int32) : QW h 213 [.int x1, .int x2] (fun x => x = 1) (fun _ => 1) (fun Q => W_X11_at 458 (h.length + 0) 0 Q 0 [some (.ref 0), some (.int x1), some (.int x2)] [] h 0) := ⟨_, c_F_at S.C x1 x2 456, qt_re S fun h2 M => c_P_at M x1 x2 457⟩
theorem tr_latest (S : ST h bs ws A K o) (hl : h.length = 125) (x1 : Int32) : QW h 214 [.int x1] (fun x => x = 1) (fun _ => 1) (fun Q => W_X11_latest 458 (h.length + 0) 0 Q 0 [some (.ref 0), some (.int x1)] [] h 0) := ⟨_, c_F_latest S.C x1 458, qt_re S fun h2 M => c_P_latest M x1 458⟩
theorem tr_estimate (S : ST h bs ws A K o) (hl : h.length = 125) (x1 : Int32) : QW h 216 [.int x1] (fun x => x = 0) (fun _ => 1) (fun Q => W_X11_estimate 458 (h.length + 0) 0 Q 0 [some (.ref 0), some (.int x1)] [] h 0) := ⟨_, c_F_estimate (by omega) S.C S.I.sk x1 455, qt_re S fun h2 M => c_P_estimate M S.I.sk.1 x1 455⟩
theorem tr_place (S : ST h bs ws A K o) (hl : h.length = 125) (x1 x2 : Int32) : QW h 217 [.int x1, .int x2] (fun x => x = 0) (fun _ => 1) (fun Q => W_X11_place 458 (h.length + 0) 0 Q 0 [some (.ref 0), some (.int x1), some (.int x2)] [] h 0) := ⟨_, c_F_place (by omega) S.C S.I.sk x1 x2 456, qt_re S fun h2 M => c_P_place M S.I.sk.1 x1 x2 457⟩
theorem tr_counter (S : ST h bs ws A K o) (hl : h.length = 125) (x1 x2 : Int32) : QW h 218 [.int x1, .int x2] (fun x => x = 0) (fun _ => 1) (fun Q => W_X11_counter 458 (h.length + 0) 0 Q 0 [some (.ref 0), some (.int x1), some (.int x2)] [] h 0) := ⟨_, c_F_counter S.C S.I.sk x1 x2 457, qt_re S fun h2 M => c_P_counter M S.I.sk.1 x1 x2 458⟩
theorem tr_meets (S : ST h bs ws A K o) (hl : h.length = 125) (x1 x2 : Int32) : QW h 219 [.int x1, .int x2] (fun x => x = 0) (fun _ => 1) (fun Q => W_X11_meets 458 (h.length + 0) 0 Q 0 [some (.ref 0), some (.int x1), some (.int x2)] [] h 0) := ⟨_, c_F_meets (by omega) S.C S.I.sk x1 x2 455, qt_re S fun h2 M => c_P_meets M S.I.sk.1 x1 x2 457⟩
theorem tr_noted (S : ST h bs ws A K o) (hl : h.length = 125) (x1 : Int32) : QW h 220 [.int x1] (fun x => x = 0) (fun _ => 1) (fun Q => W_X11_noted 458 (h.length + 0) 0 Q 0 [some (.ref 0), some (.int x1)] [] h 0) := ⟨_, c_F_noted (by omega) S.C S.I.sk x1 456, qt_re S fun h2 M => c_P_noted M x1 456⟩
theorem tr_wins (S : ST h bs ws A K o) (hl : h.length = 125) (x1 x2 : Int32) : QW h 222 [.int x1, .int x2] (fun x => x = 0) (fun _ => 1) (fun Q => W_X11_wins 458 (h.length + 0) 0 Q 0 [some (.ref 0), some (.int x1), some (.int x2)] [] h 0) := ⟨_, c_F_wins (by omega) S.C S.I.sk x1 x2 454, qt_re S fun h2 M => c_P_wins M S.I.sk.1 x1 x2 453⟩
theorem tr_again (S : ST h bs ws A K o) (hl : h.length = 125) (x1 : Int32) : QW h 231 [.int x1] (fun x => x = 0) (fun _ => 1) (fun Q => W_X11_again 458 (h.length + 0) 0 Q 0 [some (.ref 0), some (.int x1)] [] h 0) := ⟨_, c_F_again (by omega) S.C S.I.sk x1 451, qt_re S fun h2 M => c_P_again M S.I x1 449⟩
theorem tr_plain (S : ST h bs ws A K o) (hl : h.length = 125) (x1 : Int32) : QW h 234 [.int x1] (fun x => x = 0) (fun _ => 1) (fun Q => W_X11_plain 458 (h.length + 0) 0 Q 0 [some (.ref 0), some (.int x1)] [] h 0) := ⟨_, c_F_plain S.C x1 456, qt_re S fun h2 M => c_P_plain M S.I.l5 x1 457⟩
theorem tr_ideal (S : ST h bs ws A K o) (hl : h.length = 125) (x1 : Int32) : QW h 236 [.int x1] (fun x => x = 0) (fun _ => 1) (fun Q => W_X11_ideal 458 (h.length + 0) 0 Q 0 [some (.ref 0), some (.int x1)] [] h 0) := ⟨_, c_F_ideal S.C x1 455, qt_re S fun h2 M => c_P_ideal M S.I.l5 x1 457⟩
theorem tr_needed (S : ST h bs ws A K o) (hl : h.length = 125) (x1 x2 : Int32) : QW h 239 [.int x1, .int x2] (fun x => x = 0) (fun _ => 1) (fun Q => W_X11_needed 458 (h.length + 0) 0 Q 0 [some (.ref 0), some (.int x1), some (.int x2), none] [] h 0) := ⟨_, c_F_needed (by omega) S.C S.I.sk x1 x2 453, qt_re S fun h2 M => c_P_needed M S.I x1 x2 453⟩
theorem tr_twin (S : ST h bs ws A K o) (hl : h.length = 125) (x1 : Int32) : QW h 240 [.int x1] (fun x => x = 0) (fun _ => 1) (fun Q => W_X11_twin 458 (h.length + 0) 0 Q 0 [some (.ref 0), some (.int x1), none, none, none, none] [] h 0) := ⟨_, c_F_twin (by omega) S.C S.I.sk x1 455, qt_re S fun h2 M => c_P_twin M S.I.sk.1 x1 457⟩
theorem tr_past (S : ST h bs ws A K o) (hl : h.length = 125) (x1 : Int32) : QW h 246 [.int x1] (fun x => x = 1) (fun _ => 1) (fun Q => W_X11_past 458 (h.length + 0) 0 Q 0 [some (.ref 0), some (.int x1)] [] h 0) := ⟨_, c_F_past S.C x1 455, qt_re S fun h2 M => c_P_past M (fun x hx => S.I.kh hx) x1 456⟩
theorem tr_asked (S : ST h bs ws A K o) (hl : h.length = 125) (x1 : Int32) : QW h 238 [.int x1] (fun x => x = 0) (fun _ => 1) (fun Q => W_X11_asked 458 (h.length + 0) 0 Q 0 [some (.ref 0), some (.int x1)] [] h 0) := ⟨_, c_F_asked S.C x1 456, qt_re S fun h2 M => c_P_asked M x1 456⟩
theorem tr_ask (S : ST h bs ws A K o) (hl : h.length = 125) (x1 : Int32) : QW h 210 [.int x1] (fun x => x = 0) (fun _ => 1) (fun Q => W_X11_ask 458 (h.length + 0) 0 Q 0 [some (.ref 0), some (.int x1)] [] h 0) := by
  refine ⟨_, c_F_ask (by omega) S.C S.I.sk x1 452, ?_⟩
  have q : ∀ h1, mm_ h1 113 o A K bs ws → _ := fun h1 M => c_P_ask M S.I x1 450
  intro v h1 z
  by_cases c : kyB x1 = true
  · simp only [if_pos c] at z q
    obtain ⟨rfl, C1, F1⟩ := z
    exact qt_ok S C1 F1 (fun h2 M2 => PM_use (q h2 M2) fun w h3 _ z => ⟨by rw [srA_pn]; exact z.1, z.2, srvF_ok S.I (kyB_of c)⟩) S.IK S.VK S.HB S.hk
  · simp only [if_neg c] at z q
    obtain ⟨rfl, C1, F1⟩ := z
    exact qt_no S rfl C1 F1 (fun h2 M2 => PM_use (q h2 M2) fun w h3 _ z => ⟨z.1, z.2⟩) S.I S.IK S.VK S.HB S.hk
theorem tr_tell (S : ST h bs ws A K o) (hl : h.length = 125) (x1 x2 : Int32) : QW h 226 [.int x1, .int x2] (fun x => x = 0 ∨ x = 1) (fun e => if e = 1 then 1 else 2) (fun Q => W_X11_tell 458 (h.length + 0) 0 Q 0 [some (.ref 0), some (.int x1), some (.int x2), none] [] h 0) := by
  refine ⟨_, c_F_tell (by omega) S.C S.I.sk x1 x2 452, ?_⟩
  have q : ∀ h1, mm_ h1 113 o A K bs ws → _ := fun h1 M => c_P_tell M S.I x1 x2 454
  intro v h1 z
  by_cases c : whB x1 = true
  · by_cases c2 : stB x1 x2 = true
    · simp only [if_pos c, if_pos c2] at z q
      obtain ⟨rfl, C1, F1⟩ := z
      exact qt_ok S C1 F1 (fun h2 M2 => PM_use (q h2 M2) fun w h3 _ z => ⟨z.1, z.2, setF_I S.I c c2⟩) S.IK S.VK S.HB S.hk
    · simp only [if_pos c, if_neg c2] at z q
      obtain ⟨rfl, C1, F1⟩ := z
      exact qt_no S (Or.inl rfl) C1 F1 (fun h2 M2 => PM_use (q h2 M2) fun w h3 _ z => ⟨z.1, z.2⟩) S.I S.IK S.VK S.HB S.hk
  · simp only [if_neg c] at z q
    obtain ⟨rfl, C1, F1⟩ := z
    exact qt_no S (Or.inr rfl) C1 F1 (fun h2 M2 => PM_use (q h2 M2) fun w h3 _ z => ⟨z.1, z.2⟩) S.I S.IK S.VK S.HB S.hk
theorem tr_back (S : ST h bs ws A K o) (hl : h.length = 125) : QW h 255 [] (fun x => x = 2) (fun _ => 1) (fun Q => W_X11_back 458 (h.length + 0) 0 Q 0 [some (.ref 0)] [] h 0) := by
  refine ⟨_, c_F_back S.C S.VK 453, ?_⟩
  have q : ∀ h1, mm_ h1 113 o A K bs ws → _ := fun h1 M => c_P_back M S.hk 458
  intro v h1 z
  by_cases c : o 0 = 0
  · simp only [if_pos c] at z q
    obtain ⟨rfl, C1, F1⟩ := z
    exact qt_no S rfl C1 F1 (fun h2 M2 => PM_use (q h2 M2) fun w h3 _ z => ⟨z.1, z.2⟩) S.I S.IK S.VK S.HB S.hk
  · simp only [if_neg c] at z q
    obtain ⟨rfl, C1, F1⟩ := z
    exact qt_ok S C1 F1 (fun h2 M2 => PM_use (q h2 M2) fun w h3 _ z => ⟨z.1, z.2, S.IK (S.hk.resolve_left c)⟩) S.IK S.VK S.HB S.hk
theorem tr_law (S : ST h bs ws A K o) (hl : h.length = 125) : QW h 173 [] (fun x => x = 0) (fun _ => 1) (fun Q => W_X11_law 458 (h.length + 0) 0 Q 0 [some (.ref 0)] [] h 0) := by
  refine ⟨_, c_F_law S.C 427, ?_⟩
  have q : ∀ h1, mm_ h1 113 o A K bs ws → _ := fun h1 M => c_P_law M S.HB 20
  intro v h1 z
  by_cases c : lwV bs = -1
  · simp only [if_pos c] at z q
    obtain ⟨rfl, C1, F1⟩ := z
    exact qt_ok S C1 F1 (fun h2 M2 => PM_use (q h2 M2) fun w h3 _ z => ⟨z.1, z.2, lwA_I S.I⟩) S.IK S.VK byts_n S.hk
  · simp only [if_neg c] at z q
    obtain ⟨rfl, C1, F1⟩ := z
    exact qt_no S rfl C1 F1 (fun h2 M2 => PM_use (q h2 M2) fun w h3 _ z => ⟨z.1, z.2⟩) S.I S.IK S.VK byts_n S.hk
theorem tr_trace (S : ST h bs ws A K o) (hl : h.length = 125) : QW h 208 [] (fun x => x = 0) (fun _ => 1) (fun Q => W_X11_trace 458 (h.length + 0) 0 Q 0 [some (.ref 0), none, none] [] h 0) := by
  refine ⟨_, c_F_trace (by omega) S.C S.I.sk S.HB 439, ?_⟩
  have q : ∀ h1, mm_ h1 113 o A K bs ws → _ := fun h1 M => c_P_trace M S.I S.HB (cuF_NV S.C.tp.le.1 S.HB) 438
  intro v h1 z
  by_cases c : trV bs = -1
  · simp only [if_pos c] at z q
    obtain ⟨rfl, C1, F1⟩ := z
    refine qt_ok S C1 F1 (fun h2 M2 => PM_use (q h2 M2) fun w h3 _ z => ⟨?_, z.1.2, mI_fs _ S.I z.2⟩) S.IK S.VK byts_n S.hk
    rw [z.1.1, fs_3 _ S.I z.2]
    congr 2
    generalize nI (hitS (trS bs).2 A) = a
    generalize sc A 3 = b
    rw [Int32.add_comm, Int32.add_sub_cancel]
  · simp only [if_neg c] at z q
    obtain ⟨rfl, C1, F1⟩ := z
    exact qt_no S rfl C1 F1 (fun h2 M2 => PM_use (q h2 M2) fun w h3 _ z => ⟨z.1, z.2⟩) S.I S.IK S.VK byts_n S.hk
end RX
