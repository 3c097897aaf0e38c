/-! The law's loop. -/
def le_3 : List (Option pmI) := List.replicate 23 none ++ [some (.iload 4, 2, 0, []), none, some (.aload_n 0, 1, 0, []), some (.arraylength, 1, 0, []), some (.bipush 6, 2, 6, []), none, some (.isub, 1, 0, []), some (.if_icmp .gt 1910, 3, 0, [1940]), none, none, some (.aload_n 0, 1, 0, []), some (.iload 4, 2, 0, []), none, some (.iaload, 1, 0, []), some (.bipush 63, 2, 63, []), none, some (.iand, 1, 0, []), some (.tableswitch 1894 0 37 #[168, 241, 266, 310, 323, 367, 380, 436, 492, 560, 628, 684, 709, 765, 833, 901, 969, 1032, 1045, 1120, 1188, 1229, 1285, 1326, 1382, 1438, 1463, 1531, 1587, 1612, 1668, 1724, 1749, 1774, 1787, 1812, 1825, 1869], 168, 0, [0, 1934, 208, 281, 306, 350, 363, 407, 420, 476, 532, 600, 668, 724, 749, 805, 873, 941, 1009, 1072, 1085, 1160, 1228, 1269, 1325, 1366, 1422, 1478, 1503, 1571, 1627, 1652, 1708, 1764, 1789, 1814, 1827, 1852, 1865, 1909])]
def KL3 (X : pmRO) (d Sx : Nat) (T : pmK) : pmK := pl_W X (pm_Met pm_MT d) 125 Sx le_3 T
set_option maxRecDepth 20000 in
theorem lk_3 : pm_cL false pm_MT "AdmissionDeskLaw" "law" code 0 le_3 = true := by decide +kernel
section
variable {X : pmRO} {d Sx us : Nat} {T : pmK} {lv : pmL} {st : List Value} {h : pmH}
theorem gh_23 : KL3 X d Sx T 23 lv st h us ↔ pm_ldi lv 4 fun x => KL3 X d Sx T 25 lv (.int x :: st) h us := pl_eq (L := le_3) (i := .iload 4) (len := 2) (cv := 0) (r := []) rfl
theorem gh_25 : KL3 X d Sx T 25 lv st h us ↔ pm_lda lv 0 fun x => KL3 X d Sx T 26 lv (.ref x :: st) h us := pl_eq (L := le_3) (i := .aload_n 0) (len := 1) (cv := 0) (r := []) rfl
theorem gh_26 : KL3 X d Sx T 26 lv st h us ↔ pm_1a st fun a r => pm_aln X h a fun n => KL3 X d Sx T 27 lv (.int (nI n) :: r) h us := pl_eq (L := le_3) (i := .arraylength) (len := 1) (cv := 0) (r := []) rfl
theorem gh_27 : KL3 X d Sx T 27 lv st h us ↔ KL3 X d Sx T 29 lv (.int 6 :: st) h us := pl_eq (L := le_3) (i := .bipush 6) (len := 2) (cv := 6) (r := []) rfl
theorem gh_29 : KL3 X d Sx T 29 lv st h us ↔ pm_2i st fun x y r => KL3 X d Sx T 30 lv (.int (x - y) :: r) h us := pl_eq (L := le_3) (i := .isub) (len := 1) (cv := 0) (r := []) rfl
theorem gh_30 : KL3 X d Sx T 30 lv st h us ↔ pm_2i st fun x y r => (y < x → KL3 X d Sx T 1940 lv r h us) ∧ (¬ y < x → KL3 X d Sx T 33 lv r h us) := pl_eq (L := le_3) (i := .if_icmp .gt 1910) (len := 3) (cv := 0) (r := [1940]) rfl
theorem gh_33 : KL3 X d Sx T 33 lv st h us ↔ pm_lda lv 0 fun x => KL3 X d Sx T 34 lv (.ref x :: st) h us := pl_eq (L := le_3) (i := .aload_n 0) (len := 1) (cv := 0) (r := []) rfl
theorem gh_34 : KL3 X d Sx T 34 lv st h us ↔ pm_ldi lv 4 fun x => KL3 X d Sx T 36 lv (.int x :: st) h us := pl_eq (L := le_3) (i := .iload 4) (len := 2) (cv := 0) (r := []) rfl
theorem gh_36 : KL3 X d Sx T 36 lv st h us ↔ pm_ia st fun i a r => pm_ird X h a fun n f => vp_in i n ∧ KL3 X d Sx T 37 lv (.int (f i.toNatClampNeg) :: r) h us := pl_eq (L := le_3) (i := .iaload) (len := 1) (cv := 0) (r := []) rfl
theorem gh_37 : KL3 X d Sx T 37 lv st h us ↔ KL3 X d Sx T 39 lv (.int 63 :: st) h us := pl_eq (L := le_3) (i := .bipush 63) (len := 2) (cv := 63) (r := []) rfl
theorem gh_39 : KL3 X d Sx T 39 lv st h us ↔ pm_2i st fun x y r => KL3 X d Sx T 40 lv (.int (x &&& y) :: r) h us := pl_eq (L := le_3) (i := .iand) (len := 1) (cv := 0) (r := []) rfl
theorem gh_40 : KL3 X d Sx T 40 lv st h us ↔ pm_1i st fun x r => pm_sw x (fun t => KL3 X d Sx T t lv r h us) 1934 0 [208, 281, 306, 350, 363, 407, 420, 476, 532, 600, 668, 724, 749, 805, 873, 941, 1009, 1072, 1085, 1160, 1228, 1269, 1325, 1366, 1422, 1478, 1503, 1571, 1627, 1652, 1708, 1764, 1789, 1814, 1827, 1852, 1865, 1909] := pl_eq (L := le_3) (i := .tableswitch 1894 0 37 #[168, 241, 266, 310, 323, 367, 380, 436, 492, 560, 628, 684, 709, 765, 833, 901, 969, 1032, 1045, 1120, 1188, 1229, 1285, 1326, 1382, 1438, 1463, 1531, 1587, 1612, 1668, 1724, 1749, 1774, 1787, 1812, 1825, 1869]) (len := 168) (cv := 0) (r := [0, 1934, 208, 281, 306, 350, 363, 407, 420, 476, 532, 600, 668, 724, 749, 805, 873, 941, 1009, 1072, 1085, 1160, 1228, 1269, 1325, 1366, 1422, 1478, 1503, 1571, 1627, 1652, 1708, 1764, 1789, 1814, 1827, 1852, 1865, 1909]) rfl
theorem gh_o {t : Nat} (ht : 41 ≤ t) : KL3 X d Sx T t lv st h us ↔ T t lv st h us := pl_st (L := le_3) (by unfold pm_at; rw [List.getElem?_eq_none (show le_3.length ≤ t from ht)])
end
theorem pm_sw_all {x : Int32} {k : Nat → Prop} {d : Nat} (hd : k d) : ∀ (l : List Nat) (c : Int32), (∀ t ∈ l, k t) → pm_sw x k d c l
  | [], _, _ => hd
  | t :: l, c, h => ⟨fun _ => h t List.mem_cons_self, fun _ => pm_sw_all hd l (c + 1) fun u hu => h u (List.mem_cons_of_mem _ hu)⟩
theorem lw_le {L k : Nat} (hL : L ≤ 3072) (hk : 6 * k ≤ L) (h : ¬ nI L - 6 < nI (6 * k)) : 6 * k + 6 ≤ L := by
  rw [Int32.lt_iff_toInt_lt, Int32.toInt_sub, nI_toInt (n := L) (by omega), nI_toInt (n := 6 * k) (by omega), show (6 : Int32).toInt = 6 from rfl, Int.bmod_eq_of_le (by omega) (by omega)] at h
  omega
def lw_tg : List Nat := [208, 281, 306, 350, 363, 407, 420, 476, 532, 600, 668, 724, 749, 805, 873, 941, 1009, 1072, 1085, 1160, 1228, 1269, 1325, 1366, 1422, 1478, 1503, 1571, 1627, 1652, 1708, 1764, 1789, 1814, 1827, 1852, 1865, 1909]
set_option maxHeartbeats 4000000
section LL
variable {p : Program} {l : Launch} {e : Env} {s : State} {m : MethodId} {b0 : Nat} {below : List Frame} {meth : Method} {c : Code} {Qf : State → Prop} {D : va_G} {ct : Nat → ClassId} {b : Nat} {g adV : Nat → Nat} {L : Nat} {xs : Nat → Int32} {xo : Nat}
theorem lw_head (X : CX p l s m b0 meth c D ct b g adV L xs) (hxo : xo ≤ 900) {us : Nat} (hus : us + 6 ≤ 7293033) {k : Nat} {u5 u6 : Option Value} {h : pmH} (hl : h.length = 125) (hL : L ≤ 3072) (hk : 6 * k ≤ L) (hE : SE p l e s m b0 below meth c Qf D ct b g xo 1941 [some (.ref 1000001), some (.ref 0), some (.ref 113), some (.ref 124), some (.int (nI (6 * k))), u5, u6] [.int 1] h us) (hc : 6 * k + 6 ≤ L → ∀ t ∈ lw_tg, SE p l e s m b0 below meth c Qf D ct b g xo t [some (.ref 1000001), some (.ref 0), some (.ref 113), some (.ref 124), some (.int (nI (6 * k))), u5, u6] [] h us) (hd : 6 * k + 6 ≤ L → SE p l e s m b0 below meth c Qf D ct b g xo 1934 [some (.ref 1000001), some (.ref 0), some (.ref 113), some (.ref 124), some (.int (nI (6 * k))), u5, u6] [] h us) : SE p l e s m b0 below meth c Qf D ct b g xo 23 [some (.ref 1000001), some (.ref 0), some (.ref 113), some (.ref 124), some (.int (nI (6 * k))), u5, u6] [] h us := by
  have r0 := lw_ird hl L xs
  have a0 := lw_aln hl L xs
  refine law_run X (by omega) lk_3 ?_
  show KL3 _ _ _ _ _ _ _ _ _
  rw [gh_23]
  simp only [gh_23, gh_25, gh_26, gh_27, gh_29, gh_30, gh_33, gh_34, gh_36, gh_37, gh_39, gh_40, pm_1i_c, pm_2i_c, pm_1l_c, pm_2l_c, pm_1a_c, pm_ia_c, pm_iia_c, pm_va_c, pm_cp_c, pm_k0_c, pm_k1_c, pm_k2_c, pm_k3_c, pm_s1_c, pm_s2_c, pm_s3_c, pm_s4_c, pm_ri_c, pm_ra_c, pm_rn_c, pm_rk_i, pm_rk_z, pm_rk_a, pm_vk_i, pm_vk_z, pm_vk_a, pm_cti, pm_ctr, pm_ldi_z, pm_ldi_s, pm_lda_z, pm_lda_s, pm_cat_n, pm_cat_i, pm_cat_r, pm_cat_l, pm_obj, pm_arr, pm_opt, List.getElem?_cons_zero, List.getElem?_cons_succ, List.set_cons_zero, List.set_cons_succ, List.length_cons, List.length_nil, List.length_set, true_and, and_true, Nat.add_zero, Nat.zero_add, Nat.le_refl, Nat.reduceAdd, Nat.reduceLT, Nat.reduceLeDiff, Nat.zero_le, not_false_eq_true, not_true_eq_false, false_implies, implies_true, true_implies, Nat.zero_lt_succ, Nat.lt_add_one, r0, a0]
  refine ⟨fun _ => ?_, fun z => ?_⟩
  · rw [gh_o (by decide)]
    refine law_run X (by omega) lk_1 ?_
    show KL1 _ _ _ _ _ _ _ _ _
    simp only [g_1940, g_1941]
    exact hE
  · have hok := lw_le hL hk z
    have hin : vp_in (nI (6 * k)) L := vp_in_nI (by omega) (by omega)
    refine ⟨hin, ?_⟩
    refine pm_sw_all ?_ _ _ ?_
    · rw [gh_o (by decide)]
      exact hd hok
    · intro t ht
      rw [gh_o ((show ∀ t ∈ lw_tg, 41 ≤ t by decide) t ht)]
      exact hc hok t ht
theorem lw_next (X : CX p l s m b0 meth c D ct b g adV L xs) (hxo : xo ≤ 900) {us k : Nat} {u5 u6 : Option Value} {h : pmH} (hn : SE p l e s m b0 below meth c Qf D ct b g xo 23 [some (.ref 1000001), some (.ref 0), some (.ref 113), some (.ref 124), some (.int (nI (6 * (k + 1)))), u5, u6] [] h us) : SE p l e s m b0 below meth c Qf D ct b g xo 1934 [some (.ref 1000001), some (.ref 0), some (.ref 113), some (.ref 124), some (.int (nI (6 * k))), u5, u6] [] h us := by
  refine law_run X (by omega) lk_2 ?_
  show KL2 _ _ _ _ _ _ _ _ _
  simp only [gc_1934, gc_1937, gc_23, pm_1i_c, pm_2i_c, pm_1l_c, pm_2l_c, pm_1a_c, pm_ia_c, pm_iia_c, pm_va_c, pm_cp_c, pm_k0_c, pm_k1_c, pm_k2_c, pm_k3_c, pm_s1_c, pm_s2_c, pm_s3_c, pm_s4_c, pm_ri_c, pm_ra_c, pm_rn_c, pm_rk_i, pm_rk_z, pm_rk_a, pm_vk_i, pm_vk_z, pm_vk_a, pm_cti, pm_ctr, pm_ldi_z, pm_ldi_s, pm_lda_z, pm_lda_s, pm_cat_n, pm_cat_i, pm_cat_r, pm_cat_l, pm_obj, pm_arr, pm_opt, pm_ird, pm_aln, List.getElem?_cons_zero, List.getElem?_cons_succ, List.set_cons_zero, List.set_cons_succ, List.length_cons, List.length_nil, List.length_set, true_and, and_true, Nat.add_zero, Nat.zero_add, Nat.le_refl, Nat.reduceAdd, Nat.reduceLT, Nat.reduceLeDiff, Nat.zero_le, not_false_eq_true, not_true_eq_false, false_implies, implies_true, true_implies, Nat.zero_lt_succ, Nat.lt_add_one]
  rw [show nI (6 * k) + 6 = nI (6 * (k + 1)) by rw [show (6 : Int32) = nI 6 from rfl, nI_add, Nat.mul_add, Nat.mul_one]]
  exact hn
theorem lw_case (X : CX p l s m b0 meth c D ct b g adV L xs) (hxo : xo ≤ 900) {us : Nat} (hus : us + 6 ≤ 7293033) {th i : Int32} {u5 u6 : Option Value} {h : pmH} (R : RZ th h) (hl : h.length = 125) (hf : LG h) (i1 : vp_in (i + 1) L) (i2 : vp_in (i + 2) L) (i3 : vp_in (i + 3) L) (i4 : vp_in (i + 4) L) (i5 : vp_in (i + 5) L) (h0 : ∀ (u5 u6 : Option Value) (h2 : pmH), (∃ th, RZ th h2) → h2.length = 125 → LG h2 → SE p l e s m b0 below meth c Qf D ct b g xo 1934 [some (.ref 1000001), some (.ref 0), some (.ref 113), some (.ref 124), some (.int i), u5, u6] [] h2 us) (h1 : ∀ (u5 u6 : Option Value) (h2 : pmH), (∃ th, RZ th h2) → h2.length = 125 → LG h2 → SE p l e s m b0 below meth c Qf D ct b g (xo + 1) 1934 [some (.ref 1000001), some (.ref 0), some (.ref 113), some (.ref 124), some (.int i), u5, u6] [] h2 (us + 6)) : ∀ t ∈ lw_tg, SE p l e s m b0 below meth c Qf D ct b g xo t [some (.ref 1000001), some (.ref 0), some (.ref 113), some (.ref 124), some (.int i), u5, u6] [] h us := by
  intro t ht
  unfold lw_tg at ht
  simp only [List.mem_cons, List.not_mem_nil, or_false] at ht
  rcases ht with rfl | rfl | rfl | rfl | rfl | rfl | rfl | rfl | rfl | rfl | rfl | rfl | rfl | rfl | rfl | rfl | rfl | rfl | rfl | rfl | rfl | rfl | rfl | rfl | rfl | rfl | rfl | rfl | rfl | rfl | rfl | rfl | rfl | rfl | rfl | rfl | rfl | rfl
  · exact cs_feed X hxo hus R hl hf i1 i2 i3 i4 i5 (fun v5 v6 h2 R2 l2 f2 => h0 v5 v6 h2 R2 l2 f2)
  · exact cs_end X hxo hus R hl hf i1 i2 i3 i4 i5 (fun v5 v6 h2 R2 l2 f2 => h0 v5 v6 h2 R2 l2 f2)
  · exact ct_law X hxo hus R hl hf i1 i2 i3 i4 i5 (fun v5 v6 h2 R2 l2 f2 => h1 v5 v6 h2 R2 l2 f2)
  · exact cs_free X hxo hus R hl hf i1 i2 i3 i4 i5 (fun v5 v6 h2 R2 l2 f2 => h0 v5 v6 h2 R2 l2 f2)
  · exact ct_trace X hxo hus R hl hf i1 i2 i3 i4 i5 (fun v5 v6 h2 R2 l2 f2 => h1 v5 v6 h2 R2 l2 f2)
  · exact cs_fault X hxo hus R hl hf i1 i2 i3 i4 i5 (fun v5 v6 h2 R2 l2 f2 => h0 v5 v6 h2 R2 l2 f2)
  · exact ct_ask X hxo hus R hl hf i1 i2 i3 i4 i5 (fun v5 v6 h2 R2 l2 f2 => h1 v5 v6 h2 R2 l2 f2)
  · exact ct_where X hxo hus R hl hf i1 i2 i3 i4 i5 (fun v5 v6 h2 R2 l2 f2 => h1 v5 v6 h2 R2 l2 f2)
  · exact ct_part X hxo hus R hl hf i1 i2 i3 i4 i5 (fun v5 v6 h2 R2 l2 f2 => h1 v5 v6 h2 R2 l2 f2)
  · exact ct_at X hxo hus R hl hf i1 i2 i3 i4 i5 (fun v5 v6 h2 R2 l2 f2 => h1 v5 v6 h2 R2 l2 f2)
  · exact ct_latest X hxo hus R hl hf i1 i2 i3 i4 i5 (fun v5 v6 h2 R2 l2 f2 => h1 v5 v6 h2 R2 l2 f2)
  · exact cs_out X hxo hus R hl hf i1 i2 i3 i4 i5 (fun v5 v6 h2 R2 l2 f2 => h0 v5 v6 h2 R2 l2 f2)
  · exact ct_estimate X hxo hus R hl hf i1 i2 i3 i4 i5 (fun v5 v6 h2 R2 l2 f2 => h1 v5 v6 h2 R2 l2 f2)
  · exact ct_place X hxo hus R hl hf i1 i2 i3 i4 i5 (fun v5 v6 h2 R2 l2 f2 => h1 v5 v6 h2 R2 l2 f2)
  · exact ct_counter X hxo hus R hl hf i1 i2 i3 i4 i5 (fun v5 v6 h2 R2 l2 f2 => h1 v5 v6 h2 R2 l2 f2)
  · exact ct_meets X hxo hus R hl hf i1 i2 i3 i4 i5 (fun v5 v6 h2 R2 l2 f2 => h1 v5 v6 h2 R2 l2 f2)
  · exact ct_noted X hxo hus R hl hf i1 i2 i3 i4 i5 (fun v5 v6 h2 R2 l2 f2 => h1 v5 v6 h2 R2 l2 f2)
  · exact cs_halve X hxo hus R hl hf i1 i2 i3 i4 i5 (fun v5 v6 h2 R2 l2 f2 => h0 v5 v6 h2 R2 l2 f2)
  · exact ct_wins X hxo hus R hl hf i1 i2 i3 i4 i5 (fun v5 v6 h2 R2 l2 f2 => h1 v5 v6 h2 R2 l2 f2)
  · exact ct_tell X hxo hus R hl hf i1 i2 i3 i4 i5 (fun v5 v6 h2 R2 l2 f2 => h1 v5 v6 h2 R2 l2 f2)
  · exact cs_doorman X hxo hus R hl hf i1 i2 i3 i4 i5 (fun v5 v6 h2 R2 l2 f2 => h0 v5 v6 h2 R2 l2 f2)
  · exact ct_again X hxo hus R hl hf i1 i2 i3 i4 i5 (fun v5 v6 h2 R2 l2 f2 => h1 v5 v6 h2 R2 l2 f2)
  · exact cs_best X hxo hus R hl hf i1 i2 i3 i4 i5 (fun v5 v6 h2 R2 l2 f2 => h0 v5 v6 h2 R2 l2 f2)
  · exact ct_plain X hxo hus R hl hf i1 i2 i3 i4 i5 (fun v5 v6 h2 R2 l2 f2 => h1 v5 v6 h2 R2 l2 f2)
  · exact ct_ideal X hxo hus R hl hf i1 i2 i3 i4 i5 (fun v5 v6 h2 R2 l2 f2 => h1 v5 v6 h2 R2 l2 f2)
  · exact cs_enough X hxo hus R hl hf i1 i2 i3 i4 i5 (fun v5 v6 h2 R2 l2 f2 => h0 v5 v6 h2 R2 l2 f2)
  · exact ct_needed X hxo hus R hl hf i1 i2 i3 i4 i5 (fun v5 v6 h2 R2 l2 f2 => h1 v5 v6 h2 R2 l2 f2)
  · exact ct_twin X hxo hus R hl hf i1 i2 i3 i4 i5 (fun v5 v6 h2 R2 l2 f2 => h1 v5 v6 h2 R2 l2 f2)
  · exact cs_history X hxo hus R hl hf i1 i2 i3 i4 i5 (fun v5 v6 h2 R2 l2 f2 => h0 v5 v6 h2 R2 l2 f2)
  · exact ct_past X hxo hus R hl hf i1 i2 i3 i4 i5 (fun v5 v6 h2 R2 l2 f2 => h1 v5 v6 h2 R2 l2 f2)
  · exact ct_asked X hxo hus R hl hf i1 i2 i3 i4 i5 (fun v5 v6 h2 R2 l2 f2 => h1 v5 v6 h2 R2 l2 f2)
  · exact cs_hot X hxo hus R hl hf i1 i2 i3 i4 i5 (fun v5 v6 h2 R2 l2 f2 => h0 v5 v6 h2 R2 l2 f2)
  · exact cs_heat X hxo hus R hl hf i1 i2 i3 i4 i5 (fun v5 v6 h2 R2 l2 f2 => h0 v5 v6 h2 R2 l2 f2)
  · exact cs_write X hxo hus R hl hf i1 i2 i3 i4 i5 (fun v5 v6 h2 R2 l2 f2 => h0 v5 v6 h2 R2 l2 f2)
  · exact cs_octet X hxo hus R hl hf i1 i2 i3 i4 i5 (fun v5 v6 h2 R2 l2 f2 => h0 v5 v6 h2 R2 l2 f2)
  · exact cs_keep X hxo hus R hl hf i1 i2 i3 i4 i5 (fun v5 v6 h2 R2 l2 f2 => h0 v5 v6 h2 R2 l2 f2)
  · exact ct_back X hxo hus R hl hf i1 i2 i3 i4 i5 (fun v5 v6 h2 R2 l2 f2 => h1 v5 v6 h2 R2 l2 f2)
  · exact cs_count X hxo hus R hl hf i1 i2 i3 i4 i5 (fun v5 v6 h2 R2 l2 f2 => h0 v5 v6 h2 R2 l2 f2)
theorem lw_loop (X : CX p l s m b0 meth c D ct b g adV L xs) (hL : L ≤ 3072) (hE : ∀ (xo us : Nat) (lv : pmL) (h : pmH), xo ≤ 900 → us ≤ 7293033 → h.length = 125 → SE p l e s m b0 below meth c Qf D ct b g xo 1941 lv [.int 1] h us) : ∀ (n k xo us : Nat) (u5 u6 : Option Value) (h : pmH), L < 6 * k + 6 * n → 6 * k ≤ L → xo ≤ k → us ≤ 20847 + 6 * k → (∃ th, RZ th h) → h.length = 125 → LG h → SE p l e s m b0 below meth c Qf D ct b g xo 23 [some (.ref 1000001), some (.ref 0), some (.ref 113), some (.ref 124), some (.int (nI (6 * k))), u5, u6] [] h us
  | 0, k, xo, us, u5, u6, h, h1, h2, h3, h4, R, hl, hf => absurd h1 (by omega)
  | n + 1, k, xo, us, u5, u6, h, h1, h2, h3, h4, R, hl, hf => by
    obtain ⟨th, R⟩ := R
    have hi : 6 * k + 6 ≤ L → ∀ j : Nat, j < 6 → vp_in (nI (6 * k) + nI j) L := fun z j hj => by
      rw [nI_add]
      exact vp_in_nI (by omega) (by omega)
    refine lw_head X (by omega) (by omega) hl hL h2 (hE _ _ _ _ (by omega) (by omega) hl) (fun z => ?_) (fun z => ?_)
    · refine lw_case X (by omega) (by omega) R hl hf (hi z 1 (by omega)) (hi z 2 (by omega)) (hi z 3 (by omega)) (hi z 4 (by omega)) (hi z 5 (by omega)) (fun v5 v6 h9 R9 l9 f9 => ?_) (fun v5 v6 h9 R9 l9 f9 => ?_)
      · exact lw_next X (by omega) (lw_loop X hL hE n (k + 1) xo us v5 v6 h9 (by omega) (by omega) (by omega) (by omega) R9 l9 f9)
      · exact lw_next X (by omega) (lw_loop X hL hE n (k + 1) (xo + 1) (us + 6) v5 v6 h9 (by omega) (by omega) (by omega) (by omega) R9 l9 f9)
    · exact lw_next X (by omega) (lw_loop X hL hE n (k + 1) xo us u5 u6 h (by omega) (by omega) (by omega) (by omega) ⟨th, R⟩ hl hf)
end LL
