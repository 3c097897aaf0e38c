/-! What holds at the law's entry. -/
def lw_B : List Cond := flatC (Jvm.Cond.and given_1 narrow_1)
def px_tm (S : List (String × Nat × String)) (i : Nat) : Term := Term.string (S.getD i ("", 0, "")).1 (S.getD i ("", 0, "")).2.1
def px_ms : List (String × Nat × String) := px_txt.map fun q => ("AdmissionDesk", q.1, q.2)
def px_len (S : List (String × Nat × String)) : List Nat := S.map fun q => q.2.2.length
def px_byt (S : List (String × Nat × String)) : List (List Int32) := S.map fun q => q.2.2.toList.map fun x => nI x.toNat
def px_vl (S : List (String × Nat × String)) (i : Nat) : Term := .field (px_tm S i) "java/lang/String" "value" "[B"
def px_at (j : Nat) (c : Cond) : Bool := decide (lw_B[j]? = some c)
theorem px_at_in {j : Nat} {c : Cond} (h : px_at j c = true) : c ∈ lw_B := List.mem_of_getElem? (of_decide_eq_true h)
/-- the texts' words, at their places -/
def px_sB (S : List (String × Nat × String)) (p1 p2 p3 p4 : List Nat) (p5 p6 : List (List Nat)) : Bool := (List.range S.length).all fun i =>
  px_at (p1.getD i 0) (.exactly (px_tm S i) "java/lang/String") && px_at (p2.getD i 0) (.eq (.field (px_tm S i) "java/lang/String" "coder" "B") (.int 0)) && px_at (p3.getD i 0) (.arrayOf (px_vl S i) .byte) && px_at (p4.getD i 0) (.eq (.length (px_vl S i)) (.int (Int32.ofNat ((px_len S).getD i 0)))) && decide ((px_len S).getD i 0 < 1000) && ((List.range ((px_len S).getD i 0)).all fun j => px_at ((p5.getD i []).getD j 0) (.eq (.elem (px_vl S i) (.int (Int32.ofNat j))) (.int (((px_byt S).getD i []).getD j 0)))) && ((List.range S.length).all fun j => decide (i = j) || px_at ((p6.getD i []).getD j 0) (.not (.eq (px_tm S i) (px_tm S j))) || px_at ((p6.getD i []).getD j 0) (.not (.eq (px_tm S j) (px_tm S i))))
theorem px_S {args : Array Value} {s : State} {S : List (String × Nat × String)} {p1 p2 p3 p4 : List Nat} {p5 p6 : List (List Nat)} {A : Nat → Prop} (hB : px_sB S p1 p2 p3 p4 p5 p6 = true) (hs : ∀ c ∈ lw_B, c.before args s = true) (hA : ∀ a : Nat, a < s.heap.size → ¬ A a) : ∃ adK adV : Nat → Nat, vk_S S.length (px_len S) (px_byt S) adK adV A s s.heap ∧ ∀ i : Nat, i < S.length → (px_tm S i).eval args s none [] s = some (.ref (adK i)) := by
  have h : ∀ i, i < S.length → _ := fun i hi => List.all_eq_true.mp hB i (List.mem_range.mpr hi)
  simp only [Bool.and_eq_true, decide_eq_true_eq, List.all_eq_true, List.mem_range, Bool.or_eq_true] at h
  refine vk_Sof (fun i hi => ?_) (fun i hi => hs _ (px_at_in (h i hi).1.1.1.1.1.1)) (fun i hi => hs _ (px_at_in (h i hi).1.1.1.1.1.2)) (fun i hi => hs _ (px_at_in (h i hi).1.1.1.1.2)) (fun i hi => hs _ (px_at_in (h i hi).1.1.1.2)) (fun i hi j hj => hs _ (px_at_in ((h i hi).1.2 j hj))) (fun i j hi hj hij => ?_) hA
  · have := (h i hi).1.1.2
    omega
  · rcases (h i hi).2 j hj with (z | z) | z
    · exact absurd z hij
    · exact Or.inl (hs _ (px_at_in z))
    · exact Or.inr (hs _ (px_at_in z))
set_option maxRecDepth 100000 in
theorem px_sB1 : px_sB pm_str [63, 387, 406, 427, 449, 472, 496, 520, 546, 573, 600, 628] [64, 388, 407, 428, 450, 473, 497, 521, 547, 574, 601, 629] [65, 389, 408, 429, 451, 474, 498, 522, 548, 575, 602, 630] [66, 390, 409, 430, 452, 475, 499, 523, 549, 576, 603, 631] [[67, 68, 69, 70, 71, 72, 73, 74, 75, 76, 77, 78, 79, 80, 81, 82, 83, 84, 85, 86, 87, 88, 89, 90, 91, 92, 93, 94, 95, 96, 97, 98, 99, 100, 101, 102, 103, 104, 105, 106, 107, 108, 109, 110, 111, 112, 113, 114, 115, 116, 117, 118, 119, 120, 121], [391, 392, 393], [410, 411, 412, 413], [431, 432, 433, 434], [453, 454, 455, 456], [476, 477, 478, 479], [500, 501, 502], [524, 525, 526, 527], [550, 551, 552, 553], [577, 578, 579], [604, 605, 606], [632, 633]] [[0, 394, 414, 435, 457, 480, 503, 528, 554, 580, 607, 634], [394, 0, 426, 447, 469, 492, 515, 540, 566, 592, 619, 646], [414, 426, 0, 448, 470, 493, 516, 541, 567, 593, 620, 647], [435, 447, 448, 0, 471, 494, 517, 542, 568, 594, 621, 648], [457, 469, 470, 471, 0, 495, 518, 543, 569, 595, 622, 649], [480, 492, 493, 494, 495, 0, 519, 544, 570, 596, 623, 650], [503, 515, 516, 517, 518, 519, 0, 545, 571, 597, 624, 651], [528, 540, 541, 542, 543, 544, 545, 0, 572, 598, 625, 652], [554, 566, 567, 568, 569, 570, 571, 572, 0, 599, 626, 653], [580, 592, 593, 594, 595, 596, 597, 598, 599, 0, 627, 654], [607, 619, 620, 621, 622, 623, 624, 625, 626, 627, 0, 655], [634, 646, 647, 648, 649, 650, 651, 652, 653, 654, 655, 0]] = true := by decide +kernel
set_option maxRecDepth 100000 in
theorem px_sB2 : px_sB px_ms [122, 155, 191, 204, 224, 245, 266, 290, 315, 335, 356] [123, 156, 192, 205, 225, 246, 267, 291, 316, 336, 357] [124, 157, 193, 206, 226, 247, 268, 292, 317, 337, 358] [125, 158, 194, 207, 227, 248, 269, 293, 318, 338, 359] [[126, 127, 128, 129, 130, 131, 132, 133, 134, 135, 136, 137, 138, 139, 140, 141, 142, 143, 144, 145, 146, 147, 148, 149, 150, 151, 152, 153], [159, 160, 161, 162, 163, 164, 165, 166, 167, 168, 169, 170, 171, 172, 173, 174, 175, 176, 177, 178, 179, 180, 181, 182, 183, 184, 185, 186, 187, 188], [195, 196, 197, 198, 199, 200], [208, 209, 210, 211, 212, 213, 214, 215, 216, 217, 218, 219], [228, 229, 230, 231, 232, 233, 234, 235, 236, 237, 238, 239], [249, 250, 251, 252, 253, 254, 255, 256, 257, 258, 259], [270, 271, 272, 273, 274, 275, 276, 277, 278, 279, 280, 281, 282], [294, 295, 296, 297, 298, 299, 300, 301, 302, 303, 304, 305, 306], [319, 320, 321, 322, 323, 324, 325], [339, 340, 341, 342, 343, 344, 345], [360, 361, 362, 363, 364, 365, 366, 367, 368, 369, 370, 371, 372, 373, 374, 375]] [[0, 190, 202, 221, 241, 261, 284, 308, 327, 347, 377], [190, 0, 203, 222, 242, 262, 285, 309, 328, 348, 378], [202, 203, 0, 223, 243, 263, 286, 310, 329, 349, 379], [221, 222, 223, 0, 244, 264, 287, 311, 330, 350, 380], [241, 242, 243, 244, 0, 265, 288, 312, 331, 351, 381], [261, 262, 263, 264, 265, 0, 289, 313, 332, 352, 382], [284, 285, 286, 287, 288, 289, 0, 314, 333, 353, 383], [308, 309, 310, 311, 312, 313, 314, 0, 334, 354, 384], [327, 328, 329, 330, 331, 332, 333, 334, 0, 355, 385], [347, 348, 349, 350, 351, 352, 353, 354, 355, 0, 386], [377, 378, 379, 380, 381, 382, 383, 384, 385, 386, 0]] = true := by decide +kernel
theorem px_r1 : ∀ (j : Nat) (q : String × Nat × String), pm_str[j]? = some q → Cond.stringRef q.1 q.2.1 q.2.2 ∈ lw_tbl := by
  intro j q h
  match j, h with
  | 0, h => cases h; exact pm_tb_in (k := 4) (List.mem_of_getElem? (i := 46) (by decide +kernel))
  | 1, h => cases h; exact pm_tb_in (k := 6) (List.mem_of_getElem? (i := 184) (by decide +kernel))
  | 2, h => cases h; exact pm_tb_in (k := 7) (List.mem_of_getElem? (i := 6) (by decide +kernel))
  | 3, h => cases h; exact pm_tb_in (k := 7) (List.mem_of_getElem? (i := 7) (by decide +kernel))
  | 4, h => cases h; exact pm_tb_in (k := 7) (List.mem_of_getElem? (i := 8) (by decide +kernel))
  | 5, h => cases h; exact pm_tb_in (k := 7) (List.mem_of_getElem? (i := 9) (by decide +kernel))
  | 6, h => cases h; exact pm_tb_in (k := 7) (List.mem_of_getElem? (i := 10) (by decide +kernel))
  | 7, h => cases h; exact pm_tb_in (k := 7) (List.mem_of_getElem? (i := 11) (by decide +kernel))
  | 8, h => cases h; exact pm_tb_in (k := 7) (List.mem_of_getElem? (i := 12) (by decide +kernel))
  | 9, h => cases h; exact pm_tb_in (k := 7) (List.mem_of_getElem? (i := 13) (by decide +kernel))
  | 10, h => cases h; exact pm_tb_in (k := 7) (List.mem_of_getElem? (i := 14) (by decide +kernel))
  | 11, h => cases h; exact pm_tb_in (k := 7) (List.mem_of_getElem? (i := 15) (by decide +kernel))
  | j + 12, h => simp [pm_str] at h
theorem px_r2 : ∀ (j : Nat) (q : String × Nat × String), px_ms[j]? = some q → Cond.stringRef q.1 q.2.1 q.2.2 ∈ lw_tbl := by
  intro j q h
  match j, h with
  | 0, h => cases h; exact pm_tb_in (k := 4) (List.mem_of_getElem? (i := 190) (by decide +kernel))
  | 1, h => cases h; exact pm_tb_in (k := 5) (List.mem_of_getElem? (i := 29) (by decide +kernel))
  | 2, h => cases h; exact pm_tb_in (k := 5) (List.mem_of_getElem? (i := 41) (by decide +kernel))
  | 3, h => cases h; exact pm_tb_in (k := 5) (List.mem_of_getElem? (i := 70) (by decide +kernel))
  | 4, h => cases h; exact pm_tb_in (k := 5) (List.mem_of_getElem? (i := 77) (by decide +kernel))
  | 5, h => cases h; exact pm_tb_in (k := 5) (List.mem_of_getElem? (i := 113) (by decide +kernel))
  | 6, h => cases h; exact pm_tb_in (k := 5) (List.mem_of_getElem? (i := 129) (by decide +kernel))
  | 7, h => cases h; exact pm_tb_in (k := 5) (List.mem_of_getElem? (i := 172) (by decide +kernel))
  | 8, h => cases h; exact pm_tb_in (k := 5) (List.mem_of_getElem? (i := 193) (by decide +kernel))
  | 9, h => cases h; exact pm_tb_in (k := 5) (List.mem_of_getElem? (i := 201) (by decide +kernel))
  | 10, h => cases h; exact pm_tb_in (k := 6) (List.mem_of_getElem? (i := 57) (by decide +kernel))
  | j + 11, h => simp [px_ms, px_txt] at h
theorem px_ins : ∀ (k : Nat) (q : vw_C), pm_cl[k]? = some q → Cond.instantiable q.1 q.2.2 ∈ pm_WT := by
  intro k q h
  match k, h with
  | 0, h => cases h; exact pm_w_in (j := 1215) (by decide +kernel)
  | 1, h => cases h; exact pm_w_in (j := 1239) (by decide +kernel)
  | 2, h => cases h; exact pm_w_in (j := 1149) (by decide +kernel)
  | 3, h => cases h; exact pm_w_in (j := 1084) (by decide +kernel)
  | 4, h => cases h; exact pm_w_in (j := 1049) (by decide +kernel)
  | 5, h => cases h; exact pm_w_in (j := 1131) (by decide +kernel)
  | 6, h => cases h; exact pm_w_in (j := 1035) (by decide +kernel)
  | 7, h => cases h; exact pm_w_in (j := 1155) (by decide +kernel)
  | 8, h => cases h; exact pm_w_in (j := 1177) (by decide +kernel)
  | 9, h => cases h; exact pm_w_in (j := 1055) (by decide +kernel)
  | 10, h => cases h; exact pm_w_in (j := 1113) (by decide +kernel)
  | 11, h => cases h; exact pm_w_in (j := 1027) (by decide +kernel)
  | 12, h => cases h; exact pm_w_in (j := 6069) (by decide +kernel)
  | k + 13, h => simp [pm_cl] at h
theorem px_K {args : Array Value} {s : State} (hts : ∀ w ∈ lw_tbl, w.before args s = true) : ∃ (D : va_G) (ct : Nat → ClassId), va_K D pm_cl (pm_tys ct) s := by
  have hC : ∀ k : Nat, ∃ q : ClassId × (Nat → Nat), ∀ Cl : vw_C, pm_cl[k]? = some Cl → u_Kn s Cl.1 Cl.2.1 Cl.2.2 q.1 q.2 := fun k => by
    cases e : pm_cl[k]? with
    | none => exact ⟨(default, fun _ => 0), fun Cl z => by cases z⟩
    | some Cl =>
      obtain ⟨cC, iS, z⟩ := u_known (C := Cl.1) (T := Cl.2.1) (N := Cl.2.2) (n := Cl.2.2) hts (fun w hw => ((pm_clOK k Cl e).1 w hw).1) (hts _ (List.mem_filter.mp (px_ins k Cl e)).1)
      exact ⟨(cC, iS), fun Cl2 z2 => by cases z2; exact z⟩
  obtain ⟨F, hF⟩ := Classical.axiomOfChoice hC
  have hT : ∀ t : Nat, ∃ c : ClassId, t < 4 → ArrOfT s c (pm_at4t t) ∧ s.vm.findClass ("[" ++ (pm_at4t t).toString) = some c := fun t => by
    by_cases ht : t < 4
    · have hw : Cond.arrayClass (pm_at4t t) ∈ pm_WT := by
        match t, ht with
        | 0, _ => exact pm_w_in (j := 1047) (by decide +kernel)
        | 1, _ => exact pm_w_in (j := 4216) (by decide +kernel)
        | 2, _ => exact pm_w_in (j := 1211) (by decide +kernel)
        | 3, _ => exact pm_w_in (j := 8125) (by decide +kernel)
      obtain ⟨cA, kA, comp, h1, h2, h3⟩ := Cond.arrayClass_spec (hts _ (List.mem_filter.mp hw).1)
      exact ⟨cA, fun _ => ⟨fun n z => ⟨fun k h => (by cases h), kA, h2, comp, h3⟩, h1⟩⟩
    · exact ⟨default, fun z => absurd z ht⟩
  obtain ⟨ct, hct⟩ := Classical.axiomOfChoice hT
  refine ⟨(fun k => (F k).1, fun k => (F k).2), ct, fun k q hq => hF k q hq, fun k q hq => ?_⟩
  unfold pm_tys at hq
  match k, hq with
  | 0, hq => cases hq; exact hct 0 (by decide)
  | 1, hq => cases hq; exact hct 1 (by decide)
  | 2, hq => cases hq; exact hct 2 (by decide)
  | 3, hq => cases hq; exact hct 3 (by decide)
  | k + 4, hq => simp at hq
theorem px_fwt : ∀ w ∈ px_fw, w ∈ lw_tbl := by
  intro w hw
  unfold px_fw at hw
  simp only [List.mem_cons, List.not_mem_nil, or_false] at hw
  rcases hw with rfl | rfl | rfl | rfl | rfl | rfl
  · exact pm_tb_in (k := 4) (List.mem_of_getElem? (i := 153) (by decide +kernel))
  · exact pm_tb_in (k := 4) (List.mem_of_getElem? (i := 155) (by decide +kernel))
  · exact pm_tb_in (k := 4) (List.mem_of_getElem? (i := 157) (by decide +kernel))
  · exact pm_tb_in (k := 4) (List.mem_of_getElem? (i := 151) (by decide +kernel))
  · exact pm_tb_in (k := 5) (List.mem_of_getElem? (i := 63) (by decide +kernel))
  · exact pm_tb_in (k := 6) (List.mem_of_getElem? (i := 50) (by decide +kernel))
def px_mixP : List Nat := [7, 8, 9, 10]
theorem px_mix : ∀ j : Nat, j < 4 → px_at (px_mixP.getD j 0) (.eq (.elem (.static "AdmissionDesk$Sketch" "MIX" "[I") (.int (Int32.ofNat j))) (.int (pm_mix j))) = true := by decide +kernel
set_option maxHeartbeats 2000000 in
theorem px_env {args : Array Value} {s : State} {b0 : Nat} (hts : ∀ w ∈ lw_tbl, w.before args s = true) (hgv : (Jvm.Cond.and given_1 narrow_1).before args s = true) : ∃ (D : va_G) (ct : Nat → ClassId) (g adV : Nat → Nat), pm_En D ct s.heap.size g adV s s.heap ∧ (∀ k, k < 1000000 → g k = s.heap.size + k) ∧ g 1000001 = b0 ∧ px_Ev s.heap.size s s.heap := by
  have hs : ∀ c ∈ lw_B, c.before args s = true := flat_of_before _ hgv
  have hA : ∀ a : Nat, a < s.heap.size → ¬ (fun q : Nat => s.heap.size ≤ q) a := fun a h => Nat.not_le.mpr h
  obtain ⟨D, ct, hK⟩ := px_K hts
  obtain ⟨adK, adV, hS, hSe⟩ := px_S (A := fun q : Nat => s.heap.size ≤ q) px_sB1 hs hA
  obtain ⟨adM, adW, hM, hMe⟩ := px_S (A := fun q : Nat => s.heap.size ≤ q) px_sB2 hs hA
  obtain ⟨tM, hTe, hT⟩ := va_Tof (tm := .static "AdmissionDesk$Sketch" "MIX" "[I") (ty := .int) (N := 4) (f := fun i => .int (pm_mix i)) (A := fun q : Nat => s.heap.size ≤ q) (by decide) (hs _ (px_at_in (j := 5) (by decide +kernel))) (va_eqt (hs _ (px_at_in (j := 6) (by decide +kernel)))) (fun j hj => va_eqt (hs _ (px_at_in (px_mix j hj)))) hA
  obtain ⟨g, g1, g2, g3, g4⟩ : ∃ g : Nat → Nat, (∀ k, k < 1000000 → g k = s.heap.size + k) ∧ g 1000000 = tM ∧ g 1000001 = b0 ∧ ∀ j, g (1000002 + j) = adK j := by
    refine ⟨fun k => if k < 1000000 then s.heap.size + k else if k = 1000000 then tM else if k = 1000001 then b0 else adK (k - 1000002), fun k hk => if_pos hk, rfl, rfl, fun j => ?_⟩
    show (if 1000002 + j < 1000000 then _ else _) = _
    rw [if_neg (by omega), if_neg (by omega), if_neg (by omega), Nat.add_sub_cancel_left]
  have hg : (fun j => g (1000002 + j)) = adK := funext g4
  have ev : ∀ (S : List (String × Nat × String)) (j : Nat) (q : String × Nat × String), S[j]? = some q → px_tm S j = Term.string q.1 q.2.1 := fun S j q h => by
    unfold px_tm
    rw [List.getD_eq_getElem?_getD, h]
    rfl
  refine ⟨D, ct, g, adV, ⟨hK, by rw [g2]; exact hT, by rw [g2]; exact va_Zref (hts _ (pm_tb_in (k := 3) (List.mem_of_getElem? (i := 15) (by decide +kernel)))) (hts _ (pm_tb_in (k := 1) (List.mem_of_getElem? (i := 10) (by decide +kernel)))) hTe hA, ⟨fun j q hq => ?_, va_Zof (hts _ (pm_tb_in (k := 4) (List.mem_of_getElem? (i := 56) (by decide +kernel)))) (hts _ (pm_tb_in (k := 1) (List.mem_of_getElem? (i := 14) (by decide +kernel)))) (va_eqt (hs _ (px_at_in (j := 11) (by decide +kernel)))) hA, va_Zqof (hts _ (pm_tb_in (k := 4) (List.mem_of_getElem? (i := 75) (by decide +kernel)))) (hts _ (pm_tb_in (k := 1) (List.mem_of_getElem? (i := 16) (by decide +kernel)))) (hs _ (px_at_in (j := 12) (by decide +kernel))) hA⟩, by rw [hg]; exact hS, Nat.le_refl _, fun w hw => ?_⟩, g1, g3, vx_Zqof (hts _ (pm_tb_in (k := 4) (List.mem_of_getElem? (i := 176) (by decide +kernel)))) (hts _ (pm_tb_in (k := 1) (List.mem_of_getElem? (i := 18) (by decide +kernel)))) (hs _ (px_at_in (j := 16) (by decide +kernel))) hA, vx_Zqof (hts _ (pm_tb_in (k := 4) (List.mem_of_getElem? (i := 178) (by decide +kernel)))) (hts _ (pm_tb_in (k := 1) (List.mem_of_getElem? (i := 18) (by decide +kernel)))) (hs _ (px_at_in (j := 17) (by decide +kernel))) hA, fun q hq => ?_, va_Nc.of (hs _ (px_at_in (j := 46) (by decide +kernel))), fun w hw => ?_⟩
  · rw [g4]
    exact vk_R.of (hts _ (px_r1 j q hq)) (by rw [← ev pm_str j q hq]; exact hSe j (pm_str_lt hq))
  · have hn := (List.mem_filter.mp hw).2
    have hm := hts w (List.mem_filter.mp hw).1
    unfold pm_isN at hn
    split at hn
    · exact va_Nw.of rfl hm
    · exact va_Nw.of rfl hm
    · cases hn
  · obtain ⟨j, hj, e⟩ := List.mem_iff_getElem.mp hq
    have e2 : px_ms[j]? = some ("AdmissionDesk", q.1, q.2) := by
      unfold px_ms
      rw [List.getElem?_map, List.getElem?_eq_getElem hj, e]
      rfl
    have hj2 : j < px_ms.length := (List.getElem?_eq_some_iff.mp e2).1
    exact ⟨adM j, vk_R.of (hts _ (px_r2 j _ e2)) (by rw [← ev px_ms j _ e2]; exact hMe j hj2)⟩
  · exact va_Nw.of (px_fw_f w hw).2 (hts w (px_fwt w hw))
