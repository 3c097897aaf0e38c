/-! AdmissionDeskModel: where its reader begins, and where a law's text ends. -/
section ML
variable {h h' : pmH} {m : Nat} {o : Nat → Int32} {bs ws : List Int32} {A K : AD}
theorem nI_sur (x : Int32) : ∃ b, x = nI b := ⟨x.toBitVec.toNat, by
  refine Int32.toBitVec_inj.mp ?_
  show x.toBitVec = BitVec.ofNat 32 x.toBitVec.toNat
  rw [BitVec.ofNat_toNat, BitVec.setWidth_eq]⟩
theorem c_Y_begins (C : mm_ h m o A K bs ws) (hb : byts bs) (d : Nat) : PM (d + 1) 153 [.ref m] h (fun v h' => v = none ∧ ∃ b o', o' 0 = o 0 ∧ o' 1 = o 1 ∧ o' 2 = 0 ∧ o' 7 = o 7 ∧ o' 12 = o 12 ∧ pr_ h' h' m o' bs 0 b 0 0 (-1) [] [] ∧ tap_ h' m bs ∧ fr1 h h' m) := by
  have H0 := C.ob
  unfold mO at H0
  obtain ⟨f, f1, f2, f3, f4⟩ := C.tp
  obtain ⟨g, g1⟩ := C.cd
  obtain ⟨k, k1⟩ := C.td
  obtain ⟨b, hb4⟩ := nI_sur (o 4)
  rw [f3] at H0
  refine en_X12_begins rfl ?_
  simp only [w_X12_begins_0, w_X12_begins_1, w_X12_begins_2, w_X12_begins_5, w_X12_begins_8, w_X12_begins_9, w_X12_begins_10, w_X12_begins_13, w_X12_begins_14, w_X12_begins_15, w_X12_begins_18, w_X12_begins_19, w_X12_begins_20, w_X12_begins_23, w_X12_begins_24, w_X12_begins_25, w_X12_begins_28, w_X12_begins_29, w_X12_begins_30, w_X12_begins_33, w_X12_begins_34, w_X12_begins_35, w_X12_begins_38, w_X12_begins_39, w_X12_begins_40, w_X12_begins_43, pm_1i_c, pm_2i_c, pm_1l_c, pm_2l_c, pm_1a_c, pm_ia_c, pm_iia_c, pm_va_c, pm_cp_c, pm_k0_c, pm_k1_c, pm_k2_c, pm_k3_c, pm_s1_c, pm_s2_c, pm_s3_c, pm_s4_c, pm_ri_c, pm_ra_c, pm_rn_c, pm_rk_i, pm_rk_z, pm_rk_a, pm_vk_i, pm_vk_z, pm_vk_a, pm_cti, pm_ctr, pm_ldi_z, pm_ldi_s, pm_lda_z, pm_lda_s, pm_cat_n, pm_cat_i, pm_cat_r, pm_cat_l, pm_obj, pm_arr, pm_opt, pm_ird, pm_aln, List.getElem?_cons_zero, List.getElem?_cons_succ, List.set_cons_zero, List.set_cons_succ, List.length_cons, List.length_nil, List.length_set, true_and, and_true, Nat.add_zero, Nat.zero_add, Nat.le_refl, Nat.reduceAdd, Nat.reduceLT, Nat.reduceLeDiff, Nat.zero_le, not_false_eq_true, not_true_eq_false, false_implies, implies_true, true_implies, Nat.zero_lt_succ, Nat.lt_add_one, H0, hset_s, Option.map_some, List.set_set]
  refine ⟨b, upd o 2 0, rfl, rfl, rfl, rfl, rfl, ⟨?_, ⟨g, (hset_n (by omega)).trans g1, fun k hk => absurd hk (Nat.not_lt_zero _)⟩, ⟨k, (hset_n (by omega)).trans k1, fun k hk => absurd hk (Nat.not_lt_zero _)⟩, fun _ _ _ _ => rfl⟩, ⟨f2, hb, f, (hset_n (by omega)).trans f1, f4⟩, fun i hi => hset_n (Ne.symm hi)⟩
  rw [hset_s, H0, hb4]
  rfl
/-- what the end of the text makes of a place -/
theorem lw_end (hl : bs.length ≤ 400) (H : byts bs) {s : PS} {p : Nat} {fa : Int32} (S : sm_ bs 4 s p fa) : fbF (cuF bs 4).2.1 (nI bs.length) (neF (cuF bs 4).1 (-1) s).2 = (if fa = -1 then (if skp bs p < bs.length then nI (skp bs p) else -1) else fa) := by
  have KL := cuF_kl1 (dm := 4) hl
  have SL := cuF_sl0 (dm := 4) hl
  by_cases c : fa = -1
  · rw [if_pos c]
    have sf := S.ff.mpr c
    have R := S.rt c
    by_cases e : skp bs p < bs.length
    · rw [if_pos e]
      have nt : taB (cuF bs 4).1 (-1) s = false := by
        refine decide_eq_false (fun z => ?_)
        have z2 := z.2
        obtain ⟨v, hv, ev⟩ := byts_at H e
        cases cd : isD (bs.getD (skp bs p) (-1)) with
        | true =>
          obtain ⟨a1, a2, -⟩ := RT_num R e cd
          rw [a2] at z2
          split at z2
          · exact absurd z2 (by decide)
          · exact absurd z2 (by decide)
        | false =>
          cases cl : isL (bs.getD (skp bs p) (-1)) with
          | true =>
            obtain ⟨a1, a2, -⟩ := RT_word R e cd cl
            obtain ⟨w, w1, w2, w3, -⟩ := woG_big bs (skp bs p) (beR isL bs (skp bs p)) 11 0 (by omega)
            have w3 : woF bs (skp bs p) (beR isL bs (skp bs p)) = nI w := w3
            rw [a2, w3] at z2
            exact nI_ne1 (by omega) z2
          | false =>
            obtain ⟨a1, a2, -⟩ := RT_sign R e cd cl
            rw [a2, ev] at z2
            exact nI_ne1 (by omega) z2
      have e1 : (neF (cuF bs 4).1 (-1) s).2 = nI s.1 := by
        unfold neF faF
        rw [nt, if_neg (by decide), if_pos sf]
      rw [e1]
      exact RT_fb R KL (by omega)
    · rw [if_neg e]
      have se : skp bs p = bs.length := by
        have := (skp_le S.1).2
        omega
      have kt : taB (cuF bs 4).1 (-1) s = true := decide_eq_true ⟨sf, (RT_end R se).2⟩
      have e1 : (neF (cuF bs 4).1 (-1) s).2 = -1 := by
        unfold neF
        rw [kt, if_pos rfl]
        exact sf
      rw [e1]
      unfold fbF
      split
      · unfold rw_get
        rfl
      · rename_i z
        exact absurd (nI_pos (n := (cuF bs 4).2.1.length) (by omega)) (fun _ => z (by
          have := nI_toInt (n := (cuF bs 4).2.1.length) (by omega)
          rw [Int32.lt_iff_toInt_lt, this]
          show (-1 : Int) < _
          omega))
  · rw [if_neg c]
    have sf : ¬ s.2 = -1 := fun z => c (S.ff.mp z)
    have e1 : (neF (cuF bs 4).1 (-1) s).2 = s.2 := by
      unfold neF
      rw [taB_ff sf, if_neg (by decide)]
      unfold faF
      rw [if_neg sf]
    rw [e1]
    rcases S.2 with ⟨-, y, -⟩ | ⟨-, -, y⟩
    · exact absurd y c
    · exact y.symm
end ML
