/-! The law's own body: the kernel's check of its lists. -/
theorem pm_cL_app {th : Bool} {mt : List pmE} {own nm : String} {cc : ByteArray} : ∀ (A : List (Option pmI)) (n m : Nat) (B : List (Option pmI)), m = n + A.length → pm_cL th mt own nm cc n A = true → pm_cL th mt own nm cc m B = true → pm_cL th mt own nm cc n (A ++ B) = true
  | [], n, m, B, e, _, h => by
    rw [List.length_nil, Nat.add_zero] at e
    rw [← e]
    exact h
  | none :: A, n, m, B, e, h1, h2 => pm_cL_app A (n + 1) m B (by rw [e, List.length_cons]; omega) h1 h2
  | some q :: A, n, m, B, e, h1, h2 => by
    rw [List.cons_append]
    unfold pm_cL at h1 ⊢
    rw [Bool.and_eq_true] at h1 ⊢
    exact ⟨h1.1, pm_cL_app A (n + 1) m B (by rw [e, List.length_cons]; omega) h1.2 h2⟩
theorem pm_cL_rep {th : Bool} {mt : List pmE} {own nm : String} {cc : ByteArray} : ∀ (k n : Nat), pm_cL th mt own nm cc n (List.replicate k none) = true
  | 0, _ => rfl
  | k + 1, n => pm_cL_rep k (n + 1)
theorem lk_0 : pm_cL false pm_MT "AdmissionDeskLaw" "law" code 0 le_0 = true := by decide +kernel
theorem lk_le_1_0 : pm_cL false pm_MT "AdmissionDeskLaw" "law" code 23 le_1_0 = true := by decide +kernel
theorem lk_le_1_1 : pm_cL false pm_MT "AdmissionDeskLaw" "law" code 143 le_1_1 = true := by decide +kernel
theorem lk_le_1_2 : pm_cL false pm_MT "AdmissionDeskLaw" "law" code 263 le_1_2 = true := by decide +kernel
theorem lk_le_1_3 : pm_cL false pm_MT "AdmissionDeskLaw" "law" code 383 le_1_3 = true := by decide +kernel
theorem lk_le_1_4 : pm_cL false pm_MT "AdmissionDeskLaw" "law" code 503 le_1_4 = true := by decide +kernel
theorem lk_le_1_5 : pm_cL false pm_MT "AdmissionDeskLaw" "law" code 623 le_1_5 = true := by decide +kernel
theorem lk_le_1_6 : pm_cL false pm_MT "AdmissionDeskLaw" "law" code 743 le_1_6 = true := by decide +kernel
theorem lk_le_1_7 : pm_cL false pm_MT "AdmissionDeskLaw" "law" code 863 le_1_7 = true := by decide +kernel
theorem lk_le_1_8 : pm_cL false pm_MT "AdmissionDeskLaw" "law" code 983 le_1_8 = true := by decide +kernel
theorem lk_le_1_9 : pm_cL false pm_MT "AdmissionDeskLaw" "law" code 1103 le_1_9 = true := by decide +kernel
theorem lk_le_1_10 : pm_cL false pm_MT "AdmissionDeskLaw" "law" code 1223 le_1_10 = true := by decide +kernel
theorem lk_le_1_11 : pm_cL false pm_MT "AdmissionDeskLaw" "law" code 1343 le_1_11 = true := by decide +kernel
theorem lk_le_1_12 : pm_cL false pm_MT "AdmissionDeskLaw" "law" code 1463 le_1_12 = true := by decide +kernel
theorem lk_le_1_13 : pm_cL false pm_MT "AdmissionDeskLaw" "law" code 1583 le_1_13 = true := by decide +kernel
theorem lk_le_1_14 : pm_cL false pm_MT "AdmissionDeskLaw" "law" code 1703 le_1_14 = true := by decide +kernel
theorem lk_le_1_15 : pm_cL false pm_MT "AdmissionDeskLaw" "law" code 1823 le_1_15 = true := by decide +kernel
theorem lk_le_2_0 : pm_cL false pm_MT "AdmissionDeskLaw" "law" code 1934 le_2_0 = true := by decide +kernel
