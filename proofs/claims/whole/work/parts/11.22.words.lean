/-! The words of the three exceptions. -/
/-- those that no good word is: they are kept all the same -/
def px_fw : List Cond := [.declares (Bundle.initS "java/lang/RuntimeException"), .declares (Bundle.initS "java/lang/Exception"), .declares (Bundle.initS Bundle.tN), .castable "java/lang/IllegalArgumentException" "java/lang/IllegalArgumentException", .castable "java/util/NoSuchElementException" "java/util/NoSuchElementException", .castable "java/lang/IllegalStateException" "java/lang/IllegalStateException"]
theorem px_fw_f : ∀ w ∈ px_fw, w.faceAtom = true ∧ w.onTables = true := by decide +kernel
theorem px_fw_mv {w : Cond} (hw : w ∈ px_fw) {s U : State} (hvm : s.vm.Alike U.vm) (h : va_Nw w s) : va_Nw w U := va_tabs (u := s.setVm U.vm) (px_fw_f w hw).2 rfl (Cond.faceAtom_setVm hvm w (px_fw_f w hw).1 h)
theorem px_all {ws : List Cond} {js : List Nat} (h : (decide (ws.length = js.length) && (ws.zip js).all (fun q => pm_w q.2 q.1 || decide (q.1 ∈ px_fw))) = true) : ∀ w ∈ ws, w ∈ pm_WT ∨ w ∈ px_fw := by
  rw [Bool.and_eq_true, decide_eq_true_eq] at h
  intro w hw
  obtain ⟨i, hi, e⟩ := List.mem_iff_getElem.mp hw
  have hj : i < js.length := by omega
  have := List.all_eq_true.mp h.2 (w, js[i]) (by rw [List.mem_iff_getElem]; exact ⟨i, by rw [List.length_zip]; omega, by rw [List.getElem_zip, e]⟩)
  rw [Bool.or_eq_true, decide_eq_true_eq] at this
  exact this.imp pm_w_in id
set_option maxRecDepth 100000 in
theorem px_w0 : ∀ w ∈ (px_own "AdmissionDesk" 80 "java/lang/IllegalArgumentException" "java/lang/RuntimeException" 7 prog_19_method_2_code ["java/lang/Exception"]).filter vx_no, w ∈ pm_WT ∨ w ∈ px_fw := px_all (js := [1018, 4171, 4180, 4184, 4187, 4189, 4172, 4173, 1032, 1033, 4174, 4179, 4185, 4205, 4161, 4206, 4163, 4207, 4165, 4175, 4177, 4167, 4201, 4202, 4204, 4167, 4192, 4193, 4194, 4195, 4153, 4195, 4196, 4197, 4198, 4155, 4198, 4199, 4200, 4201, 4157, 4191, 4150, 4151, 4158, 4159, 4160, 4162, 4164, 4166, 4170, 4169, 4168]) (by decide +kernel)
set_option maxRecDepth 100000 in
theorem px_w1 : ∀ w ∈ (px_own "AdmissionDesk" 138 "java/util/NoSuchElementException" "java/lang/RuntimeException" 13 prog_30_method_4_code ["java/lang/Exception"]).filter vx_no, w ∈ pm_WT ∨ w ∈ px_fw := px_all (js := [1018, 4171, 4180, 4184, 4187, 4189, 4172, 4173, 1032, 1033, 4174, 4179, 4185, 4205, 4161, 4206, 4163, 4207, 4165, 4175, 4177, 4167, 4201, 4202, 4204, 4167, 5072, 5073, 5074, 4195, 4153, 4195, 4196, 4197, 4198, 4155, 4198, 4199, 4200, 4201, 4157, 5071, 5062, 5063, 5064, 4183, 5065, 5066, 5067, 5068, 4170, 4169, 5069]) (by decide +kernel)
set_option maxRecDepth 100000 in
theorem px_w2 : ∀ w ∈ (px_own "AdmissionDesk" 303 "java/lang/IllegalStateException" "java/lang/RuntimeException" 7 prog_20_method_2_code ["java/lang/Exception"]).filter vx_no, w ∈ pm_WT ∨ w ∈ px_fw := px_all (js := [1018, 4171, 4180, 4184, 4187, 4189, 4172, 4173, 1032, 1033, 4174, 4179, 4185, 4205, 4161, 4206, 4163, 4207, 4165, 4175, 4177, 4167, 4201, 4202, 4204, 4167, 6059, 6060, 6061, 4195, 4153, 4195, 4196, 4197, 4198, 4155, 4198, 4199, 4200, 4201, 4157, 6058, 6049, 6050, 6051, 4182, 6052, 6053, 6054, 6055, 4170, 4169, 6056]) (by decide +kernel)
