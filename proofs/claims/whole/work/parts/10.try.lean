set_option maxRecDepth 100000 in
theorem zz1 : pm_eC false pm_MT pe_X6_get = true := by decide +kernel
set_option maxRecDepth 100000 in
theorem zz2 : pm_eC false pm_MT pe_X2_init = true := by decide +kernel
set_option maxRecDepth 100000 in
theorem zz3 : pm_eC false pm_MT pe_X2_leaveWindow = true := by decide +kernel
theorem zz4 : decide (decode cX2_setting 1 = .ok (.tableswitch 75 0 4 #[35, 43, 51, 59, 67], 35)) = true := by decide +kernel
theorem zz5 : ((#[35, 43, 51, 59, 67] : Array Int).toList.map (fun o => ((1 : Nat) : Int) + o) = [36, 44, 52, 60, 68].map (fun (t : Nat) => (t : Int))) := by decide +kernel
theorem zz6 : nI 0 = 0 := by decide +kernel
theorem zz7 : (4 : Int) + 1 = ((0 + [36, 44, 52, 60, 68].length : Nat) : Int) := by decide +kernel
theorem zz8 : pm_ck false pm_MT "" "" 1 (.tableswitch 75 0 4 #[35, 43, 51, 59, 67], 35, 0, [0, 76, 36, 44, 52, 60, 68]) = true := by decide +kernel
