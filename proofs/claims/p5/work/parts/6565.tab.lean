theorem t_17_211 : pm_ctab.find? (fun r => r.1 == 17 && r.2.1 == 211) = some (17, 211, 1, 176, 1531) := by decide +kernel
theorem t_17_208 : pm_ctab.find? (fun r => r.1 == 17 && r.2.1 == 208) = some (17, 208, 1, 175, 1527) := by decide +kernel
