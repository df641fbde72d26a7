theorem u_17_69 : pm_ftab.find? (fun r => r.1 == 17 && r.2.1 == 69) = some (17, 69, 10, 42, 0, 1380) := by decide +kernel
theorem u_17_72 : pm_ftab.find? (fun r => r.1 == 17 && r.2.1 == 72) = some (17, 72, 10, 43, 0, 1381) := by decide +kernel
