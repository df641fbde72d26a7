theorem u_17_151 : pm_ftab.find? (fun r => r.1 == 17 && r.2.1 == 151) = some (17, 151, 10, 14, 0, 1352) := by decide +kernel
theorem t_17_399 : pm_ctab.find? (fun r => r.1 == 17 && r.2.1 == 399) = some (17, 399, 1, 252, 1834) := by decide +kernel
theorem u_17_161 : pm_ftab.find? (fun r => r.1 == 17 && r.2.1 == 161) = some (17, 161, 10, 16, 0, 1354) := by decide +kernel
theorem u_17_141 : pm_ftab.find? (fun r => r.1 == 17 && r.2.1 == 141) = some (17, 141, 10, 11, 0, 1349) := by decide +kernel
theorem t_17_396 : pm_ctab.find? (fun r => r.1 == 17 && r.2.1 == 396) = some (17, 396, 1, 251, 1830) := by decide +kernel
theorem u_17_384 : pm_ftab.find? (fun r => r.1 == 17 && r.2.1 == 384) = some (17, 384, 10, 37, 0, 1375) := by decide +kernel
