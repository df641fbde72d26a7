theorem u_17_387 : pm_ftab.find? (fun r => r.1 == 17 && r.2.1 == 387) = some (17, 387, 10, 40, 0, 1378) := by decide +kernel
theorem t_17_170 : pm_ctab.find? (fun r => r.1 == 17 && r.2.1 == 170) = some (17, 170, 1, 163, 1483) := by decide +kernel
theorem t_17_198 : pm_ctab.find? (fun r => r.1 == 17 && r.2.1 == 198) = some (17, 198, 1, 168, 1501) := by decide +kernel
theorem t_17_393 : pm_ctab.find? (fun r => r.1 == 17 && r.2.1 == 393) = some (17, 393, 1, 250, 1826) := by decide +kernel
theorem t_17_164 : pm_ctab.find? (fun r => r.1 == 17 && r.2.1 == 164) = some (17, 164, 1, 181, 1551) := by decide +kernel
theorem t_17_167 : pm_ctab.find? (fun r => r.1 == 17 && r.2.1 == 167) = some (17, 167, 1, 171, 1512) := by decide +kernel
theorem t_17_390 : pm_ctab.find? (fun r => r.1 == 17 && r.2.1 == 390) = some (17, 390, 1, 248, 1818) := by decide +kernel
