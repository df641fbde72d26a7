theorem u_17_43 : pm_ftab.find? (fun r => r.1 == 17 && r.2.1 == 43) = some (17, 43, 10, 9, 0, 1347) := by decide +kernel
theorem u_17_154 : pm_ftab.find? (fun r => r.1 == 17 && r.2.1 == 154) = some (17, 154, 10, 17, 0, 1355) := by decide +kernel
theorem u_17_37 : pm_ftab.find? (fun r => r.1 == 17 && r.2.1 == 37) = some (17, 37, 10, 7, 0, 1345) := by decide +kernel
theorem t_17_188 : pm_ctab.find? (fun r => r.1 == 17 && r.2.1 == 188) = some (17, 188, 1, 179, 1543) := by decide +kernel
