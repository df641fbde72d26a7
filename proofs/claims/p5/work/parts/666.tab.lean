theorem t_17_359 : pm_ctab.find? (fun r => r.1 == 17 && r.2.1 == 359) = some (17, 359, 1, 244, 1802) := by decide +kernel
theorem u_17_356 : pm_ftab.find? (fun r => r.1 == 17 && r.2.1 == 356) = some (17, 356, 10, 32, 0, 1370) := by decide +kernel
theorem u_17_59 : pm_ftab.find? (fun r => r.1 == 17 && r.2.1 == 59) = some (17, 59, 10, 33, 0, 1371) := by decide +kernel
theorem t_17_362 : pm_ctab.find? (fun r => r.1 == 17 && r.2.1 == 362) = some (17, 362, 1, 245, 1806) := by decide +kernel
