theorem t_17_223 : pm_ctab.find? (fun r => r.1 == 17 && r.2.1 == 223) = some (17, 223, 1, 167, 1497) := by decide +kernel
theorem t_17_226 : pm_ctab.find? (fun r => r.1 == 17 && r.2.1 == 226) = some (17, 226, 1, 180, 1547) := by decide +kernel
theorem u_17_220 : pm_ftab.find? (fun r => r.1 == 17 && r.2.1 == 220) = some (17, 220, 10, 19, 0, 1357) := by decide +kernel
theorem t_17_128 : pm_ctab.find? (fun r => r.1 == 17 && r.2.1 == 128) = some (17, 128, 1, 160, 1334) := by decide +kernel
