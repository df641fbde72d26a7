theorem u_17_75 : pm_ftab.find? (fun r => r.1 == 17 && r.2.1 == 75) = some (17, 75, 10, 44, 0, 1382) := by decide +kernel
