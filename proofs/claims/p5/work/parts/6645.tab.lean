theorem u_17_177 : pm_ftab.find? (fun r => r.1 == 17 && r.2.1 == 177) = some (17, 177, 10, 18, 0, 1356) := by decide +kernel
