theorem t_17_214 : pm_ctab.find? (fun r => r.1 == 17 && r.2.1 == 214) = some (17, 214, 1, 177, 1535) := by decide +kernel
