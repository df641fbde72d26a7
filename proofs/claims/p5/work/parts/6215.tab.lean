theorem u_17_33 : pm_ftab.find? (fun r => r.1 == 17 && r.2.1 == 33) = some (17, 33, 10, 6, 0, 1344) := by decide +kernel
theorem t_17_242 : pm_ctab.find? (fun r => r.1 == 17 && r.2.1 == 242) = some (17, 242, 1, 192, 1595) := by decide +kernel
theorem t_17_173 : pm_ctab.find? (fun r => r.1 == 17 && r.2.1 == 173) = some (17, 173, 2, 174, 1524) := by decide +kernel
theorem t_17_245 : pm_ctab.find? (fun r => r.1 == 17 && r.2.1 == 245) = some (17, 245, 1, 191, 1591) := by decide +kernel
theorem t_17_290 : pm_ctab.find? (fun r => r.1 == 17 && r.2.1 == 290) = some (17, 290, 2, 206, 1651) := by decide +kernel
theorem t_17_251 : pm_ctab.find? (fun r => r.1 == 17 && r.2.1 == 251) = some (17, 251, 1, 195, 1607) := by decide +kernel
theorem t_17_293 : pm_ctab.find? (fun r => r.1 == 17 && r.2.1 == 293) = some (17, 293, 1, 205, 1647) := by decide +kernel
theorem t_17_297 : pm_ctab.find? (fun r => r.1 == 17 && r.2.1 == 297) = some (17, 297, 1, 204, 1643) := by decide +kernel
theorem t_17_287 : pm_ctab.find? (fun r => r.1 == 17 && r.2.1 == 287) = some (17, 287, 1, 208, 1658) := by decide +kernel
theorem t_17_306 : pm_ctab.find? (fun r => r.1 == 17 && r.2.1 == 306) = some (17, 306, 1, 203, 1639) := by decide +kernel
theorem t_17_303 : pm_ctab.find? (fun r => r.1 == 17 && r.2.1 == 303) = some (17, 303, 1, 201, 1631) := by decide +kernel
theorem t_17_309 : pm_ctab.find? (fun r => r.1 == 17 && r.2.1 == 309) = some (17, 309, 1, 207, 1654) := by decide +kernel
theorem u_17_40 : pm_ftab.find? (fun r => r.1 == 17 && r.2.1 == 40) = some (17, 40, 10, 8, 0, 1346) := by decide +kernel
theorem u_17_368 : pm_ftab.find? (fun r => r.1 == 17 && r.2.1 == 368) = some (17, 368, 10, 36, 0, 1374) := by decide +kernel
theorem u_17_371 : pm_ftab.find? (fun r => r.1 == 17 && r.2.1 == 371) = some (17, 371, 10, 38, 0, 1376) := by decide +kernel
theorem u_17_62 : pm_ftab.find? (fun r => r.1 == 17 && r.2.1 == 62) = some (17, 62, 10, 35, 0, 1373) := by decide +kernel
theorem u_17_378 : pm_ftab.find? (fun r => r.1 == 17 && r.2.1 == 378) = some (17, 378, 10, 39, 0, 1377) := by decide +kernel
theorem t_17_374 : pm_ctab.find? (fun r => r.1 == 17 && r.2.1 == 374) = some (17, 374, 1, 249, 1822) := by decide +kernel
