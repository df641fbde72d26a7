def m_182 : pM := (⟨"BreathingHillModel", "fault", "()I"⟩, 1558, 1, some (FieldType.int), 17, 0, false, 10, 103, 1556, 1557)
set_option maxRecDepth 100000 in
theorem m_182_ok : pm_tab[182]? = some m_182 := rfl
theorem e_182 : ∀ q ∈ d_182, decode m_182.code q.1 = .ok (q.2.1, q.2.2) := y_dec d_182_ok m_182_ok
def m_53 : pM := (⟨"BreathingHill", "fault", "()I"⟩, 719, 1, some (FieldType.int), 0, 0, false, 9, 91, 717, 718)
set_option maxRecDepth 100000 in
theorem m_53_ok : pm_tab[53]? = some m_53 := rfl
theorem e_53 : ∀ q ∈ d_53, decode m_53.code q.1 = .ok (q.2.1, q.2.2) := y_dec d_53_ok m_53_ok
def m_183 : pM := (⟨"BreathingHillModel", "thing", "(II)I"⟩, 1562, 4, some (FieldType.int), 17, 2, false, 10, 103, 1560, 1561)
set_option maxRecDepth 100000 in
theorem m_183_ok : pm_tab[183]? = some m_183 := rfl
theorem e_183 : ∀ q ∈ d_183, decode m_183.code q.1 = .ok (q.2.1, q.2.2) := y_dec d_183_ok m_183_ok
def m_186 : pM := (⟨"BreathingHillModel", "mill", "(II)I"⟩, 1574, 3, some (FieldType.int), 17, 2, false, 10, 103, 1572, 1573)
set_option maxRecDepth 100000 in
theorem m_186_ok : pm_tab[186]? = some m_186 := rfl
theorem e_186 : ∀ q ∈ d_186, decode m_186.code q.1 = .ok (q.2.1, q.2.2) := y_dec d_186_ok m_186_ok
def m_54 : pM := (⟨"BreathingHill", "mill", "(II)I"⟩, 723, 4, some (FieldType.int), 0, 2, false, 9, 91, 721, 722)
set_option maxRecDepth 100000 in
theorem m_54_ok : pm_tab[54]? = some m_54 := rfl
theorem e_54 : ∀ q ∈ d_54, decode m_54.code q.1 = .ok (q.2.1, q.2.2) := y_dec d_54_ok m_54_ok
def m_187 : pM := (⟨"BreathingHillModel", "man", "(II)I"⟩, 1578, 3, some (FieldType.int), 17, 2, false, 10, 103, 1576, 1577)
set_option maxRecDepth 100000 in
theorem m_187_ok : pm_tab[187]? = some m_187 := rfl
theorem e_187 : ∀ q ∈ d_187, decode m_187.code q.1 = .ok (q.2.1, q.2.2) := y_dec d_187_ok m_187_ok
def m_56 : pM := (⟨"BreathingHill", "man", "(II)I"⟩, 731, 4, some (FieldType.int), 0, 2, false, 9, 91, 729, 730)
set_option maxRecDepth 100000 in
theorem m_56_ok : pm_tab[56]? = some m_56 := rfl
theorem e_56 : ∀ q ∈ d_56, decode m_56.code q.1 = .ok (q.2.1, q.2.2) := y_dec d_56_ok m_56_ok
def m_189 : pM := (⟨"BreathingHillModel", "passage", "(II)I"⟩, 1586, 5, some (FieldType.int), 17, 2, false, 10, 103, 1584, 1585)
set_option maxRecDepth 100000 in
theorem m_189_ok : pm_tab[189]? = some m_189 := rfl
theorem e_189 : ∀ q ∈ d_189, decode m_189.code q.1 = .ok (q.2.1, q.2.2) := y_dec d_189_ok m_189_ok
def m_58 : pM := (⟨"BreathingHill", "passage", "(II)I"⟩, 739, 4, some (FieldType.int), 0, 2, false, 9, 91, 737, 738)
set_option maxRecDepth 100000 in
theorem m_58_ok : pm_tab[58]? = some m_58 := rfl
theorem e_58 : ∀ q ∈ d_58, decode m_58.code q.1 = .ok (q.2.1, q.2.2) := y_dec d_58_ok m_58_ok
def m_196 : pM := (⟨"BreathingHillModel", "now", "(I)I"⟩, 1614, 2, some (FieldType.int), 17, 1, false, 10, 103, 1612, 1613)
set_option maxRecDepth 100000 in
theorem m_196_ok : pm_tab[196]? = some m_196 := rfl
theorem e_196 : ∀ q ∈ d_196, decode m_196.code q.1 = .ok (q.2.1, q.2.2) := y_dec d_196_ok m_196_ok
def m_61 : pM := (⟨"BreathingHill", "now", "(I)I"⟩, 751, 2, some (FieldType.int), 0, 1, false, 9, 91, 749, 750)
set_option maxRecDepth 100000 in
theorem m_61_ok : pm_tab[61]? = some m_61 := rfl
theorem e_61 : ∀ q ∈ d_61, decode m_61.code q.1 = .ok (q.2.1, q.2.2) := y_dec d_61_ok m_61_ok
def m_190 : pM := (⟨"BreathingHillModel", "air", "(II)I"⟩, 1590, 3, some (FieldType.int), 17, 2, false, 10, 103, 1588, 1589)
set_option maxRecDepth 100000 in
theorem m_190_ok : pm_tab[190]? = some m_190 := rfl
theorem e_190 : ∀ q ∈ d_190, decode m_190.code q.1 = .ok (q.2.1, q.2.2) := y_dec d_190_ok m_190_ok
def m_67 : pM := (⟨"BreathingHill", "air", "(II)I"⟩, 774, 3, some (FieldType.int), 0, 2, false, 9, 91, 772, 773)
set_option maxRecDepth 100000 in
theorem m_67_ok : pm_tab[67]? = some m_67 := rfl
theorem e_67 : ∀ q ∈ d_67, decode m_67.code q.1 = .ok (q.2.1, q.2.2) := y_dec d_67_ok m_67_ok
def m_193 : pM := (⟨"BreathingHillModel", "force", "(II)I"⟩, 1602, 3, some (FieldType.int), 17, 2, false, 10, 103, 1600, 1601)
set_option maxRecDepth 100000 in
theorem m_193_ok : pm_tab[193]? = some m_193 := rfl
theorem e_193 : ∀ q ∈ d_193, decode m_193.code q.1 = .ok (q.2.1, q.2.2) := y_dec d_193_ok m_193_ok
def m_69 : pM := (⟨"BreathingHill", "force", "(II)I"⟩, 782, 3, some (FieldType.int), 0, 2, false, 9, 91, 780, 781)
set_option maxRecDepth 100000 in
theorem m_69_ok : pm_tab[69]? = some m_69 := rfl
theorem e_69 : ∀ q ∈ d_69, decode m_69.code q.1 = .ok (q.2.1, q.2.2) := y_dec d_69_ok m_69_ok
def m_198 : pM := (⟨"BreathingHillModel", "tie", "(II)I"⟩, 1622, 4, some (FieldType.int), 17, 2, false, 10, 103, 1620, 1621)
set_option maxRecDepth 100000 in
theorem m_198_ok : pm_tab[198]? = some m_198 := rfl
theorem e_198 : ∀ q ∈ d_198, decode m_198.code q.1 = .ok (q.2.1, q.2.2) := y_dec d_198_ok m_198_ok
def m_73 : pM := (⟨"BreathingHill", "tie", "(II)I"⟩, 800, 3, some (FieldType.int), 0, 2, false, 9, 91, 798, 799)
set_option maxRecDepth 100000 in
theorem m_73_ok : pm_tab[73]? = some m_73 := rfl
theorem e_73 : ∀ q ∈ d_73, decode m_73.code q.1 = .ok (q.2.1, q.2.2) := y_dec d_73_ok m_73_ok
def m_79 : pM := (⟨"BreathingHill", "walk", "(II)I"⟩, 824, 3, some (FieldType.int), 0, 2, false, 9, 91, 822, 823)
set_option maxRecDepth 100000 in
theorem m_79_ok : pm_tab[79]? = some m_79 := rfl
theorem e_79 : ∀ q ∈ d_79, decode m_79.code q.1 = .ok (q.2.1, q.2.2) := y_dec d_79_ok m_79_ok
def m_212 : pM := (⟨"BreathingHillModel", "cough", "()I"⟩, 1677, 1, some (FieldType.int), 17, 0, false, 10, 103, 1675, 1676)
set_option maxRecDepth 100000 in
theorem m_212_ok : pm_tab[212]? = some m_212 := rfl
theorem e_212 : ∀ q ∈ d_212, decode m_212.code q.1 = .ok (q.2.1, q.2.2) := y_dec d_212_ok m_212_ok
def m_93 : pM := (⟨"BreathingHill", "cough", "()I"⟩, 900, 1, some (FieldType.int), 0, 0, false, 9, 91, 898, 899)
set_option maxRecDepth 100000 in
theorem m_93_ok : pm_tab[93]? = some m_93 := rfl
theorem e_93 : ∀ q ∈ d_93, decode m_93.code q.1 = .ok (q.2.1, q.2.2) := y_dec d_93_ok m_93_ok
def m_214 : pM := (⟨"BreathingHillModel", "hours", "(I)I"⟩, 1685, 2, some (FieldType.int), 17, 1, false, 10, 103, 1683, 1684)
set_option maxRecDepth 100000 in
theorem m_214_ok : pm_tab[214]? = some m_214 := rfl
theorem e_214 : ∀ q ∈ d_214, decode m_214.code q.1 = .ok (q.2.1, q.2.2) := y_dec d_214_ok m_214_ok
def m_95 : pM := (⟨"BreathingHill", "hours", "(I)I"⟩, 910, 2, some (FieldType.int), 0, 1, false, 9, 91, 908, 909)
set_option maxRecDepth 100000 in
theorem m_95_ok : pm_tab[95]? = some m_95 := rfl
theorem e_95 : ∀ q ∈ d_95, decode m_95.code q.1 = .ok (q.2.1, q.2.2) := y_dec d_95_ok m_95_ok
def m_216 : pM := (⟨"BreathingHillModel", "undo", "()I"⟩, 1693, 2, some (FieldType.int), 17, 0, false, 10, 103, 1691, 1692)
set_option maxRecDepth 100000 in
theorem m_216_ok : pm_tab[216]? = some m_216 := rfl
theorem e_216 : ∀ q ∈ d_216, decode m_216.code q.1 = .ok (q.2.1, q.2.2) := y_dec d_216_ok m_216_ok
def m_103 : pM := (⟨"BreathingHill", "undo", "()I"⟩, 945, 1, some (FieldType.int), 0, 0, false, 9, 91, 943, 944)
set_option maxRecDepth 100000 in
theorem m_103_ok : pm_tab[103]? = some m_103 := rfl
theorem e_103 : ∀ q ∈ d_103, decode m_103.code q.1 = .ok (q.2.1, q.2.2) := y_dec d_103_ok m_103_ok
def m_217 : pM := (⟨"BreathingHillModel", "letter", "(IIII)I"⟩, 1697, 5, some (FieldType.int), 17, 4, false, 10, 103, 1695, 1696)
set_option maxRecDepth 100000 in
theorem m_217_ok : pm_tab[217]? = some m_217 := rfl
theorem e_217 : ∀ q ∈ d_217, decode m_217.code q.1 = .ok (q.2.1, q.2.2) := y_dec d_217_ok m_217_ok
def m_104 : pM := (⟨"BreathingHill", "letter", "(IIII)I"⟩, 949, 5, some (FieldType.int), 0, 4, false, 9, 91, 947, 948)
set_option maxRecDepth 100000 in
theorem m_104_ok : pm_tab[104]? = some m_104 := rfl
theorem e_104 : ∀ q ∈ d_104, decode m_104.code q.1 = .ok (q.2.1, q.2.2) := y_dec d_104_ok m_104_ok
def m_219 : pM := (⟨"BreathingHillModel", "heaviest", "(IIII)I"⟩, 1705, 7, some (FieldType.int), 17, 4, false, 10, 103, 1703, 1704)
set_option maxRecDepth 100000 in
theorem m_219_ok : pm_tab[219]? = some m_219 := rfl
theorem e_219 : ∀ q ∈ d_219, decode m_219.code q.1 = .ok (q.2.1, q.2.2) := y_dec d_219_ok m_219_ok
def m_107 : pM := (⟨"BreathingHill", "heaviest", "(IIII)I"⟩, 963, 7, some (FieldType.int), 0, 4, false, 9, 91, 961, 962)
set_option maxRecDepth 100000 in
theorem m_107_ok : pm_tab[107]? = some m_107 := rfl
theorem e_107 : ∀ q ∈ d_107, decode m_107.code q.1 = .ok (q.2.1, q.2.2) := y_dec d_107_ok m_107_ok
def m_220 : pM := (⟨"BreathingHillModel", "best", "(III)I"⟩, 1709, 8, some (FieldType.int), 17, 3, false, 10, 103, 1707, 1708)
set_option maxRecDepth 100000 in
theorem m_220_ok : pm_tab[220]? = some m_220 := rfl
theorem e_220 : ∀ q ∈ d_220, decode m_220.code q.1 = .ok (q.2.1, q.2.2) := y_dec d_220_ok m_220_ok
def m_108 : pM := (⟨"BreathingHill", "best", "(III)I"⟩, 967, 9, some (FieldType.int), 0, 3, false, 9, 91, 965, 966)
set_option maxRecDepth 100000 in
theorem m_108_ok : pm_tab[108]? = some m_108 := rfl
theorem e_108 : ∀ q ∈ d_108, decode m_108.code q.1 = .ok (q.2.1, q.2.2) := y_dec d_108_ok m_108_ok
def m_221 : pM := (⟨"BreathingHillModel", "soonest", "(II)I"⟩, 1713, 3, some (FieldType.int), 17, 2, false, 10, 103, 1711, 1712)
set_option maxRecDepth 100000 in
theorem m_221_ok : pm_tab[221]? = some m_221 := rfl
theorem e_221 : ∀ q ∈ d_221, decode m_221.code q.1 = .ok (q.2.1, q.2.2) := y_dec d_221_ok m_221_ok
def m_109 : pM := (⟨"BreathingHill", "soonest", "(II)I"⟩, 971, 3, some (FieldType.int), 0, 2, false, 9, 91, 969, 970)
set_option maxRecDepth 100000 in
theorem m_109_ok : pm_tab[109]? = some m_109 := rfl
theorem e_109 : ∀ q ∈ d_109, decode m_109.code q.1 = .ok (q.2.1, q.2.2) := y_dec d_109_ok m_109_ok
def m_222 : pM := (⟨"BreathingHillModel", "reach", "(II)I"⟩, 1717, 5, some (FieldType.int), 17, 2, false, 10, 103, 1715, 1716)
set_option maxRecDepth 100000 in
theorem m_222_ok : pm_tab[222]? = some m_222 := rfl
theorem e_222 : ∀ q ∈ d_222, decode m_222.code q.1 = .ok (q.2.1, q.2.2) := y_dec d_222_ok m_222_ok
def m_110 : pM := (⟨"BreathingHill", "reach", "(II)I"⟩, 976, 8, some (FieldType.int), 0, 2, false, 9, 91, 974, 975)
set_option maxRecDepth 100000 in
theorem m_110_ok : pm_tab[110]? = some m_110 := rfl
theorem e_110 : ∀ q ∈ d_110, decode m_110.code q.1 = .ok (q.2.1, q.2.2) := y_dec d_110_ok m_110_ok
def m_223 : pM := (⟨"BreathingHillModel", "dry", "(III)I"⟩, 1721, 6, some (FieldType.int), 17, 3, false, 10, 103, 1719, 1720)
set_option maxRecDepth 100000 in
theorem m_223_ok : pm_tab[223]? = some m_223 := rfl
theorem e_223 : ∀ q ∈ d_223, decode m_223.code q.1 = .ok (q.2.1, q.2.2) := y_dec d_223_ok m_223_ok
def m_111 : pM := (⟨"BreathingHill", "dry", "(III)I"⟩, 981, 6, some (FieldType.int), 0, 3, false, 9, 91, 979, 980)
set_option maxRecDepth 100000 in
theorem m_111_ok : pm_tab[111]? = some m_111 := rfl
theorem e_111 : ∀ q ∈ d_111, decode m_111.code q.1 = .ok (q.2.1, q.2.2) := y_dec d_111_ok m_111_ok
def m_227 : pM := (⟨"BreathingHillModel", "ties", "(II)I"⟩, 1737, 6, some (FieldType.int), 17, 2, false, 10, 103, 1735, 1736)
set_option maxRecDepth 100000 in
theorem m_227_ok : pm_tab[227]? = some m_227 := rfl
theorem e_227 : ∀ q ∈ d_227, decode m_227.code q.1 = .ok (q.2.1, q.2.2) := y_dec d_227_ok m_227_ok
def m_115 : pM := (⟨"BreathingHill", "ties", "(II)I"⟩, 998, 6, some (FieldType.int), 0, 2, false, 9, 91, 996, 997)
set_option maxRecDepth 100000 in
theorem m_115_ok : pm_tab[115]? = some m_115 := rfl
theorem e_115 : ∀ q ∈ d_115, decode m_115.code q.1 = .ok (q.2.1, q.2.2) := y_dec d_115_ok m_115_ok
def m_229 : pM := (⟨"BreathingHillModel", "turn", "(I)I"⟩, 1745, 4, some (FieldType.int), 17, 1, false, 10, 103, 1743, 1744)
set_option maxRecDepth 100000 in
theorem m_229_ok : pm_tab[229]? = some m_229 := rfl
theorem e_229 : ∀ q ∈ d_229, decode m_229.code q.1 = .ok (q.2.1, q.2.2) := y_dec d_229_ok m_229_ok
def m_118 : pM := (⟨"BreathingHill", "turn", "(I)I"⟩, 1011, 4, some (FieldType.int), 0, 1, false, 9, 91, 1009, 1010)
set_option maxRecDepth 100000 in
theorem m_118_ok : pm_tab[118]? = some m_118 := rfl
theorem e_118 : ∀ q ∈ d_118, decode m_118.code q.1 = .ok (q.2.1, q.2.2) := y_dec d_118_ok m_118_ok
def m_230 : pM := (⟨"BreathingHillModel", "guard", "(I)I"⟩, 1749, 7, some (FieldType.int), 17, 1, false, 10, 103, 1747, 1748)
set_option maxRecDepth 100000 in
theorem m_230_ok : pm_tab[230]? = some m_230 := rfl
theorem e_230 : ∀ q ∈ d_230, decode m_230.code q.1 = .ok (q.2.1, q.2.2) := y_dec d_230_ok m_230_ok
def m_119 : pM := (⟨"BreathingHill", "guard", "(I)I"⟩, 1015, 7, some (FieldType.int), 0, 1, false, 9, 91, 1013, 1014)
set_option maxRecDepth 100000 in
theorem m_119_ok : pm_tab[119]? = some m_119 := rfl
theorem e_119 : ∀ q ∈ d_119, decode m_119.code q.1 = .ok (q.2.1, q.2.2) := y_dec d_119_ok m_119_ok
def m_231 : pM := (⟨"BreathingHillModel", "prices", "()I"⟩, 1753, 5, some (FieldType.int), 17, 0, false, 10, 103, 1751, 1752)
set_option maxRecDepth 100000 in
theorem m_231_ok : pm_tab[231]? = some m_231 := rfl
theorem e_231 : ∀ q ∈ d_231, decode m_231.code q.1 = .ok (q.2.1, q.2.2) := y_dec d_231_ok m_231_ok
def m_121 : pM := (⟨"BreathingHill", "prices", "()I"⟩, 1024, 3, some (FieldType.int), 0, 0, false, 9, 91, 1022, 1023)
set_option maxRecDepth 100000 in
theorem m_121_ok : pm_tab[121]? = some m_121 := rfl
theorem e_121 : ∀ q ∈ d_121, decode m_121.code q.1 = .ok (q.2.1, q.2.2) := y_dec d_121_ok m_121_ok
def m_235 : pM := (⟨"BreathingHillModel", "price", "(I)I"⟩, 1768, 2, some (FieldType.int), 17, 1, false, 10, 103, 1766, 1767)
set_option maxRecDepth 100000 in
theorem m_235_ok : pm_tab[235]? = some m_235 := rfl
theorem e_235 : ∀ q ∈ d_235, decode m_235.code q.1 = .ok (q.2.1, q.2.2) := y_dec d_235_ok m_235_ok
def m_123 : pM := (⟨"BreathingHill", "price", "(I)I"⟩, 1034, 2, some (FieldType.int), 0, 1, false, 9, 91, 1032, 1033)
set_option maxRecDepth 100000 in
theorem m_123_ok : pm_tab[123]? = some m_123 := rfl
theorem e_123 : ∀ q ∈ d_123, decode m_123.code q.1 = .ok (q.2.1, q.2.2) := y_dec d_123_ok m_123_ok
def m_236 : pM := (⟨"BreathingHillModel", "later", "(II)I"⟩, 1772, 4, some (FieldType.int), 17, 2, false, 10, 103, 1770, 1771)
set_option maxRecDepth 100000 in
theorem m_236_ok : pm_tab[236]? = some m_236 := rfl
theorem e_236 : ∀ q ∈ d_236, decode m_236.code q.1 = .ok (q.2.1, q.2.2) := y_dec d_236_ok m_236_ok
def m_124 : pM := (⟨"BreathingHill", "later", "(II)I"⟩, 1038, 4, some (FieldType.int), 0, 2, false, 9, 91, 1036, 1037)
set_option maxRecDepth 100000 in
theorem m_124_ok : pm_tab[124]? = some m_124 := rfl
theorem e_124 : ∀ q ∈ d_124, decode m_124.code q.1 = .ok (q.2.1, q.2.2) := y_dec d_124_ok m_124_ok
def m_237 : pM := (⟨"BreathingHillModel", "meet", "(II)I"⟩, 1776, 5, some (FieldType.int), 17, 2, false, 10, 103, 1774, 1775)
set_option maxRecDepth 100000 in
theorem m_237_ok : pm_tab[237]? = some m_237 := rfl
theorem e_237 : ∀ q ∈ d_237, decode m_237.code q.1 = .ok (q.2.1, q.2.2) := y_dec d_237_ok m_237_ok
def m_125 : pM := (⟨"BreathingHill", "meet", "(II)I"⟩, 1042, 4, some (FieldType.int), 0, 2, false, 9, 91, 1040, 1041)
set_option maxRecDepth 100000 in
theorem m_125_ok : pm_tab[125]? = some m_125 := rfl
theorem e_125 : ∀ q ∈ d_125, decode m_125.code q.1 = .ok (q.2.1, q.2.2) := y_dec d_125_ok m_125_ok
def m_238 : pM := (⟨"BreathingHillModel", "drawn", "(II)I"⟩, 1780, 3, some (FieldType.int), 17, 2, false, 10, 103, 1778, 1779)
set_option maxRecDepth 100000 in
theorem m_238_ok : pm_tab[238]? = some m_238 := rfl
theorem e_238 : ∀ q ∈ d_238, decode m_238.code q.1 = .ok (q.2.1, q.2.2) := y_dec d_238_ok m_238_ok
def m_98 : pM := (⟨"BreathingHill", "drawn", "(II)I"⟩, 922, 3, some (FieldType.int), 0, 2, false, 9, 91, 920, 921)
set_option maxRecDepth 100000 in
theorem m_98_ok : pm_tab[98]? = some m_98 := rfl
theorem e_98 : ∀ q ∈ d_98, decode m_98.code q.1 = .ok (q.2.1, q.2.2) := y_dec d_98_ok m_98_ok
def m_241 : pM := (⟨"BreathingHillModel", "odds", "(III)I"⟩, 1793, 6, some (FieldType.int), 17, 3, false, 10, 103, 1791, 1792)
set_option maxRecDepth 100000 in
theorem m_241_ok : pm_tab[241]? = some m_241 := rfl
theorem e_241 : ∀ q ∈ d_241, decode m_241.code q.1 = .ok (q.2.1, q.2.2) := y_dec d_241_ok m_241_ok
def m_127 : pM := (⟨"BreathingHill", "odds", "(III)I"⟩, 1050, 6, some (FieldType.int), 0, 3, false, 9, 91, 1048, 1049)
set_option maxRecDepth 100000 in
theorem m_127_ok : pm_tab[127]? = some m_127 := rfl
theorem e_127 : ∀ q ∈ d_127, decode m_127.code q.1 = .ok (q.2.1, q.2.2) := y_dec d_127_ok m_127_ok
def m_246 : pM := (⟨"BreathingHillModel", "logged", "(I)I"⟩, 1813, 2, some (FieldType.int), 17, 1, false, 10, 103, 1811, 1812)
set_option maxRecDepth 100000 in
theorem m_246_ok : pm_tab[246]? = some m_246 := rfl
theorem e_246 : ∀ q ∈ d_246, decode m_246.code q.1 = .ok (q.2.1, q.2.2) := y_dec d_246_ok m_246_ok
def m_135 : pM := (⟨"BreathingHill", "logged", "(I)I"⟩, 1108, 2, some (FieldType.int), 0, 1, false, 9, 91, 1106, 1107)
set_option maxRecDepth 100000 in
theorem m_135_ok : pm_tab[135]? = some m_135 := rfl
theorem e_135 : ∀ q ∈ d_135, decode m_135.code q.1 = .ok (q.2.1, q.2.2) := y_dec d_135_ok m_135_ok
def m_254 : pM := (⟨"BreathingHillModel", "said", "(I)I"⟩, 1845, 4, some (FieldType.int), 17, 1, false, 10, 103, 1843, 1844)
set_option maxRecDepth 100000 in
theorem m_254_ok : pm_tab[254]? = some m_254 := rfl
theorem e_254 : ∀ q ∈ d_254, decode m_254.code q.1 = .ok (q.2.1, q.2.2) := y_dec d_254_ok m_254_ok
def m_146 : pM := (⟨"BreathingHill", "said", "(I)I"⟩, 1188, 5, some (FieldType.int), 0, 1, false, 9, 91, 1186, 1187)
set_option maxRecDepth 100000 in
theorem m_146_ok : pm_tab[146]? = some m_146 := rfl
theorem e_146 : ∀ q ∈ d_146, decode m_146.code q.1 = .ok (q.2.1, q.2.2) := y_dec d_146_ok m_146_ok
def m_153 : pM := (⟨"BreathingHill", "image", "(I)Z"⟩, 1213, 2, some (FieldType.boolean), 0, 1, false, 9, 91, 1211, 1212)
set_option maxRecDepth 100000 in
theorem m_153_ok : pm_tab[153]? = some m_153 := rfl
theorem e_153 : ∀ q ∈ d_153, decode m_153.code q.1 = .ok (q.2.1, q.2.2) := y_dec d_153_ok m_153_ok
def m_154 : pM := (⟨"BreathingHill", "restore", "(I)Z"⟩, 1217, 2, some (FieldType.boolean), 0, 1, false, 9, 91, 1215, 1216)
set_option maxRecDepth 100000 in
theorem m_154_ok : pm_tab[154]? = some m_154 := rfl
theorem e_154 : ∀ q ∈ d_154, decode m_154.code q.1 = .ok (q.2.1, q.2.2) := y_dec d_154_ok m_154_ok
def m_259 : pM := (⟨"BreathingHillModel", "count", "(I)I"⟩, 1865, 2, some (FieldType.int), 17, 1, false, 10, 103, 1863, 1864)
set_option maxRecDepth 100000 in
theorem m_259_ok : pm_tab[259]? = some m_259 := rfl
theorem e_259 : ∀ q ∈ d_259, decode m_259.code q.1 = .ok (q.2.1, q.2.2) := y_dec d_259_ok m_259_ok
def m_72 : pM := (⟨"BreathingHill", "count", "(I)I"⟩, 795, 2, some (FieldType.int), 0, 1, false, 9, 91, 793, 794)
set_option maxRecDepth 100000 in
theorem m_72_ok : pm_tab[72]? = some m_72 := rfl
theorem e_72 : ∀ q ∈ d_72, decode m_72.code q.1 = .ok (q.2.1, q.2.2) := y_dec d_72_ok m_72_ok
def m_14 : pM := (⟨"BreathingHill", "end", "(I)Z"⟩, 531, 2, some (FieldType.boolean), 0, 1, false, 9, 91, 529, 530)
set_option maxRecDepth 100000 in
theorem m_14_ok : pm_tab[14]? = some m_14 := rfl
theorem e_14 : ∀ q ∈ d_14, decode m_14.code q.1 = .ok (q.2.1, q.2.2) := y_dec d_14_ok m_14_ok
def m_16 : pM := (⟨"BreathingHill", "land", "()I"⟩, 539, 2, some (FieldType.int), 0, 0, false, 9, 91, 537, 538)
set_option maxRecDepth 100000 in
theorem m_16_ok : pm_tab[16]? = some m_16 := rfl
theorem e_16 : ∀ q ∈ d_16, decode m_16.code q.1 = .ok (q.2.1, q.2.2) := y_dec d_16_ok m_16_ok
def m_112 : pM := (⟨"BreathingHill", "which", "()I"⟩, 985, 5, some (FieldType.int), 0, 0, false, 9, 91, 983, 984)
set_option maxRecDepth 100000 in
theorem m_112_ok : pm_tab[112]? = some m_112 := rfl
theorem e_112 : ∀ q ∈ d_112, decode m_112.code q.1 = .ok (q.2.1, q.2.2) := y_dec d_112_ok m_112_ok
def m_136 : pM := (⟨"BreathingHill", "sentence", "()I"⟩, 1112, 2, some (FieldType.int), 0, 0, false, 9, 91, 1110, 1111)
set_option maxRecDepth 100000 in
theorem m_136_ok : pm_tab[136]? = some m_136 := rfl
theorem e_136 : ∀ q ∈ d_136, decode m_136.code q.1 = .ok (q.2.1, q.2.2) := y_dec d_136_ok m_136_ok
def m_129 : pM := (⟨"BreathingHill", "log", "(I)I"⟩, 1058, 3, some (FieldType.int), 0, 1, false, 9, 91, 1056, 1057)
set_option maxRecDepth 100000 in
theorem m_129_ok : pm_tab[129]? = some m_129 := rfl
theorem e_129 : ∀ q ∈ d_129, decode m_129.code q.1 = .ok (q.2.1, q.2.2) := y_dec d_129_ok m_129_ok
def m_158 : pM := (⟨"BreathingHillModel", "end", "(I)Z"⟩, 1303, 2, some (FieldType.boolean), 17, 1, false, 10, 103, 1301, 1302)
set_option maxRecDepth 100000 in
theorem m_158_ok : pm_tab[158]? = some m_158 := rfl
theorem e_158 : ∀ q ∈ d_158, decode m_158.code q.1 = .ok (q.2.1, q.2.2) := y_dec d_158_ok m_158_ok
def m_224 : pM := (⟨"BreathingHillModel", "which", "()I"⟩, 1725, 3, some (FieldType.int), 17, 0, false, 10, 103, 1723, 1724)
set_option maxRecDepth 100000 in
theorem m_224_ok : pm_tab[224]? = some m_224 := rfl
theorem e_224 : ∀ q ∈ d_224, decode m_224.code q.1 = .ok (q.2.1, q.2.2) := y_dec d_224_ok m_224_ok
