theorem mv_L_13 : mm_MV RL 13 yX11_pain cX11_pain 3 (some .boolean) 2 := ⟨q_544, q_545, q_546, q_111, q_547, by decide +kernel, by decide +kernel, by decide +kernel⟩
theorem mv_L_17 : mm_MV RL 17 yX12_pain cX12_pain 3 (some .boolean) 2 := ⟨q_1477, q_1478, q_1479, q_123, q_1480, by decide +kernel, by decide +kernel, by decide +kernel⟩
theorem mv_L_18 : mm_MV RL 18 yX11_hang cX11_hang 4 (some .boolean) 3 := ⟨q_551, q_552, q_553, q_111, q_554, by decide +kernel, by decide +kernel, by decide +kernel⟩
theorem mv_L_22 : mm_MV RL 22 yX12_hang cX12_hang 4 (some .boolean) 3 := ⟨q_1487, q_1488, q_1489, q_123, q_1490, by decide +kernel, by decide +kernel, by decide +kernel⟩
theorem mv_L_23 : mm_MV RL 23 yX11_person cX11_person 3 (some .int) 2 := ⟨q_576, q_577, q_578, q_111, q_579, by decide +kernel, by decide +kernel, by decide +kernel⟩
theorem mv_L_27 : mm_MV RL 27 yX12_person cX12_person 4 (some .int) 2 := ⟨q_1494, q_1495, q_1496, q_123, q_1497, by decide +kernel, by decide +kernel, by decide +kernel⟩
theorem mv_L_28 : mm_MV RL 28 yX11_feed cX11_feed 6 (some .int) 5 := ⟨q_592, q_593, q_594, q_111, q_595, by decide +kernel, by decide +kernel, by decide +kernel⟩
theorem mv_L_32 : mm_MV RL 32 yX12_feed cX12_feed 6 (some .int) 5 := ⟨q_1506, q_1507, q_1508, q_123, q_1509, by decide +kernel, by decide +kernel, by decide +kernel⟩
theorem mv_L_33 : mm_MV RL 33 yX11_end cX11_end 2 (some .int) 1 := ⟨q_600, q_601, q_602, q_111, q_603, by decide +kernel, by decide +kernel, by decide +kernel⟩
theorem mv_L_37 : mm_MV RL 37 yX12_end cX12_end 2 (some .int) 1 := ⟨q_1514, q_1515, q_1516, q_123, q_1517, by decide +kernel, by decide +kernel, by decide +kernel⟩
theorem mv_L_38 : mm_MV RL 38 yX11_text cX11_text 2 (some .int) 0 := ⟨q_604, q_605, q_606, q_111, q_607, by decide +kernel, by decide +kernel, by decide +kernel⟩
theorem mv_L_42 : mm_MV RL 42 yX12_text cX12_text 1 (some .int) 0 := ⟨q_1518, q_1519, q_1520, q_123, q_1521, by decide +kernel, by decide +kernel, by decide +kernel⟩
theorem mv_L_43 : mm_MV RL 43 yX11_fault cX11_fault 2 (some .int) 1 := ⟨q_847, q_848, q_849, q_111, q_850, by decide +kernel, by decide +kernel, by decide +kernel⟩
theorem mv_L_46 : mm_MV RL 46 yX12_fault cX12_fault 2 (some .int) 1 := ⟨q_1655, q_1656, q_1657, q_123, q_1658, by decide +kernel, by decide +kernel, by decide +kernel⟩
theorem mv_L_47 : mm_MV RL 47 yX11_by cX11_by 2 (some .boolean) 1 := ⟨q_851, q_852, q_853, q_111, q_854, by decide +kernel, by decide +kernel, by decide +kernel⟩
theorem mv_L_51 : mm_MV RL 51 yX12_by cX12_by 2 (some .boolean) 1 := ⟨q_1659, q_1660, q_1661, q_123, q_1662, by decide +kernel, by decide +kernel, by decide +kernel⟩
theorem mv_L_52 : mm_MV RL 52 yX11_ask cX11_ask 2 (some .int) 1 := ⟨q_859, q_860, q_861, q_111, q_862, by decide +kernel, by decide +kernel, by decide +kernel⟩
theorem mv_L_55 : mm_MV RL 55 yX12_ask cX12_ask 2 (some .int) 1 := ⟨q_1671, q_1672, q_1673, q_123, q_1674, by decide +kernel, by decide +kernel, by decide +kernel⟩
theorem mv_L_56 : mm_MV RL 56 yX11_give cX11_give 3 (some .boolean) 2 := ⟨q_950, q_951, q_952, q_111, q_953, by decide +kernel, by decide +kernel, by decide +kernel⟩
theorem mv_L_59 : mm_MV RL 59 yX12_give cX12_give 3 (some .boolean) 2 := ⟨q_1755, q_1756, q_1757, q_123, q_1758, by decide +kernel, by decide +kernel, by decide +kernel⟩
theorem mv_L_60 : mm_MV RL 60 yX11_again cX11_again 3 (some .boolean) 2 := ⟨q_963, q_964, q_965, q_111, q_966, by decide +kernel, by decide +kernel, by decide +kernel⟩
theorem mv_L_63 : mm_MV RL 63 yX12_again cX12_again 3 (some .boolean) 2 := ⟨q_1767, q_1768, q_1769, q_123, q_1770, by decide +kernel, by decide +kernel, by decide +kernel⟩
theorem mv_L_64 : mm_MV RL 64 yX11_day cX11_day 4 (some .int) 1 := ⟨q_972, q_973, q_974, q_111, q_975, by decide +kernel, by decide +kernel, by decide +kernel⟩
theorem mv_L_67 : mm_MV RL 67 yX12_day cX12_day 2 (some .int) 1 := ⟨q_1775, q_1776, q_1777, q_123, q_1778, by decide +kernel, by decide +kernel, by decide +kernel⟩
theorem mv_L_68 : mm_MV RL 68 yX11_played cX11_played 4 (some .int) 1 := ⟨q_985, q_986, q_987, q_111, q_988, by decide +kernel, by decide +kernel, by decide +kernel⟩
theorem mv_L_71 : mm_MV RL 71 yX12_played cX12_played 3 (some .int) 1 := ⟨q_1794, q_1795, q_1796, q_123, q_1797, by decide +kernel, by decide +kernel, by decide +kernel⟩
theorem mv_L_72 : mm_MV RL 72 yX11_years cX11_years 4 (some .int) 2 := ⟨q_999, q_1000, q_1001, q_111, q_1002, by decide +kernel, by decide +kernel, by decide +kernel⟩
theorem mv_L_75 : mm_MV RL 75 yX12_years cX12_years 5 (some .int) 2 := ⟨q_1808, q_1809, q_1810, q_123, q_1811, by decide +kernel, by decide +kernel, by decide +kernel⟩
theorem mv_L_76 : mm_MV RL 76 yX11_undo cX11_undo 1 (some .int) 0 := ⟨q_1012, q_1013, q_1014, q_111, q_1015, by decide +kernel, by decide +kernel, by decide +kernel⟩
theorem mv_L_79 : mm_MV RL 79 yX12_undo cX12_undo 4 (some .int) 0 := ⟨q_1663, q_1664, q_1665, q_123, q_1666, by decide +kernel, by decide +kernel, by decide +kernel⟩
theorem mv_L_80 : mm_MV RL 80 yX11_of cX11_of 4 (some .int) 2 := ⟨q_1020, q_1021, q_1022, q_111, q_1023, by decide +kernel, by decide +kernel, by decide +kernel⟩
theorem mv_L_83 : mm_MV RL 83 yX12_of cX12_of 3 (some .int) 2 := ⟨q_1816, q_1817, q_1818, q_123, q_1819, by decide +kernel, by decide +kernel, by decide +kernel⟩
theorem mv_L_84 : mm_MV RL 84 yX11_ofWant cX11_ofWant 3 (some .int) 2 := ⟨q_1028, q_1029, q_1030, q_111, q_1031, by decide +kernel, by decide +kernel, by decide +kernel⟩
theorem mv_L_87 : mm_MV RL 87 yX12_ofWant cX12_ofWant 3 (some .int) 2 := ⟨q_1820, q_1821, q_1822, q_123, q_1823, by decide +kernel, by decide +kernel, by decide +kernel⟩
theorem mv_L_88 : mm_MV RL 88 yX11_tells cX11_tells 3 (some .int) 2 := ⟨q_1032, q_1033, q_1034, q_111, q_1035, by decide +kernel, by decide +kernel, by decide +kernel⟩
theorem mv_L_91 : mm_MV RL 91 yX12_tells cX12_tells 3 (some .int) 2 := ⟨q_1824, q_1825, q_1826, q_123, q_1827, by decide +kernel, by decide +kernel, by decide +kernel⟩
theorem mv_L_92 : mm_MV RL 92 yX11_is cX11_is 2 (some .int) 1 := ⟨q_1037, q_1038, q_1039, q_111, q_1040, by decide +kernel, by decide +kernel, by decide +kernel⟩
theorem mv_L_95 : mm_MV RL 95 yX12_is cX12_is 2 (some .int) 1 := ⟨q_1828, q_1829, q_1830, q_123, q_1831, by decide +kernel, by decide +kernel, by decide +kernel⟩
theorem mv_L_96 : mm_MV RL 96 yX11_book cX11_book 3 (some .int) 2 := ⟨q_1046, q_1047, q_1048, q_111, q_1049, by decide +kernel, by decide +kernel, by decide +kernel⟩
theorem mv_L_99 : mm_MV RL 99 yX12_book cX12_book 3 (some .int) 2 := ⟨q_1836, q_1837, q_1838, q_123, q_1839, by decide +kernel, by decide +kernel, by decide +kernel⟩
theorem mv_L_100 : mm_MV RL 100 yX11_foretold cX11_foretold 5 (some .int) 3 := ⟨q_1054, q_1055, q_1056, q_111, q_1057, by decide +kernel, by decide +kernel, by decide +kernel⟩
theorem mv_L_104 : mm_MV RL 104 yX12_foretold cX12_foretold 5 (some .int) 3 := ⟨q_1852, q_1853, q_1854, q_123, q_1855, by decide +kernel, by decide +kernel, by decide +kernel⟩
theorem mv_L_105 : mm_MV RL 105 yX11_bottom cX11_bottom 3 (some .int) 1 := ⟨q_1059, q_1060, q_1061, q_111, q_1062, by decide +kernel, by decide +kernel, by decide +kernel⟩
theorem mv_L_108 : mm_MV RL 108 yX12_bottom cX12_bottom 3 (some .int) 1 := ⟨q_1864, q_1865, q_1866, q_123, q_1867, by decide +kernel, by decide +kernel, by decide +kernel⟩
theorem mv_L_109 : mm_MV RL 109 yX11_ways cX11_ways 3 (some .long) 2 := ⟨q_1063, q_1064, q_1065, q_111, q_1066, by decide +kernel, by decide +kernel, by decide +kernel⟩
theorem mv_L_113 : mm_MV RL 113 yX12_ways cX12_ways 3 (some .long) 2 := ⟨q_1868, q_1869, q_1870, q_123, q_1871, by decide +kernel, by decide +kernel, by decide +kernel⟩
theorem mv_L_114 : mm_MV RL 114 yX11_must cX11_must 3 (some .int) 2 := ⟨q_1077, q_1078, q_1079, q_111, q_1080, by decide +kernel, by decide +kernel, by decide +kernel⟩
theorem mv_L_117 : mm_MV RL 117 yX12_must cX12_must 5 (some .int) 2 := ⟨q_1877, q_1878, q_1879, q_123, q_1880, by decide +kernel, by decide +kernel, by decide +kernel⟩
theorem mv_L_118 : mm_MV RL 118 yX11_between cX11_between 3 (some .int) 2 := ⟨q_1098, q_1099, q_1100, q_111, q_1101, by decide +kernel, by decide +kernel, by decide +kernel⟩
theorem mv_L_121 : mm_MV RL 121 yX12_between cX12_between 5 (some .int) 2 := ⟨q_1885, q_1886, q_1887, q_123, q_1888, by decide +kernel, by decide +kernel, by decide +kernel⟩
theorem mv_L_122 : mm_MV RL 122 yX11_heaviest cX11_heaviest 3 (some .int) 2 := ⟨q_1103, q_1104, q_1105, q_111, q_1106, by decide +kernel, by decide +kernel, by decide +kernel⟩
theorem mv_L_125 : mm_MV RL 125 yX12_heaviest cX12_heaviest 5 (some .int) 2 := ⟨q_1889, q_1890, q_1891, q_123, q_1892, by decide +kernel, by decide +kernel, by decide +kernel⟩
theorem mv_L_126 : mm_MV RL 126 yX11_under cX11_under 3 (some .int) 2 := ⟨q_1112, q_1113, q_1114, q_111, q_1115, by decide +kernel, by decide +kernel, by decide +kernel⟩
theorem mv_L_129 : mm_MV RL 129 yX12_under cX12_under 5 (some .int) 2 := ⟨q_1893, q_1894, q_1895, q_123, q_1896, by decide +kernel, by decide +kernel, by decide +kernel⟩
theorem mv_L_130 : mm_MV RL 130 yX11_needless cX11_needless 2 (some .int) 1 := ⟨q_1120, q_1121, q_1122, q_111, q_1123, by decide +kernel, by decide +kernel, by decide +kernel⟩
theorem mv_L_133 : mm_MV RL 133 yX12_needless cX12_needless 4 (some .int) 1 := ⟨q_1897, q_1898, q_1899, q_123, q_1900, by decide +kernel, by decide +kernel, by decide +kernel⟩
theorem mv_L_134 : mm_MV RL 134 yX11_shared cX11_shared 3 (some .int) 2 := ⟨q_1128, q_1129, q_1130, q_111, q_1131, by decide +kernel, by decide +kernel, by decide +kernel⟩
theorem mv_L_137 : mm_MV RL 137 yX12_shared cX12_shared 6 (some .int) 2 := ⟨q_1901, q_1902, q_1903, q_123, q_1904, by decide +kernel, by decide +kernel, by decide +kernel⟩
theorem mv_L_138 : mm_MV RL 138 yX11_apart cX11_apart 3 (some .int) 1 := ⟨q_1136, q_1137, q_1138, q_111, q_1139, by decide +kernel, by decide +kernel, by decide +kernel⟩
theorem mv_L_142 : mm_MV RL 142 yX12_apart cX12_apart 4 (some .int) 1 := ⟨q_1917, q_1918, q_1919, q_123, q_1920, by decide +kernel, by decide +kernel, by decide +kernel⟩
theorem mv_L_143 : mm_MV RL 143 yX11_chains cX11_chains 1 (some .int) 0 := ⟨q_1150, q_1151, q_1152, q_111, q_1153, by decide +kernel, by decide +kernel, by decide +kernel⟩
theorem mv_L_146 : mm_MV RL 146 yX12_chains cX12_chains 3 (some .int) 0 := ⟨q_1929, q_1930, q_1931, q_123, q_1932, by decide +kernel, by decide +kernel, by decide +kernel⟩
theorem mv_L_147 : mm_MV RL 147 yX11_levels cX11_levels 3 (some .int) 0 := ⟨q_1162, q_1163, q_1164, q_111, q_1165, by decide +kernel, by decide +kernel, by decide +kernel⟩
theorem mv_L_150 : mm_MV RL 150 yX12_levels cX12_levels 3 (some .int) 0 := ⟨q_1925, q_1926, q_1927, q_123, q_1928, by decide +kernel, by decide +kernel, by decide +kernel⟩
theorem mv_L_151 : mm_MV RL 151 yX11_asked cX11_asked 3 (some .int) 2 := ⟨q_1167, q_1168, q_1169, q_111, q_1170, by decide +kernel, by decide +kernel, by decide +kernel⟩
theorem mv_L_155 : mm_MV RL 155 yX12_asked cX12_asked 7 (some .int) 2 := ⟨q_1941, q_1942, q_1943, q_123, q_1944, by decide +kernel, by decide +kernel, by decide +kernel⟩
theorem mv_L_156 : mm_MV RL 156 yX11_cheap cX11_cheap 5 (some .int) 3 := ⟨q_1199, q_1200, q_1201, q_111, q_1202, by decide +kernel, by decide +kernel, by decide +kernel⟩
theorem mv_L_160 : mm_MV RL 160 yX12_cheap cX12_cheap 8 (some .int) 3 := ⟨q_1950, q_1951, q_1952, q_123, q_1953, by decide +kernel, by decide +kernel, by decide +kernel⟩
theorem mv_L_161 : mm_MV RL 161 yX11_offers cX11_offers 4 (some .boolean) 3 := ⟨q_1213, q_1214, q_1215, q_111, q_1216, by decide +kernel, by decide +kernel, by decide +kernel⟩
theorem mv_L_164 : mm_MV RL 164 yX12_offers cX12_offers 4 (some .boolean) 3 := ⟨q_1958, q_1959, q_1960, q_123, q_1961, by decide +kernel, by decide +kernel, by decide +kernel⟩
theorem mv_L_165 : mm_MV RL 165 yX11_rings cX11_rings 3 (some .int) 1 := ⟨q_1218, q_1219, q_1220, q_111, q_1221, by decide +kernel, by decide +kernel, by decide +kernel⟩
theorem mv_L_168 : mm_MV RL 168 yX12_rings cX12_rings 5 (some .int) 1 := ⟨q_1962, q_1963, q_1964, q_123, q_1965, by decide +kernel, by decide +kernel, by decide +kernel⟩
theorem mv_L_169 : mm_MV RL 169 yX11_ring cX11_ring 2 (some .int) 1 := ⟨q_1249, q_1250, q_1251, q_111, q_1252, by decide +kernel, by decide +kernel, by decide +kernel⟩
theorem mv_L_172 : mm_MV RL 172 yX12_ring cX12_ring 2 (some .int) 1 := ⟨q_1978, q_1979, q_1980, q_123, q_1981, by decide +kernel, by decide +kernel, by decide +kernel⟩
theorem mv_L_173 : mm_MV RL 173 yX11_grant cX11_grant 4 (some .boolean) 3 := ⟨q_1257, q_1258, q_1259, q_111, q_1260, by decide +kernel, by decide +kernel, by decide +kernel⟩
theorem mv_L_177 : mm_MV RL 177 yX12_grant cX12_grant 4 (some .boolean) 3 := ⟨q_1982, q_1983, q_1984, q_123, q_1985, by decide +kernel, by decide +kernel, by decide +kernel⟩
theorem mv_L_178 : mm_MV RL 178 yX11_budget cX11_budget 9 (some .long) 2 := ⟨q_1261, q_1262, q_1263, q_111, q_1264, by decide +kernel, by decide +kernel, by decide +kernel⟩
theorem mv_L_182 : mm_MV RL 182 yX12_budget cX12_budget 5 (some .long) 2 := ⟨q_1986, q_1987, q_1988, q_123, q_1989, by decide +kernel, by decide +kernel, by decide +kernel⟩
theorem mv_L_183 : mm_MV RL 183 yX11_enough cX11_enough 2 (some .int) 1 := ⟨q_1286, q_1287, q_1288, q_111, q_1289, by decide +kernel, by decide +kernel, by decide +kernel⟩
theorem mv_L_186 : mm_MV RL 186 yX12_enough cX12_enough 3 (some .int) 1 := ⟨q_2002, q_2003, q_2004, q_123, q_2005, by decide +kernel, by decide +kernel, by decide +kernel⟩
theorem mv_L_187 : mm_MV RL 187 yX11_said cX11_said 3 (some .int) 2 := ⟨q_1296, q_1297, q_1298, q_111, q_1299, by decide +kernel, by decide +kernel, by decide +kernel⟩
theorem mv_L_190 : mm_MV RL 190 yX12_said cX12_said 3 (some .int) 2 := ⟨q_2006, q_2007, q_2008, q_123, q_2009, by decide +kernel, by decide +kernel, by decide +kernel⟩
theorem mv_L_191 : mm_MV RL 191 yX11_whose cX11_whose 3 (some .int) 0 := ⟨q_1304, q_1305, q_1306, q_111, q_1307, by decide +kernel, by decide +kernel, by decide +kernel⟩
theorem mv_L_194 : mm_MV RL 194 yX12_whose cX12_whose 5 (some .int) 0 := ⟨q_2010, q_2011, q_2012, q_123, q_2013, by decide +kernel, by decide +kernel, by decide +kernel⟩
theorem mv_L_195 : mm_MV RL 195 yX11_saddest cX11_saddest 4 (some .int) 0 := ⟨q_1312, q_1313, q_1314, q_111, q_1315, by decide +kernel, by decide +kernel, by decide +kernel⟩
theorem mv_L_198 : mm_MV RL 198 yX12_saddest cX12_saddest 3 (some .int) 0 := ⟨q_1848, q_1849, q_1850, q_123, q_1851, by decide +kernel, by decide +kernel, by decide +kernel⟩
theorem mv_L_199 : mm_MV RL 199 yX11_plain cX11_plain 3 (some .int) 0 := ⟨q_1316, q_1317, q_1318, q_111, q_1319, by decide +kernel, by decide +kernel, by decide +kernel⟩
theorem mv_L_202 : mm_MV RL 202 yX12_plain cX12_plain 3 (some .int) 0 := ⟨q_1909, q_1910, q_1911, q_123, q_1912, by decide +kernel, by decide +kernel, by decide +kernel⟩
theorem mv_L_203 : mm_MV RL 203 yX11_loose cX11_loose 3 (some .int) 0 := ⟨q_1320, q_1321, q_1322, q_111, q_1323, by decide +kernel, by decide +kernel, by decide +kernel⟩
theorem mv_L_206 : mm_MV RL 206 yX12_loose cX12_loose 3 (some .int) 0 := ⟨q_1913, q_1914, q_1915, q_123, q_1916, by decide +kernel, by decide +kernel, by decide +kernel⟩
theorem mv_L_207 : mm_MV RL 207 yX11_above cX11_above 2 (some .int) 1 := ⟨q_1324, q_1325, q_1326, q_111, q_1327, by decide +kernel, by decide +kernel, by decide +kernel⟩
theorem mv_L_210 : mm_MV RL 210 yX12_above cX12_above 4 (some .int) 1 := ⟨q_1905, q_1906, q_1907, q_123, q_1908, by decide +kernel, by decide +kernel, by decide +kernel⟩
theorem mv_L_211 : mm_MV RL 211 yX11_ledger cX11_ledger 4 (some .int) 1 := ⟨q_1332, q_1333, q_1334, q_111, q_1335, by decide +kernel, by decide +kernel, by decide +kernel⟩
theorem mv_L_214 : mm_MV RL 214 yX12_ledger cX12_ledger 4 (some .int) 1 := ⟨q_1844, q_1845, q_1846, q_123, q_1847, by decide +kernel, by decide +kernel, by decide +kernel⟩
theorem mv_L_215 : mm_MV RL 215 yX11_image cX11_image 1 (some .int) 0 := ⟨q_1336, q_1337, q_1338, q_111, q_1339, by decide +kernel, by decide +kernel, by decide +kernel⟩
theorem mv_L_218 : mm_MV RL 218 yX12_image cX12_image 1 (some .int) 0 := ⟨q_2014, q_2015, q_2016, q_123, q_2017, by decide +kernel, by decide +kernel, by decide +kernel⟩
theorem mv_L_219 : mm_MV RL 219 yX11_back cX11_back 1 (some .int) 0 := ⟨q_1350, q_1351, q_1352, q_111, q_1353, by decide +kernel, by decide +kernel, by decide +kernel⟩
theorem mv_L_222 : mm_MV RL 222 yX12_back cX12_back 1 (some .int) 0 := ⟨q_2018, q_2019, q_2020, q_123, q_2021, by decide +kernel, by decide +kernel, by decide +kernel⟩
theorem mv_L_223 : mm_MV RL 223 yX11_about cX11_about 2 (some .int) 1 := ⟨q_1354, q_1355, q_1356, q_111, q_1357, by decide +kernel, by decide +kernel, by decide +kernel⟩
theorem mv_L_226 : mm_MV RL 226 yX12_about cX12_about 2 (some .int) 1 := ⟨q_2022, q_2023, q_2024, q_123, q_2025, by decide +kernel, by decide +kernel, by decide +kernel⟩
def mm_ok2 {β : Type} (Inv : mm_M → mm_M → Prop) (fx fm : mm_M → Option (β × mm_M)) : Prop := ∀ σ τ, Inv σ τ → ∃ r σ' τ', fx σ = some (r, σ') ∧ fm τ = some (r, τ') ∧ Inv σ' τ'
/-- WHAT IS LEFT OF THE CLAIM WITHOUT THE MACHINE: each call of both goes through, answers alike, keeps the invariant -/
def mm_All (Inv : mm_M → mm_M → Prop) (n : Nat) : Prop :=
  (∀ (a1 : Int32) (a2 : Int32),  mm_ok2 Inv (fun σ => f_X11_pain mm_kx n 0 a1 a2 σ) (fun τ => f_X12_pain mm_km n 0 a1 a2 τ)) ∧
  (∀ (a1 : Int32) (a2 : Int32) (a3 : Int32), (a3 = 0 ∨ a3 = 1) → mm_ok2 Inv (fun σ => f_X11_hang mm_kx n 0 a1 a2 a3 σ) (fun τ => f_X12_hang mm_km n 0 a1 a2 a3 τ)) ∧
  (∀ (a1 : Int32) (a2 : Int32),  mm_ok2 Inv (fun σ => f_X11_person mm_kx n 0 a1 a2 σ) (fun τ => f_X12_person mm_km n 0 a1 a2 τ)) ∧
  (∀ (a1 : Int32) (a2 : Int32) (a3 : Int32) (a4 : Int32) (a5 : Int32),  mm_ok2 Inv (fun σ => f_X11_feed mm_kx n 0 a1 a2 a3 a4 a5 σ) (fun τ => f_X12_feed mm_km n 0 a1 a2 a3 a4 a5 τ)) ∧
  (∀ (a1 : Int32),  mm_ok2 Inv (fun σ => f_X11_end mm_kx n 0 a1 σ) (fun τ => f_X12_end mm_km n 0 a1 τ)) ∧
  ( mm_ok2 Inv (fun σ => f_X11_text mm_kx n 0  σ) (fun τ => f_X12_text mm_km n 0  τ)) ∧
  (∀ (a1 : Int32),  mm_ok2 Inv (fun σ => f_X11_fault mm_kx n 0 a1 σ) (fun τ => f_X12_fault mm_km n 0 a1 τ)) ∧
  (∀ (a1 : Int32),  mm_ok2 Inv (fun σ => f_X11_by mm_kx n 0 a1 σ) (fun τ => f_X12_by mm_km n 0 a1 τ)) ∧
  (∀ (a1 : Int32),  mm_ok2 Inv (fun σ => f_X11_ask mm_kx n 0 a1 σ) (fun τ => f_X12_ask mm_km n 0 a1 τ)) ∧
  (∀ (a1 : Int32) (a2 : Int32),  mm_ok2 Inv (fun σ => f_X11_give mm_kx n 0 a1 a2 σ) (fun τ => f_X12_give mm_km n 0 a1 a2 τ)) ∧
  (∀ (a1 : Int32) (a2 : Int32),  mm_ok2 Inv (fun σ => f_X11_again mm_kx n 0 a1 a2 σ) (fun τ => f_X12_again mm_km n 0 a1 a2 τ)) ∧
  (∀ (a1 : Int32),  mm_ok2 Inv (fun σ => f_X11_day mm_kx n 0 a1 σ) (fun τ => f_X12_day mm_km n 0 a1 τ)) ∧
  (∀ (a1 : Int32),  mm_ok2 Inv (fun σ => f_X11_played mm_kx n 0 a1 σ) (fun τ => f_X12_played mm_km n 0 a1 τ)) ∧
  (∀ (a1 : Int32) (a2 : Int32),  mm_ok2 Inv (fun σ => f_X11_years mm_kx n 0 a1 a2 σ) (fun τ => f_X12_years mm_km n 0 a1 a2 τ)) ∧
  ( mm_ok2 Inv (fun σ => f_X11_undo mm_kx n 0  σ) (fun τ => f_X12_undo mm_km n 0  τ)) ∧
  (∀ (a1 : Int32) (a2 : Int32),  mm_ok2 Inv (fun σ => f_X11_of mm_kx n 0 a1 a2 σ) (fun τ => f_X12_of mm_km n 0 a1 a2 τ)) ∧
  (∀ (a1 : Int32) (a2 : Int32),  mm_ok2 Inv (fun σ => f_X11_ofWant mm_kx n 0 a1 a2 σ) (fun τ => f_X12_ofWant mm_km n 0 a1 a2 τ)) ∧
  (∀ (a1 : Int32) (a2 : Int32),  mm_ok2 Inv (fun σ => f_X11_tells mm_kx n 0 a1 a2 σ) (fun τ => f_X12_tells mm_km n 0 a1 a2 τ)) ∧
  (∀ (a1 : Int32),  mm_ok2 Inv (fun σ => f_X11_is mm_kx n 0 a1 σ) (fun τ => f_X12_is mm_km n 0 a1 τ)) ∧
  (∀ (a1 : Int32) (a2 : Int32),  mm_ok2 Inv (fun σ => f_X11_book mm_kx n 0 a1 a2 σ) (fun τ => f_X12_book mm_km n 0 a1 a2 τ)) ∧
  (∀ (a1 : Int32) (a2 : Int32) (a3 : Int32),  mm_ok2 Inv (fun σ => f_X11_foretold mm_kx n 0 a1 a2 a3 σ) (fun τ => f_X12_foretold mm_km n 0 a1 a2 a3 τ)) ∧
  (∀ (a1 : Int32),  mm_ok2 Inv (fun σ => f_X11_bottom mm_kx n 0 a1 σ) (fun τ => f_X12_bottom mm_km n 0 a1 τ)) ∧
  (∀ (a1 : Int32) (a2 : Int32),  mm_ok2 Inv (fun σ => f_X11_ways mm_kx n 0 a1 a2 σ) (fun τ => f_X12_ways mm_km n 0 a1 a2 τ)) ∧
  (∀ (a1 : Int32) (a2 : Int32),  mm_ok2 Inv (fun σ => f_X11_must mm_kx n 0 a1 a2 σ) (fun τ => f_X12_must mm_km n 0 a1 a2 τ)) ∧
  (∀ (a1 : Int32) (a2 : Int32),  mm_ok2 Inv (fun σ => f_X11_between mm_kx n 0 a1 a2 σ) (fun τ => f_X12_between mm_km n 0 a1 a2 τ)) ∧
  (∀ (a1 : Int32) (a2 : Int32),  mm_ok2 Inv (fun σ => f_X11_heaviest mm_kx n 0 a1 a2 σ) (fun τ => f_X12_heaviest mm_km n 0 a1 a2 τ)) ∧
  (∀ (a1 : Int32) (a2 : Int32),  mm_ok2 Inv (fun σ => f_X11_under mm_kx n 0 a1 a2 σ) (fun τ => f_X12_under mm_km n 0 a1 a2 τ)) ∧
  (∀ (a1 : Int32),  mm_ok2 Inv (fun σ => f_X11_needless mm_kx n 0 a1 σ) (fun τ => f_X12_needless mm_km n 0 a1 τ)) ∧
  (∀ (a1 : Int32) (a2 : Int32),  mm_ok2 Inv (fun σ => f_X11_shared mm_kx n 0 a1 a2 σ) (fun τ => f_X12_shared mm_km n 0 a1 a2 τ)) ∧
  (∀ (a1 : Int32), (a1 = 0 ∨ a1 = 1) → mm_ok2 Inv (fun σ => f_X11_apart mm_kx n 0 a1 σ) (fun τ => f_X12_apart mm_km n 0 a1 τ)) ∧
  ( mm_ok2 Inv (fun σ => f_X11_chains mm_kx n 0  σ) (fun τ => f_X12_chains mm_km n 0  τ)) ∧
  ( mm_ok2 Inv (fun σ => f_X11_levels mm_kx n 0  σ) (fun τ => f_X12_levels mm_km n 0  τ)) ∧
  (∀ (a1 : Int32) (a2 : Int32), (a2 = 0 ∨ a2 = 1) → mm_ok2 Inv (fun σ => f_X11_asked mm_kx n 0 a1 a2 σ) (fun τ => f_X12_asked mm_km n 0 a1 a2 τ)) ∧
  (∀ (a1 : Int32) (a2 : Int32) (a3 : Int32), (a3 = 0 ∨ a3 = 1) → mm_ok2 Inv (fun σ => f_X11_cheap mm_kx n 0 a1 a2 a3 σ) (fun τ => f_X12_cheap mm_km n 0 a1 a2 a3 τ)) ∧
  (∀ (a1 : Int32) (a2 : Int32) (a3 : Int32), (a3 = 0 ∨ a3 = 1) → mm_ok2 Inv (fun σ => f_X11_offers mm_kx n 0 a1 a2 a3 σ) (fun τ => f_X12_offers mm_km n 0 a1 a2 a3 τ)) ∧
  (∀ (a1 : Int32), (a1 = 0 ∨ a1 = 1) → mm_ok2 Inv (fun σ => f_X11_rings mm_kx n 0 a1 σ) (fun τ => f_X12_rings mm_km n 0 a1 τ)) ∧
  (∀ (a1 : Int32),  mm_ok2 Inv (fun σ => f_X11_ring mm_kx n 0 a1 σ) (fun τ => f_X12_ring mm_km n 0 a1 τ)) ∧
  (∀ (a1 : Int32) (a2 : Int32) (a3 : Int32),  mm_ok2 Inv (fun σ => f_X11_grant mm_kx n 0 a1 a2 a3 σ) (fun τ => f_X12_grant mm_km n 0 a1 a2 a3 τ)) ∧
  (∀ (a1 : Int32) (a2 : Int32), (a2 = 0 ∨ a2 = 1) → mm_ok2 Inv (fun σ => f_X11_budget mm_kx n 0 a1 a2 σ) (fun τ => f_X12_budget mm_km n 0 a1 a2 τ)) ∧
  (∀ (a1 : Int32),  mm_ok2 Inv (fun σ => f_X11_enough mm_kx n 0 a1 σ) (fun τ => f_X12_enough mm_km n 0 a1 τ)) ∧
  (∀ (a1 : Int32) (a2 : Int32),  mm_ok2 Inv (fun σ => f_X11_said mm_kx n 0 a1 a2 σ) (fun τ => f_X12_said mm_km n 0 a1 a2 τ)) ∧
  ( mm_ok2 Inv (fun σ => f_X11_whose mm_kx n 0  σ) (fun τ => f_X12_whose mm_km n 0  τ)) ∧
  ( mm_ok2 Inv (fun σ => f_X11_saddest mm_kx n 0  σ) (fun τ => f_X12_saddest mm_km n 0  τ)) ∧
  ( mm_ok2 Inv (fun σ => f_X11_plain mm_kx n 0  σ) (fun τ => f_X12_plain mm_km n 0  τ)) ∧
  ( mm_ok2 Inv (fun σ => f_X11_loose mm_kx n 0  σ) (fun τ => f_X12_loose mm_km n 0  τ)) ∧
  (∀ (a1 : Int32),  mm_ok2 Inv (fun σ => f_X11_above mm_kx n 0 a1 σ) (fun τ => f_X12_above mm_km n 0 a1 τ)) ∧
  (∀ (a1 : Int32), (a1 = 0 ∨ a1 = 1) → mm_ok2 Inv (fun σ => f_X11_ledger mm_kx n 0 a1 σ) (fun τ => f_X12_ledger mm_km n 0 a1 τ)) ∧
  ( mm_ok2 Inv (fun σ => f_X11_image mm_kx n 0  σ) (fun τ => f_X12_image mm_km n 0  τ)) ∧
  ( mm_ok2 Inv (fun σ => f_X11_back mm_kx n 0  σ) (fun τ => f_X12_back mm_km n 0  τ)) ∧
  (∀ (a1 : Int32),  mm_ok2 Inv (fun σ => f_X11_about mm_kx n 0 a1 σ) (fun τ => f_X12_about mm_km n 0 a1 τ))
theorem mm_lcs (x : Int64) : lg_cmp x x = 0 := by simp [lg_cmp]
theorem law_in {L j : Nat} (hL : L ≤ 3072) (hj : j ≤ L) (h : ¬ Int32.ofNat L - 6 < Int32.ofNat j) : j + 6 ≤ L := by
  have h1 : (Int32.ofNat j).toInt = j := Int32.toInt_ofNat_of_lt (by omega)
  have h2 : (Int32.ofNat L).toInt = L := Int32.toInt_ofNat_of_lt (by omega)
  have h3 : (Int32.ofNat L - 6).toInt = (L : Int) - 6 := by
    rw [Int32.toInt_sub, h2]
    show ((L : Int) - 6).bmod (2 ^ 32) = _
    rw [Int.bmod_eq_of_le] <;> omega
  have h4 := Int32.le_iff_toInt_le.mp (Int32.not_lt.mp h)
  rw [h1, h3] at h4
  omega
theorem law_ix {L j k : Nat} {c : Int32} (hL : L ≤ 3072) (hj : j + 6 ≤ L) (hk : k < 6) (hc : c = Int32.ofNat k) : vp_in (Int32.ofNat j + c) L := by
  have e : Int32.ofNat j + c = Int32.ofNat (j + k) := by rw [hc, Int32.ofNat_add]
  rw [e]
  have h1 : (Int32.ofNat (j + k)).toInt = ((j + k : Nat) : Int) := Int32.toInt_ofNat_of_lt (by omega)
  intro h
  rcases h with h | h
  · have h2 := Int32.lt_iff_toInt_lt.mp h
    rw [h1] at h2
    have h3 : (0 : Int32).toInt = 0 := rfl
    omega
  · have h2 : (Int32.ofNat (j + k)).toNatClampNeg = (Int32.ofNat (j + k)).toInt.toNat := rfl
    rw [h2, h1] at h
    omega
set_option maxRecDepth 100000 in
set_option maxHeartbeats 4000000 in
theorem lc_0 (Inv : mm_M → mm_M → Prop) (n : Nat) (HA : mm_All Inv n) {V : mm_V2} {l : Launch} {b0 b1 : Nat} {D : va_G} {tA : Nat → ClassId} {aK aV : Nat → Nat} {b L : Nat} {xs : Nat → Int32} (C : mm_C2 V l (b0, mm_kx, D, tA, aK, aV) (b1, mm_km, D, tA, aK, aV) b L xs) {x : Int32} (σ τ : mm_M) (hI : Inv σ τ) (h0 : vp_in x L) (h1 : vp_in (x + 1) L) (h2 : vp_in (x + 2) L) (h3 : vp_in (x + 3) L) (h4 : vp_in (x + 4) L) (h5 : vp_in (x + 5) L) (hbr : ∀ σ1 τ1, Inv σ1 τ1 → V σ1 τ1 [(3, .int x), (2, .ref (mm_ad (b1, mm_km, D, tA, aK, aV) 0)), (1, .ref (mm_ad (b0, mm_kx, D, tA, aK, aV) 0)), (0, .ref b)] [] 1748) : V σ τ [(3, .int x), (2, .ref (mm_ad (b1, mm_km, D, tA, aK, aV) 0)), (1, .ref (mm_ad (b0, mm_kx, D, tA, aK, aV) 0)), (0, .ref b)] [] 248 := by
  obtain ⟨r, σ1, τ1, hx1, hm1, hI1⟩ := HA.1 (xs (x + 1).toNatClampNeg) (xs (x + 2).toNatClampNeg)  σ τ hI
  refine k2_aload_n (pc := 248) C dL_law_248 2 rfl rfl ?_
  refine k2_aload_n (pc := 249) C dL_law_249 3 rfl rfl ?_
  refine k2_iload_n (pc := 250) C dL_law_250 0 rfl rfl ?_
  refine k2_iconst (pc := 251) (v := 1) C dL_law_251 (by decide) ?_
  refine k2_iadd (pc := 252) C dL_law_252 ?_
  refine k2_sld (pc := 253) C dL_law_253 h1 ?_
  refine k2_aload_n (pc := 254) C dL_law_254 3 rfl rfl ?_
  refine k2_iload_n (pc := 255) C dL_law_255 0 rfl rfl ?_
  refine k2_iconst (pc := 256) (v := 2) C dL_law_256 (by decide) ?_
  refine k2_iadd (pc := 257) C dL_law_257 ?_
  refine k2_sld (pc := 258) C dL_law_258 h2 ?_
  refine k2_xi (pc := 259) (As := [.int (xs (x + 1).toNatClampNeg), .int (xs (x + 2).toNatClampNeg)]) C mv_L_13 (c_X11_pain (b0, mm_kx, D, tA, aK, aV) n 576 σ 0 rfl (by decide) (xs (x + 1).toNatClampNeg) (xs (x + 2).toNatClampNeg)) hx1 rfl ⟨_, rfl, rfl⟩ rfl rfl (Nat.le_of_ble_eq_true rfl) (by decide) (by decide) dL_law_259 ?_
  refine k2_aload_n (pc := 262) C dL_law_262 1 rfl rfl ?_
  refine k2_aload_n (pc := 263) C dL_law_263 3 rfl rfl ?_
  refine k2_iload_n (pc := 264) C dL_law_264 0 rfl rfl ?_
  refine k2_iconst (pc := 265) (v := 1) C dL_law_265 (by decide) ?_
  refine k2_iadd (pc := 266) C dL_law_266 ?_
  refine k2_sld (pc := 267) C dL_law_267 h1 ?_
  refine k2_aload_n (pc := 268) C dL_law_268 3 rfl rfl ?_
  refine k2_iload_n (pc := 269) C dL_law_269 0 rfl rfl ?_
  refine k2_iconst (pc := 270) (v := 2) C dL_law_270 (by decide) ?_
  refine k2_iadd (pc := 271) C dL_law_271 ?_
  refine k2_sld (pc := 272) C dL_law_272 h2 ?_
  refine k2_mi (pc := 273) (As := [.int (xs (x + 1).toNatClampNeg), .int (xs (x + 2).toNatClampNeg)]) C mv_L_17 (c_X12_pain (b1, mm_km, D, tA, aK, aV) n 20 τ 0 rfl (by decide) (xs (x + 1).toNatClampNeg) (xs (x + 2).toNatClampNeg)) hm1 rfl ⟨_, rfl, rfl⟩ rfl rfl (Nat.le_of_ble_eq_true rfl) (by decide) (by decide) dL_law_273 ?_
  refine k2_same (pc := 276) (tgt := 1748) C dL_law_276 (by decide) ?_
  exact hbr σ1 τ1 hI1
set_option maxRecDepth 100000 in
set_option maxHeartbeats 4000000 in
theorem lc_1 (Inv : mm_M → mm_M → Prop) (n : Nat) (HA : mm_All Inv n) {V : mm_V2} {l : Launch} {b0 b1 : Nat} {D : va_G} {tA : Nat → ClassId} {aK aV : Nat → Nat} {b L : Nat} {xs : Nat → Int32} (C : mm_C2 V l (b0, mm_kx, D, tA, aK, aV) (b1, mm_km, D, tA, aK, aV) b L xs) {x : Int32} (σ τ : mm_M) (hI : Inv σ τ) (h0 : vp_in x L) (h1 : vp_in (x + 1) L) (h2 : vp_in (x + 2) L) (h3 : vp_in (x + 3) L) (h4 : vp_in (x + 4) L) (h5 : vp_in (x + 5) L) (hbr : ∀ σ1 τ1, Inv σ1 τ1 → V σ1 τ1 [(3, .int x), (2, .ref (mm_ad (b1, mm_km, D, tA, aK, aV) 0)), (1, .ref (mm_ad (b0, mm_kx, D, tA, aK, aV) 0)), (0, .ref b)] [] 1748) : V σ τ [(3, .int x), (2, .ref (mm_ad (b1, mm_km, D, tA, aK, aV) 0)), (1, .ref (mm_ad (b0, mm_kx, D, tA, aK, aV) 0)), (0, .ref b)] [] 281 := by
  obtain ⟨r, σ1, τ1, hx1, hm1, hI1⟩ := HA.2.1 (xs (x + 1).toNatClampNeg) (xs (x + 2).toNatClampNeg) (mm_nz (xs (x + 3).toNatClampNeg)) (mm_nz_z _) σ τ hI
  refine k2_aload_n (pc := 281) C dL_law_281 2 rfl rfl ?_
  refine k2_aload_n (pc := 282) C dL_law_282 3 rfl rfl ?_
  refine k2_iload_n (pc := 283) C dL_law_283 0 rfl rfl ?_
  refine k2_iconst (pc := 284) (v := 1) C dL_law_284 (by decide) ?_
  refine k2_iadd (pc := 285) C dL_law_285 ?_
  refine k2_sld (pc := 286) C dL_law_286 h1 ?_
  refine k2_aload_n (pc := 287) C dL_law_287 3 rfl rfl ?_
  refine k2_iload_n (pc := 288) C dL_law_288 0 rfl rfl ?_
  refine k2_iconst (pc := 289) (v := 2) C dL_law_289 (by decide) ?_
  refine k2_iadd (pc := 290) C dL_law_290 ?_
  refine k2_sld (pc := 291) C dL_law_291 h2 ?_
  refine k2_aload_n (pc := 292) C dL_law_292 3 rfl rfl ?_
  refine k2_iload_n (pc := 293) C dL_law_293 0 rfl rfl ?_
  refine k2_iconst (pc := 294) (v := 3) C dL_law_294 (by decide) ?_
  refine k2_iadd (pc := 295) C dL_law_295 ?_
  refine k2_sld (pc := 296) C dL_law_296 h3 ?_
  refine k2_nz (pc := 297) (p1 := 300) (p2 := 301) (p3 := 304) (p4 := 305) C dL_law_297 (by decide) (by decide) dL_law_300 (by decide) dL_law_301 (by decide) dL_law_304 (by decide) ?_
  refine k2_xi (pc := 305) (As := [.int (xs (x + 1).toNatClampNeg), .int (xs (x + 2).toNatClampNeg), .int (mm_nz (xs (x + 3).toNatClampNeg))]) C mv_L_18 (c_X11_hang (b0, mm_kx, D, tA, aK, aV) n 576 σ 0 rfl (by decide) (xs (x + 1).toNatClampNeg) (xs (x + 2).toNatClampNeg) (mm_nz (xs (x + 3).toNatClampNeg))) hx1 rfl ⟨_, rfl, rfl⟩ rfl rfl (Nat.le_of_ble_eq_true rfl) (by decide) (by decide) dL_law_305 ?_
  refine k2_aload_n (pc := 308) C dL_law_308 1 rfl rfl ?_
  refine k2_aload_n (pc := 309) C dL_law_309 3 rfl rfl ?_
  refine k2_iload_n (pc := 310) C dL_law_310 0 rfl rfl ?_
  refine k2_iconst (pc := 311) (v := 1) C dL_law_311 (by decide) ?_
  refine k2_iadd (pc := 312) C dL_law_312 ?_
  refine k2_sld (pc := 313) C dL_law_313 h1 ?_
  refine k2_aload_n (pc := 314) C dL_law_314 3 rfl rfl ?_
  refine k2_iload_n (pc := 315) C dL_law_315 0 rfl rfl ?_
  refine k2_iconst (pc := 316) (v := 2) C dL_law_316 (by decide) ?_
  refine k2_iadd (pc := 317) C dL_law_317 ?_
  refine k2_sld (pc := 318) C dL_law_318 h2 ?_
  refine k2_aload_n (pc := 319) C dL_law_319 3 rfl rfl ?_
  refine k2_iload_n (pc := 320) C dL_law_320 0 rfl rfl ?_
  refine k2_iconst (pc := 321) (v := 3) C dL_law_321 (by decide) ?_
  refine k2_iadd (pc := 322) C dL_law_322 ?_
  refine k2_sld (pc := 323) C dL_law_323 h3 ?_
  refine k2_nz (pc := 324) (p1 := 327) (p2 := 328) (p3 := 331) (p4 := 332) C dL_law_324 (by decide) (by decide) dL_law_327 (by decide) dL_law_328 (by decide) dL_law_331 (by decide) ?_
  refine k2_mi (pc := 332) (As := [.int (xs (x + 1).toNatClampNeg), .int (xs (x + 2).toNatClampNeg), .int (mm_nz (xs (x + 3).toNatClampNeg))]) C mv_L_22 (c_X12_hang (b1, mm_km, D, tA, aK, aV) n 20 τ 0 rfl (by decide) (xs (x + 1).toNatClampNeg) (xs (x + 2).toNatClampNeg) (mm_nz (xs (x + 3).toNatClampNeg))) hm1 rfl ⟨_, rfl, rfl⟩ rfl rfl (Nat.le_of_ble_eq_true rfl) (by decide) (by decide) dL_law_332 ?_
  refine k2_same (pc := 335) (tgt := 1748) C dL_law_335 (by decide) ?_
  exact hbr σ1 τ1 hI1
set_option maxRecDepth 100000 in
set_option maxHeartbeats 4000000 in
theorem lc_2 (Inv : mm_M → mm_M → Prop) (n : Nat) (HA : mm_All Inv n) {V : mm_V2} {l : Launch} {b0 b1 : Nat} {D : va_G} {tA : Nat → ClassId} {aK aV : Nat → Nat} {b L : Nat} {xs : Nat → Int32} (C : mm_C2 V l (b0, mm_kx, D, tA, aK, aV) (b1, mm_km, D, tA, aK, aV) b L xs) {x : Int32} (σ τ : mm_M) (hI : Inv σ τ) (h0 : vp_in x L) (h1 : vp_in (x + 1) L) (h2 : vp_in (x + 2) L) (h3 : vp_in (x + 3) L) (h4 : vp_in (x + 4) L) (h5 : vp_in (x + 5) L) (hbr : ∀ σ1 τ1, Inv σ1 τ1 → V σ1 τ1 [(3, .int x), (2, .ref (mm_ad (b1, mm_km, D, tA, aK, aV) 0)), (1, .ref (mm_ad (b0, mm_kx, D, tA, aK, aV) 0)), (0, .ref b)] [] 1748) : V σ τ [(3, .int x), (2, .ref (mm_ad (b1, mm_km, D, tA, aK, aV) 0)), (1, .ref (mm_ad (b0, mm_kx, D, tA, aK, aV) 0)), (0, .ref b)] [] 340 := by
  obtain ⟨r, σ1, τ1, hx1, hm1, hI1⟩ := HA.2.2.1 (xs (x + 1).toNatClampNeg) (xs (x + 2).toNatClampNeg)  σ τ hI
  refine k2_aload_n (pc := 340) C dL_law_340 2 rfl rfl ?_
  refine k2_aload_n (pc := 341) C dL_law_341 3 rfl rfl ?_
  refine k2_iload_n (pc := 342) C dL_law_342 0 rfl rfl ?_
  refine k2_iconst (pc := 343) (v := 1) C dL_law_343 (by decide) ?_
  refine k2_iadd (pc := 344) C dL_law_344 ?_
  refine k2_sld (pc := 345) C dL_law_345 h1 ?_
  refine k2_aload_n (pc := 346) C dL_law_346 3 rfl rfl ?_
  refine k2_iload_n (pc := 347) C dL_law_347 0 rfl rfl ?_
  refine k2_iconst (pc := 348) (v := 2) C dL_law_348 (by decide) ?_
  refine k2_iadd (pc := 349) C dL_law_349 ?_
  refine k2_sld (pc := 350) C dL_law_350 h2 ?_
  refine k2_xi (pc := 351) (As := [.int (xs (x + 1).toNatClampNeg), .int (xs (x + 2).toNatClampNeg)]) C mv_L_23 (c_X11_person (b0, mm_kx, D, tA, aK, aV) n 576 σ 0 rfl (by decide) (xs (x + 1).toNatClampNeg) (xs (x + 2).toNatClampNeg)) hx1 rfl ⟨_, rfl, rfl⟩ rfl rfl (Nat.le_of_ble_eq_true rfl) (by decide) (by decide) dL_law_351 ?_
  refine k2_aload_n (pc := 354) C dL_law_354 1 rfl rfl ?_
  refine k2_aload_n (pc := 355) C dL_law_355 3 rfl rfl ?_
  refine k2_iload_n (pc := 356) C dL_law_356 0 rfl rfl ?_
  refine k2_iconst (pc := 357) (v := 1) C dL_law_357 (by decide) ?_
  refine k2_iadd (pc := 358) C dL_law_358 ?_
  refine k2_sld (pc := 359) C dL_law_359 h1 ?_
  refine k2_aload_n (pc := 360) C dL_law_360 3 rfl rfl ?_
  refine k2_iload_n (pc := 361) C dL_law_361 0 rfl rfl ?_
  refine k2_iconst (pc := 362) (v := 2) C dL_law_362 (by decide) ?_
  refine k2_iadd (pc := 363) C dL_law_363 ?_
  refine k2_sld (pc := 364) C dL_law_364 h2 ?_
  refine k2_mi (pc := 365) (As := [.int (xs (x + 1).toNatClampNeg), .int (xs (x + 2).toNatClampNeg)]) C mv_L_27 (c_X12_person (b1, mm_km, D, tA, aK, aV) n 20 τ 0 rfl (by decide) (xs (x + 1).toNatClampNeg) (xs (x + 2).toNatClampNeg)) hm1 rfl ⟨_, rfl, rfl⟩ rfl rfl (Nat.le_of_ble_eq_true rfl) (by decide) (by decide) dL_law_365 ?_
  refine k2_same (pc := 368) (tgt := 1748) C dL_law_368 (by decide) ?_
  exact hbr σ1 τ1 hI1
set_option maxRecDepth 100000 in
set_option maxHeartbeats 4000000 in
theorem lc_3 (Inv : mm_M → mm_M → Prop) (n : Nat) (HA : mm_All Inv n) {V : mm_V2} {l : Launch} {b0 b1 : Nat} {D : va_G} {tA : Nat → ClassId} {aK aV : Nat → Nat} {b L : Nat} {xs : Nat → Int32} (C : mm_C2 V l (b0, mm_kx, D, tA, aK, aV) (b1, mm_km, D, tA, aK, aV) b L xs) {x : Int32} (σ τ : mm_M) (hI : Inv σ τ) (h0 : vp_in x L) (h1 : vp_in (x + 1) L) (h2 : vp_in (x + 2) L) (h3 : vp_in (x + 3) L) (h4 : vp_in (x + 4) L) (h5 : vp_in (x + 5) L) (hbr : ∀ σ1 τ1, Inv σ1 τ1 → V σ1 τ1 [(3, .int x), (2, .ref (mm_ad (b1, mm_km, D, tA, aK, aV) 0)), (1, .ref (mm_ad (b0, mm_kx, D, tA, aK, aV) 0)), (0, .ref b)] [] 1748) : V σ τ [(3, .int x), (2, .ref (mm_ad (b1, mm_km, D, tA, aK, aV) 0)), (1, .ref (mm_ad (b0, mm_kx, D, tA, aK, aV) 0)), (0, .ref b)] [] 373 := by
  obtain ⟨r, σ1, τ1, hx1, hm1, hI1⟩ := HA.2.2.2.1 (xs (x + 1).toNatClampNeg) (xs (x + 2).toNatClampNeg) (xs (x + 3).toNatClampNeg) (xs (x + 4).toNatClampNeg) (xs (x + 5).toNatClampNeg)  σ τ hI
  refine k2_aload_n (pc := 373) C dL_law_373 2 rfl rfl ?_
  refine k2_aload_n (pc := 374) C dL_law_374 3 rfl rfl ?_
  refine k2_iload_n (pc := 375) C dL_law_375 0 rfl rfl ?_
  refine k2_iconst (pc := 376) (v := 1) C dL_law_376 (by decide) ?_
  refine k2_iadd (pc := 377) C dL_law_377 ?_
  refine k2_sld (pc := 378) C dL_law_378 h1 ?_
  refine k2_aload_n (pc := 379) C dL_law_379 3 rfl rfl ?_
  refine k2_iload_n (pc := 380) C dL_law_380 0 rfl rfl ?_
  refine k2_iconst (pc := 381) (v := 2) C dL_law_381 (by decide) ?_
  refine k2_iadd (pc := 382) C dL_law_382 ?_
  refine k2_sld (pc := 383) C dL_law_383 h2 ?_
  refine k2_aload_n (pc := 384) C dL_law_384 3 rfl rfl ?_
  refine k2_iload_n (pc := 385) C dL_law_385 0 rfl rfl ?_
  refine k2_iconst (pc := 386) (v := 3) C dL_law_386 (by decide) ?_
  refine k2_iadd (pc := 387) C dL_law_387 ?_
  refine k2_sld (pc := 388) C dL_law_388 h3 ?_
  refine k2_aload_n (pc := 389) C dL_law_389 3 rfl rfl ?_
  refine k2_iload_n (pc := 390) C dL_law_390 0 rfl rfl ?_
  refine k2_iconst (pc := 391) (v := 4) C dL_law_391 (by decide) ?_
  refine k2_iadd (pc := 392) C dL_law_392 ?_
  refine k2_sld (pc := 393) C dL_law_393 h4 ?_
  refine k2_aload_n (pc := 394) C dL_law_394 3 rfl rfl ?_
  refine k2_iload_n (pc := 395) C dL_law_395 0 rfl rfl ?_
  refine k2_iconst (pc := 396) (v := 5) C dL_law_396 (by decide) ?_
  refine k2_iadd (pc := 397) C dL_law_397 ?_
  refine k2_sld (pc := 398) C dL_law_398 h5 ?_
  refine k2_xi (pc := 399) (As := [.int (xs (x + 1).toNatClampNeg), .int (xs (x + 2).toNatClampNeg), .int (xs (x + 3).toNatClampNeg), .int (xs (x + 4).toNatClampNeg), .int (xs (x + 5).toNatClampNeg)]) C mv_L_28 (c_X11_feed (b0, mm_kx, D, tA, aK, aV) n 576 σ 0 rfl (by decide) (xs (x + 1).toNatClampNeg) (xs (x + 2).toNatClampNeg) (xs (x + 3).toNatClampNeg) (xs (x + 4).toNatClampNeg) (xs (x + 5).toNatClampNeg)) hx1 rfl ⟨_, rfl, rfl⟩ rfl rfl (Nat.le_of_ble_eq_true rfl) (by decide) (by decide) dL_law_399 ?_
  refine k2_aload_n (pc := 402) C dL_law_402 1 rfl rfl ?_
  refine k2_aload_n (pc := 403) C dL_law_403 3 rfl rfl ?_
  refine k2_iload_n (pc := 404) C dL_law_404 0 rfl rfl ?_
  refine k2_iconst (pc := 405) (v := 1) C dL_law_405 (by decide) ?_
  refine k2_iadd (pc := 406) C dL_law_406 ?_
  refine k2_sld (pc := 407) C dL_law_407 h1 ?_
  refine k2_aload_n (pc := 408) C dL_law_408 3 rfl rfl ?_
  refine k2_iload_n (pc := 409) C dL_law_409 0 rfl rfl ?_
  refine k2_iconst (pc := 410) (v := 2) C dL_law_410 (by decide) ?_
  refine k2_iadd (pc := 411) C dL_law_411 ?_
  refine k2_sld (pc := 412) C dL_law_412 h2 ?_
  refine k2_aload_n (pc := 413) C dL_law_413 3 rfl rfl ?_
  refine k2_iload_n (pc := 414) C dL_law_414 0 rfl rfl ?_
  refine k2_iconst (pc := 415) (v := 3) C dL_law_415 (by decide) ?_
  refine k2_iadd (pc := 416) C dL_law_416 ?_
  refine k2_sld (pc := 417) C dL_law_417 h3 ?_
  refine k2_aload_n (pc := 418) C dL_law_418 3 rfl rfl ?_
  refine k2_iload_n (pc := 419) C dL_law_419 0 rfl rfl ?_
  refine k2_iconst (pc := 420) (v := 4) C dL_law_420 (by decide) ?_
  refine k2_iadd (pc := 421) C dL_law_421 ?_
  refine k2_sld (pc := 422) C dL_law_422 h4 ?_
  refine k2_aload_n (pc := 423) C dL_law_423 3 rfl rfl ?_
  refine k2_iload_n (pc := 424) C dL_law_424 0 rfl rfl ?_
  refine k2_iconst (pc := 425) (v := 5) C dL_law_425 (by decide) ?_
  refine k2_iadd (pc := 426) C dL_law_426 ?_
  refine k2_sld (pc := 427) C dL_law_427 h5 ?_
  refine k2_mi (pc := 428) (As := [.int (xs (x + 1).toNatClampNeg), .int (xs (x + 2).toNatClampNeg), .int (xs (x + 3).toNatClampNeg), .int (xs (x + 4).toNatClampNeg), .int (xs (x + 5).toNatClampNeg)]) C mv_L_32 (c_X12_feed (b1, mm_km, D, tA, aK, aV) n 20 τ 0 rfl (by decide) (xs (x + 1).toNatClampNeg) (xs (x + 2).toNatClampNeg) (xs (x + 3).toNatClampNeg) (xs (x + 4).toNatClampNeg) (xs (x + 5).toNatClampNeg)) hm1 rfl ⟨_, rfl, rfl⟩ rfl rfl (Nat.le_of_ble_eq_true rfl) (by decide) (by decide) dL_law_428 ?_
  refine k2_same (pc := 431) (tgt := 1748) C dL_law_431 (by decide) ?_
  exact hbr σ1 τ1 hI1
set_option maxRecDepth 100000 in
set_option maxHeartbeats 4000000 in
theorem lc_4 (Inv : mm_M → mm_M → Prop) (n : Nat) (HA : mm_All Inv n) {V : mm_V2} {l : Launch} {b0 b1 : Nat} {D : va_G} {tA : Nat → ClassId} {aK aV : Nat → Nat} {b L : Nat} {xs : Nat → Int32} (C : mm_C2 V l (b0, mm_kx, D, tA, aK, aV) (b1, mm_km, D, tA, aK, aV) b L xs) {x : Int32} (σ τ : mm_M) (hI : Inv σ τ) (h0 : vp_in x L) (h1 : vp_in (x + 1) L) (h2 : vp_in (x + 2) L) (h3 : vp_in (x + 3) L) (h4 : vp_in (x + 4) L) (h5 : vp_in (x + 5) L) (hbr : ∀ σ1 τ1, Inv σ1 τ1 → V σ1 τ1 [(3, .int x), (2, .ref (mm_ad (b1, mm_km, D, tA, aK, aV) 0)), (1, .ref (mm_ad (b0, mm_kx, D, tA, aK, aV) 0)), (0, .ref b)] [] 1748) : V σ τ [(3, .int x), (2, .ref (mm_ad (b1, mm_km, D, tA, aK, aV) 0)), (1, .ref (mm_ad (b0, mm_kx, D, tA, aK, aV) 0)), (0, .ref b)] [] 436 := by
  obtain ⟨r, σ1, τ1, hx1, hm1, hI1⟩ := HA.2.2.2.2.1 (xs (x + 1).toNatClampNeg)  σ τ hI
  refine k2_aload_n (pc := 436) C dL_law_436 2 rfl rfl ?_
  refine k2_aload_n (pc := 437) C dL_law_437 3 rfl rfl ?_
  refine k2_iload_n (pc := 438) C dL_law_438 0 rfl rfl ?_
  refine k2_iconst (pc := 439) (v := 1) C dL_law_439 (by decide) ?_
  refine k2_iadd (pc := 440) C dL_law_440 ?_
  refine k2_sld (pc := 441) C dL_law_441 h1 ?_
  refine k2_xi (pc := 442) (As := [.int (xs (x + 1).toNatClampNeg)]) C mv_L_33 (c_X11_end (b0, mm_kx, D, tA, aK, aV) n 576 σ 0 rfl (by decide) (xs (x + 1).toNatClampNeg)) hx1 rfl ⟨_, rfl, rfl⟩ rfl rfl (Nat.le_of_ble_eq_true rfl) (by decide) (by decide) dL_law_442 ?_
  refine k2_aload_n (pc := 445) C dL_law_445 1 rfl rfl ?_
  refine k2_aload_n (pc := 446) C dL_law_446 3 rfl rfl ?_
  refine k2_iload_n (pc := 447) C dL_law_447 0 rfl rfl ?_
  refine k2_iconst (pc := 448) (v := 1) C dL_law_448 (by decide) ?_
  refine k2_iadd (pc := 449) C dL_law_449 ?_
  refine k2_sld (pc := 450) C dL_law_450 h1 ?_
  refine k2_mi (pc := 451) (As := [.int (xs (x + 1).toNatClampNeg)]) C mv_L_37 (c_X12_end (b1, mm_km, D, tA, aK, aV) n 20 τ 0 rfl (by decide) (xs (x + 1).toNatClampNeg)) hm1 rfl ⟨_, rfl, rfl⟩ rfl rfl (Nat.le_of_ble_eq_true rfl) (by decide) (by decide) dL_law_451 ?_
  refine k2_same (pc := 454) (tgt := 1748) C dL_law_454 (by decide) ?_
  exact hbr σ1 τ1 hI1
set_option maxRecDepth 100000 in
set_option maxHeartbeats 4000000 in
theorem lc_5 (Inv : mm_M → mm_M → Prop) (n : Nat) (HA : mm_All Inv n) {V : mm_V2} {l : Launch} {b0 b1 : Nat} {D : va_G} {tA : Nat → ClassId} {aK aV : Nat → Nat} {b L : Nat} {xs : Nat → Int32} (C : mm_C2 V l (b0, mm_kx, D, tA, aK, aV) (b1, mm_km, D, tA, aK, aV) b L xs) {x : Int32} (σ τ : mm_M) (hI : Inv σ τ) (h0 : vp_in x L) (h1 : vp_in (x + 1) L) (h2 : vp_in (x + 2) L) (h3 : vp_in (x + 3) L) (h4 : vp_in (x + 4) L) (h5 : vp_in (x + 5) L) (hbr : ∀ σ1 τ1, Inv σ1 τ1 → V σ1 τ1 [(3, .int x), (2, .ref (mm_ad (b1, mm_km, D, tA, aK, aV) 0)), (1, .ref (mm_ad (b0, mm_kx, D, tA, aK, aV) 0)), (0, .ref b)] [] 1748) : V σ τ [(3, .int x), (2, .ref (mm_ad (b1, mm_km, D, tA, aK, aV) 0)), (1, .ref (mm_ad (b0, mm_kx, D, tA, aK, aV) 0)), (0, .ref b)] [] 459 := by
  obtain ⟨r, σ1, τ1, hx1, hm1, hI1⟩ := HA.2.2.2.2.2.1   σ τ hI
  refine k2_aload_n (pc := 459) C dL_law_459 2 rfl rfl ?_
  refine k2_xi (pc := 460) (As := []) C mv_L_38 (c_X11_text (b0, mm_kx, D, tA, aK, aV) n 576 σ 0 rfl (by decide) ) hx1 rfl ⟨_, rfl, rfl⟩ rfl rfl (Nat.le_of_ble_eq_true rfl) (by decide) (by decide) dL_law_460 ?_
  refine k2_aload_n (pc := 463) C dL_law_463 1 rfl rfl ?_
  refine k2_mi (pc := 464) (As := []) C mv_L_42 (c_X12_text (b1, mm_km, D, tA, aK, aV) n 20 τ 0 rfl (by decide) ) hm1 rfl ⟨_, rfl, rfl⟩ rfl rfl (Nat.le_of_ble_eq_true rfl) (by decide) (by decide) dL_law_464 ?_
  refine k2_same (pc := 467) (tgt := 1748) C dL_law_467 (by decide) ?_
  exact hbr σ1 τ1 hI1
set_option maxRecDepth 100000 in
set_option maxHeartbeats 4000000 in
theorem lc_6 (Inv : mm_M → mm_M → Prop) (n : Nat) (HA : mm_All Inv n) {V : mm_V2} {l : Launch} {b0 b1 : Nat} {D : va_G} {tA : Nat → ClassId} {aK aV : Nat → Nat} {b L : Nat} {xs : Nat → Int32} (C : mm_C2 V l (b0, mm_kx, D, tA, aK, aV) (b1, mm_km, D, tA, aK, aV) b L xs) {x : Int32} (σ τ : mm_M) (hI : Inv σ τ) (h0 : vp_in x L) (h1 : vp_in (x + 1) L) (h2 : vp_in (x + 2) L) (h3 : vp_in (x + 3) L) (h4 : vp_in (x + 4) L) (h5 : vp_in (x + 5) L) (hbr : ∀ σ1 τ1, Inv σ1 τ1 → V σ1 τ1 [(3, .int x), (2, .ref (mm_ad (b1, mm_km, D, tA, aK, aV) 0)), (1, .ref (mm_ad (b0, mm_kx, D, tA, aK, aV) 0)), (0, .ref b)] [] 1748) : V σ τ [(3, .int x), (2, .ref (mm_ad (b1, mm_km, D, tA, aK, aV) 0)), (1, .ref (mm_ad (b0, mm_kx, D, tA, aK, aV) 0)), (0, .ref b)] [] 472 := by
  obtain ⟨r, σ1, τ1, hx1, hm1, hI1⟩ := HA.2.2.2.2.2.2.1 (xs (x + 1).toNatClampNeg)  σ τ hI
  refine k2_aload_n (pc := 472) C dL_law_472 2 rfl rfl ?_
  refine k2_aload_n (pc := 473) C dL_law_473 3 rfl rfl ?_
  refine k2_iload_n (pc := 474) C dL_law_474 0 rfl rfl ?_
  refine k2_iconst (pc := 475) (v := 1) C dL_law_475 (by decide) ?_
  refine k2_iadd (pc := 476) C dL_law_476 ?_
  refine k2_sld (pc := 477) C dL_law_477 h1 ?_
  refine k2_xi (pc := 478) (As := [.int (xs (x + 1).toNatClampNeg)]) C mv_L_43 (c_X11_fault (b0, mm_kx, D, tA, aK, aV) n 576 σ 0 rfl (by decide) (xs (x + 1).toNatClampNeg)) hx1 rfl ⟨_, rfl, rfl⟩ rfl rfl (Nat.le_of_ble_eq_true rfl) (by decide) (by decide) dL_law_478 ?_
  refine k2_aload_n (pc := 481) C dL_law_481 1 rfl rfl ?_
  refine k2_aload_n (pc := 482) C dL_law_482 3 rfl rfl ?_
  refine k2_iload_n (pc := 483) C dL_law_483 0 rfl rfl ?_
  refine k2_iconst (pc := 484) (v := 1) C dL_law_484 (by decide) ?_
  refine k2_iadd (pc := 485) C dL_law_485 ?_
  refine k2_sld (pc := 486) C dL_law_486 h1 ?_
  refine k2_mi (pc := 487) (As := [.int (xs (x + 1).toNatClampNeg)]) C mv_L_46 (c_X12_fault (b1, mm_km, D, tA, aK, aV) n 20 τ 0 rfl (by decide) (xs (x + 1).toNatClampNeg)) hm1 rfl ⟨_, rfl, rfl⟩ rfl rfl (Nat.le_of_ble_eq_true rfl) (by decide) (by decide) dL_law_487 ?_
  refine k2_same (pc := 490) (tgt := 1748) C dL_law_490 (by decide) ?_
  exact hbr σ1 τ1 hI1
set_option maxRecDepth 100000 in
set_option maxHeartbeats 4000000 in
theorem lc_7 (Inv : mm_M → mm_M → Prop) (n : Nat) (HA : mm_All Inv n) {V : mm_V2} {l : Launch} {b0 b1 : Nat} {D : va_G} {tA : Nat → ClassId} {aK aV : Nat → Nat} {b L : Nat} {xs : Nat → Int32} (C : mm_C2 V l (b0, mm_kx, D, tA, aK, aV) (b1, mm_km, D, tA, aK, aV) b L xs) {x : Int32} (σ τ : mm_M) (hI : Inv σ τ) (h0 : vp_in x L) (h1 : vp_in (x + 1) L) (h2 : vp_in (x + 2) L) (h3 : vp_in (x + 3) L) (h4 : vp_in (x + 4) L) (h5 : vp_in (x + 5) L) (hbr : ∀ σ1 τ1, Inv σ1 τ1 → V σ1 τ1 [(3, .int x), (2, .ref (mm_ad (b1, mm_km, D, tA, aK, aV) 0)), (1, .ref (mm_ad (b0, mm_kx, D, tA, aK, aV) 0)), (0, .ref b)] [] 1748) : V σ τ [(3, .int x), (2, .ref (mm_ad (b1, mm_km, D, tA, aK, aV) 0)), (1, .ref (mm_ad (b0, mm_kx, D, tA, aK, aV) 0)), (0, .ref b)] [] 495 := by
  obtain ⟨r, σ1, τ1, hx1, hm1, hI1⟩ := HA.2.2.2.2.2.2.2.1 (xs (x + 1).toNatClampNeg)  σ τ hI
  refine k2_aload_n (pc := 495) C dL_law_495 2 rfl rfl ?_
  refine k2_aload_n (pc := 496) C dL_law_496 3 rfl rfl ?_
  refine k2_iload_n (pc := 497) C dL_law_497 0 rfl rfl ?_
  refine k2_iconst (pc := 498) (v := 1) C dL_law_498 (by decide) ?_
  refine k2_iadd (pc := 499) C dL_law_499 ?_
  refine k2_sld (pc := 500) C dL_law_500 h1 ?_
  refine k2_xi (pc := 501) (As := [.int (xs (x + 1).toNatClampNeg)]) C mv_L_47 (c_X11_by (b0, mm_kx, D, tA, aK, aV) n 576 σ 0 rfl (by decide) (xs (x + 1).toNatClampNeg)) hx1 rfl ⟨_, rfl, rfl⟩ rfl rfl (Nat.le_of_ble_eq_true rfl) (by decide) (by decide) dL_law_501 ?_
  refine k2_aload_n (pc := 504) C dL_law_504 1 rfl rfl ?_
  refine k2_aload_n (pc := 505) C dL_law_505 3 rfl rfl ?_
  refine k2_iload_n (pc := 506) C dL_law_506 0 rfl rfl ?_
  refine k2_iconst (pc := 507) (v := 1) C dL_law_507 (by decide) ?_
  refine k2_iadd (pc := 508) C dL_law_508 ?_
  refine k2_sld (pc := 509) C dL_law_509 h1 ?_
  refine k2_mi (pc := 510) (As := [.int (xs (x + 1).toNatClampNeg)]) C mv_L_51 (c_X12_by (b1, mm_km, D, tA, aK, aV) n 20 τ 0 rfl (by decide) (xs (x + 1).toNatClampNeg)) hm1 rfl ⟨_, rfl, rfl⟩ rfl rfl (Nat.le_of_ble_eq_true rfl) (by decide) (by decide) dL_law_510 ?_
  refine k2_same (pc := 513) (tgt := 1748) C dL_law_513 (by decide) ?_
  exact hbr σ1 τ1 hI1
set_option maxRecDepth 100000 in
set_option maxHeartbeats 4000000 in
theorem lc_8 (Inv : mm_M → mm_M → Prop) (n : Nat) (HA : mm_All Inv n) {V : mm_V2} {l : Launch} {b0 b1 : Nat} {D : va_G} {tA : Nat → ClassId} {aK aV : Nat → Nat} {b L : Nat} {xs : Nat → Int32} (C : mm_C2 V l (b0, mm_kx, D, tA, aK, aV) (b1, mm_km, D, tA, aK, aV) b L xs) {x : Int32} (σ τ : mm_M) (hI : Inv σ τ) (h0 : vp_in x L) (h1 : vp_in (x + 1) L) (h2 : vp_in (x + 2) L) (h3 : vp_in (x + 3) L) (h4 : vp_in (x + 4) L) (h5 : vp_in (x + 5) L) (hbr : ∀ σ1 τ1, Inv σ1 τ1 → V σ1 τ1 [(3, .int x), (2, .ref (mm_ad (b1, mm_km, D, tA, aK, aV) 0)), (1, .ref (mm_ad (b0, mm_kx, D, tA, aK, aV) 0)), (0, .ref b)] [] 1748) : V σ τ [(3, .int x), (2, .ref (mm_ad (b1, mm_km, D, tA, aK, aV) 0)), (1, .ref (mm_ad (b0, mm_kx, D, tA, aK, aV) 0)), (0, .ref b)] [] 518 := by
  obtain ⟨r, σ1, τ1, hx1, hm1, hI1⟩ := HA.2.2.2.2.2.2.2.2.1 (xs (x + 1).toNatClampNeg)  σ τ hI
  refine k2_aload_n (pc := 518) C dL_law_518 2 rfl rfl ?_
  refine k2_aload_n (pc := 519) C dL_law_519 3 rfl rfl ?_
  refine k2_iload_n (pc := 520) C dL_law_520 0 rfl rfl ?_
  refine k2_iconst (pc := 521) (v := 1) C dL_law_521 (by decide) ?_
  refine k2_iadd (pc := 522) C dL_law_522 ?_
  refine k2_sld (pc := 523) C dL_law_523 h1 ?_
  refine k2_xi (pc := 524) (As := [.int (xs (x + 1).toNatClampNeg)]) C mv_L_52 (c_X11_ask (b0, mm_kx, D, tA, aK, aV) n 576 σ 0 rfl (by decide) (xs (x + 1).toNatClampNeg)) hx1 rfl ⟨_, rfl, rfl⟩ rfl rfl (Nat.le_of_ble_eq_true rfl) (by decide) (by decide) dL_law_524 ?_
  refine k2_aload_n (pc := 527) C dL_law_527 1 rfl rfl ?_
  refine k2_aload_n (pc := 528) C dL_law_528 3 rfl rfl ?_
  refine k2_iload_n (pc := 529) C dL_law_529 0 rfl rfl ?_
  refine k2_iconst (pc := 530) (v := 1) C dL_law_530 (by decide) ?_
  refine k2_iadd (pc := 531) C dL_law_531 ?_
  refine k2_sld (pc := 532) C dL_law_532 h1 ?_
  refine k2_mi (pc := 533) (As := [.int (xs (x + 1).toNatClampNeg)]) C mv_L_55 (c_X12_ask (b1, mm_km, D, tA, aK, aV) n 20 τ 0 rfl (by decide) (xs (x + 1).toNatClampNeg)) hm1 rfl ⟨_, rfl, rfl⟩ rfl rfl (Nat.le_of_ble_eq_true rfl) (by decide) (by decide) dL_law_533 ?_
  refine k2_same (pc := 536) (tgt := 1748) C dL_law_536 (by decide) ?_
  exact hbr σ1 τ1 hI1
set_option maxRecDepth 100000 in
set_option maxHeartbeats 4000000 in
theorem lc_9 (Inv : mm_M → mm_M → Prop) (n : Nat) (HA : mm_All Inv n) {V : mm_V2} {l : Launch} {b0 b1 : Nat} {D : va_G} {tA : Nat → ClassId} {aK aV : Nat → Nat} {b L : Nat} {xs : Nat → Int32} (C : mm_C2 V l (b0, mm_kx, D, tA, aK, aV) (b1, mm_km, D, tA, aK, aV) b L xs) {x : Int32} (σ τ : mm_M) (hI : Inv σ τ) (h0 : vp_in x L) (h1 : vp_in (x + 1) L) (h2 : vp_in (x + 2) L) (h3 : vp_in (x + 3) L) (h4 : vp_in (x + 4) L) (h5 : vp_in (x + 5) L) (hbr : ∀ σ1 τ1, Inv σ1 τ1 → V σ1 τ1 [(3, .int x), (2, .ref (mm_ad (b1, mm_km, D, tA, aK, aV) 0)), (1, .ref (mm_ad (b0, mm_kx, D, tA, aK, aV) 0)), (0, .ref b)] [] 1748) : V σ τ [(3, .int x), (2, .ref (mm_ad (b1, mm_km, D, tA, aK, aV) 0)), (1, .ref (mm_ad (b0, mm_kx, D, tA, aK, aV) 0)), (0, .ref b)] [] 541 := by
  obtain ⟨r, σ1, τ1, hx1, hm1, hI1⟩ := HA.2.2.2.2.2.2.2.2.2.1 (xs (x + 1).toNatClampNeg) (xs (x + 2).toNatClampNeg)  σ τ hI
  refine k2_aload_n (pc := 541) C dL_law_541 2 rfl rfl ?_
  refine k2_aload_n (pc := 542) C dL_law_542 3 rfl rfl ?_
  refine k2_iload_n (pc := 543) C dL_law_543 0 rfl rfl ?_
  refine k2_iconst (pc := 544) (v := 1) C dL_law_544 (by decide) ?_
  refine k2_iadd (pc := 545) C dL_law_545 ?_
  refine k2_sld (pc := 546) C dL_law_546 h1 ?_
  refine k2_aload_n (pc := 547) C dL_law_547 3 rfl rfl ?_
  refine k2_iload_n (pc := 548) C dL_law_548 0 rfl rfl ?_
  refine k2_iconst (pc := 549) (v := 2) C dL_law_549 (by decide) ?_
  refine k2_iadd (pc := 550) C dL_law_550 ?_
  refine k2_sld (pc := 551) C dL_law_551 h2 ?_
  refine k2_xi (pc := 552) (As := [.int (xs (x + 1).toNatClampNeg), .int (xs (x + 2).toNatClampNeg)]) C mv_L_56 (c_X11_give (b0, mm_kx, D, tA, aK, aV) n 576 σ 0 rfl (by decide) (xs (x + 1).toNatClampNeg) (xs (x + 2).toNatClampNeg)) hx1 rfl ⟨_, rfl, rfl⟩ rfl rfl (Nat.le_of_ble_eq_true rfl) (by decide) (by decide) dL_law_552 ?_
  refine k2_aload_n (pc := 555) C dL_law_555 1 rfl rfl ?_
  refine k2_aload_n (pc := 556) C dL_law_556 3 rfl rfl ?_
  refine k2_iload_n (pc := 557) C dL_law_557 0 rfl rfl ?_
  refine k2_iconst (pc := 558) (v := 1) C dL_law_558 (by decide) ?_
  refine k2_iadd (pc := 559) C dL_law_559 ?_
  refine k2_sld (pc := 560) C dL_law_560 h1 ?_
  refine k2_aload_n (pc := 561) C dL_law_561 3 rfl rfl ?_
  refine k2_iload_n (pc := 562) C dL_law_562 0 rfl rfl ?_
  refine k2_iconst (pc := 563) (v := 2) C dL_law_563 (by decide) ?_
  refine k2_iadd (pc := 564) C dL_law_564 ?_
  refine k2_sld (pc := 565) C dL_law_565 h2 ?_
  refine k2_mi (pc := 566) (As := [.int (xs (x + 1).toNatClampNeg), .int (xs (x + 2).toNatClampNeg)]) C mv_L_59 (c_X12_give (b1, mm_km, D, tA, aK, aV) n 20 τ 0 rfl (by decide) (xs (x + 1).toNatClampNeg) (xs (x + 2).toNatClampNeg)) hm1 rfl ⟨_, rfl, rfl⟩ rfl rfl (Nat.le_of_ble_eq_true rfl) (by decide) (by decide) dL_law_566 ?_
  refine k2_same (pc := 569) (tgt := 1748) C dL_law_569 (by decide) ?_
  exact hbr σ1 τ1 hI1
set_option maxRecDepth 100000 in
set_option maxHeartbeats 4000000 in
theorem lc_10 (Inv : mm_M → mm_M → Prop) (n : Nat) (HA : mm_All Inv n) {V : mm_V2} {l : Launch} {b0 b1 : Nat} {D : va_G} {tA : Nat → ClassId} {aK aV : Nat → Nat} {b L : Nat} {xs : Nat → Int32} (C : mm_C2 V l (b0, mm_kx, D, tA, aK, aV) (b1, mm_km, D, tA, aK, aV) b L xs) {x : Int32} (σ τ : mm_M) (hI : Inv σ τ) (h0 : vp_in x L) (h1 : vp_in (x + 1) L) (h2 : vp_in (x + 2) L) (h3 : vp_in (x + 3) L) (h4 : vp_in (x + 4) L) (h5 : vp_in (x + 5) L) (hbr : ∀ σ1 τ1, Inv σ1 τ1 → V σ1 τ1 [(3, .int x), (2, .ref (mm_ad (b1, mm_km, D, tA, aK, aV) 0)), (1, .ref (mm_ad (b0, mm_kx, D, tA, aK, aV) 0)), (0, .ref b)] [] 1748) : V σ τ [(3, .int x), (2, .ref (mm_ad (b1, mm_km, D, tA, aK, aV) 0)), (1, .ref (mm_ad (b0, mm_kx, D, tA, aK, aV) 0)), (0, .ref b)] [] 574 := by
  obtain ⟨r, σ1, τ1, hx1, hm1, hI1⟩ := HA.2.2.2.2.2.2.2.2.2.2.1 (xs (x + 1).toNatClampNeg) (xs (x + 2).toNatClampNeg)  σ τ hI
  refine k2_aload_n (pc := 574) C dL_law_574 2 rfl rfl ?_
  refine k2_aload_n (pc := 575) C dL_law_575 3 rfl rfl ?_
  refine k2_iload_n (pc := 576) C dL_law_576 0 rfl rfl ?_
  refine k2_iconst (pc := 577) (v := 1) C dL_law_577 (by decide) ?_
  refine k2_iadd (pc := 578) C dL_law_578 ?_
  refine k2_sld (pc := 579) C dL_law_579 h1 ?_
  refine k2_aload_n (pc := 580) C dL_law_580 3 rfl rfl ?_
  refine k2_iload_n (pc := 581) C dL_law_581 0 rfl rfl ?_
  refine k2_iconst (pc := 582) (v := 2) C dL_law_582 (by decide) ?_
  refine k2_iadd (pc := 583) C dL_law_583 ?_
  refine k2_sld (pc := 584) C dL_law_584 h2 ?_
  refine k2_xi (pc := 585) (As := [.int (xs (x + 1).toNatClampNeg), .int (xs (x + 2).toNatClampNeg)]) C mv_L_60 (c_X11_again (b0, mm_kx, D, tA, aK, aV) n 576 σ 0 rfl (by decide) (xs (x + 1).toNatClampNeg) (xs (x + 2).toNatClampNeg)) hx1 rfl ⟨_, rfl, rfl⟩ rfl rfl (Nat.le_of_ble_eq_true rfl) (by decide) (by decide) dL_law_585 ?_
  refine k2_aload_n (pc := 588) C dL_law_588 1 rfl rfl ?_
  refine k2_aload_n (pc := 589) C dL_law_589 3 rfl rfl ?_
  refine k2_iload_n (pc := 590) C dL_law_590 0 rfl rfl ?_
  refine k2_iconst (pc := 591) (v := 1) C dL_law_591 (by decide) ?_
  refine k2_iadd (pc := 592) C dL_law_592 ?_
  refine k2_sld (pc := 593) C dL_law_593 h1 ?_
  refine k2_aload_n (pc := 594) C dL_law_594 3 rfl rfl ?_
  refine k2_iload_n (pc := 595) C dL_law_595 0 rfl rfl ?_
  refine k2_iconst (pc := 596) (v := 2) C dL_law_596 (by decide) ?_
  refine k2_iadd (pc := 597) C dL_law_597 ?_
  refine k2_sld (pc := 598) C dL_law_598 h2 ?_
  refine k2_mi (pc := 599) (As := [.int (xs (x + 1).toNatClampNeg), .int (xs (x + 2).toNatClampNeg)]) C mv_L_63 (c_X12_again (b1, mm_km, D, tA, aK, aV) n 20 τ 0 rfl (by decide) (xs (x + 1).toNatClampNeg) (xs (x + 2).toNatClampNeg)) hm1 rfl ⟨_, rfl, rfl⟩ rfl rfl (Nat.le_of_ble_eq_true rfl) (by decide) (by decide) dL_law_599 ?_
  refine k2_same (pc := 602) (tgt := 1748) C dL_law_602 (by decide) ?_
  exact hbr σ1 τ1 hI1
set_option maxRecDepth 100000 in
set_option maxHeartbeats 4000000 in
theorem lc_11 (Inv : mm_M → mm_M → Prop) (n : Nat) (HA : mm_All Inv n) {V : mm_V2} {l : Launch} {b0 b1 : Nat} {D : va_G} {tA : Nat → ClassId} {aK aV : Nat → Nat} {b L : Nat} {xs : Nat → Int32} (C : mm_C2 V l (b0, mm_kx, D, tA, aK, aV) (b1, mm_km, D, tA, aK, aV) b L xs) {x : Int32} (σ τ : mm_M) (hI : Inv σ τ) (h0 : vp_in x L) (h1 : vp_in (x + 1) L) (h2 : vp_in (x + 2) L) (h3 : vp_in (x + 3) L) (h4 : vp_in (x + 4) L) (h5 : vp_in (x + 5) L) (hbr : ∀ σ1 τ1, Inv σ1 τ1 → V σ1 τ1 [(3, .int x), (2, .ref (mm_ad (b1, mm_km, D, tA, aK, aV) 0)), (1, .ref (mm_ad (b0, mm_kx, D, tA, aK, aV) 0)), (0, .ref b)] [] 1748) : V σ τ [(3, .int x), (2, .ref (mm_ad (b1, mm_km, D, tA, aK, aV) 0)), (1, .ref (mm_ad (b0, mm_kx, D, tA, aK, aV) 0)), (0, .ref b)] [] 607 := by
  obtain ⟨r, σ1, τ1, hx1, hm1, hI1⟩ := HA.2.2.2.2.2.2.2.2.2.2.2.1 (xs (x + 1).toNatClampNeg)  σ τ hI
  refine k2_aload_n (pc := 607) C dL_law_607 2 rfl rfl ?_
  refine k2_aload_n (pc := 608) C dL_law_608 3 rfl rfl ?_
  refine k2_iload_n (pc := 609) C dL_law_609 0 rfl rfl ?_
  refine k2_iconst (pc := 610) (v := 1) C dL_law_610 (by decide) ?_
  refine k2_iadd (pc := 611) C dL_law_611 ?_
  refine k2_sld (pc := 612) C dL_law_612 h1 ?_
  refine k2_xi (pc := 613) (As := [.int (xs (x + 1).toNatClampNeg)]) C mv_L_64 (c_X11_day (b0, mm_kx, D, tA, aK, aV) n 576 σ 0 rfl (by decide) (xs (x + 1).toNatClampNeg)) hx1 rfl ⟨_, rfl, rfl⟩ rfl rfl (Nat.le_of_ble_eq_true rfl) (by decide) (by decide) dL_law_613 ?_
  refine k2_aload_n (pc := 616) C dL_law_616 1 rfl rfl ?_
  refine k2_aload_n (pc := 617) C dL_law_617 3 rfl rfl ?_
  refine k2_iload_n (pc := 618) C dL_law_618 0 rfl rfl ?_
  refine k2_iconst (pc := 619) (v := 1) C dL_law_619 (by decide) ?_
  refine k2_iadd (pc := 620) C dL_law_620 ?_
  refine k2_sld (pc := 621) C dL_law_621 h1 ?_
  refine k2_mi (pc := 622) (As := [.int (xs (x + 1).toNatClampNeg)]) C mv_L_67 (c_X12_day (b1, mm_km, D, tA, aK, aV) n 20 τ 0 rfl (by decide) (xs (x + 1).toNatClampNeg)) hm1 rfl ⟨_, rfl, rfl⟩ rfl rfl (Nat.le_of_ble_eq_true rfl) (by decide) (by decide) dL_law_622 ?_
  refine k2_same (pc := 625) (tgt := 1748) C dL_law_625 (by decide) ?_
  exact hbr σ1 τ1 hI1
set_option maxRecDepth 100000 in
set_option maxHeartbeats 4000000 in
theorem lc_12 (Inv : mm_M → mm_M → Prop) (n : Nat) (HA : mm_All Inv n) {V : mm_V2} {l : Launch} {b0 b1 : Nat} {D : va_G} {tA : Nat → ClassId} {aK aV : Nat → Nat} {b L : Nat} {xs : Nat → Int32} (C : mm_C2 V l (b0, mm_kx, D, tA, aK, aV) (b1, mm_km, D, tA, aK, aV) b L xs) {x : Int32} (σ τ : mm_M) (hI : Inv σ τ) (h0 : vp_in x L) (h1 : vp_in (x + 1) L) (h2 : vp_in (x + 2) L) (h3 : vp_in (x + 3) L) (h4 : vp_in (x + 4) L) (h5 : vp_in (x + 5) L) (hbr : ∀ σ1 τ1, Inv σ1 τ1 → V σ1 τ1 [(3, .int x), (2, .ref (mm_ad (b1, mm_km, D, tA, aK, aV) 0)), (1, .ref (mm_ad (b0, mm_kx, D, tA, aK, aV) 0)), (0, .ref b)] [] 1748) : V σ τ [(3, .int x), (2, .ref (mm_ad (b1, mm_km, D, tA, aK, aV) 0)), (1, .ref (mm_ad (b0, mm_kx, D, tA, aK, aV) 0)), (0, .ref b)] [] 630 := by
  obtain ⟨r, σ1, τ1, hx1, hm1, hI1⟩ := HA.2.2.2.2.2.2.2.2.2.2.2.2.1 (xs (x + 1).toNatClampNeg)  σ τ hI
  refine k2_aload_n (pc := 630) C dL_law_630 2 rfl rfl ?_
  refine k2_aload_n (pc := 631) C dL_law_631 3 rfl rfl ?_
  refine k2_iload_n (pc := 632) C dL_law_632 0 rfl rfl ?_
  refine k2_iconst (pc := 633) (v := 1) C dL_law_633 (by decide) ?_
  refine k2_iadd (pc := 634) C dL_law_634 ?_
  refine k2_sld (pc := 635) C dL_law_635 h1 ?_
  refine k2_xi (pc := 636) (As := [.int (xs (x + 1).toNatClampNeg)]) C mv_L_68 (c_X11_played (b0, mm_kx, D, tA, aK, aV) n 576 σ 0 rfl (by decide) (xs (x + 1).toNatClampNeg)) hx1 rfl ⟨_, rfl, rfl⟩ rfl rfl (Nat.le_of_ble_eq_true rfl) (by decide) (by decide) dL_law_636 ?_
  refine k2_aload_n (pc := 639) C dL_law_639 1 rfl rfl ?_
  refine k2_aload_n (pc := 640) C dL_law_640 3 rfl rfl ?_
  refine k2_iload_n (pc := 641) C dL_law_641 0 rfl rfl ?_
  refine k2_iconst (pc := 642) (v := 1) C dL_law_642 (by decide) ?_
  refine k2_iadd (pc := 643) C dL_law_643 ?_
  refine k2_sld (pc := 644) C dL_law_644 h1 ?_
  refine k2_mi (pc := 645) (As := [.int (xs (x + 1).toNatClampNeg)]) C mv_L_71 (c_X12_played (b1, mm_km, D, tA, aK, aV) n 20 τ 0 rfl (by decide) (xs (x + 1).toNatClampNeg)) hm1 rfl ⟨_, rfl, rfl⟩ rfl rfl (Nat.le_of_ble_eq_true rfl) (by decide) (by decide) dL_law_645 ?_
  refine k2_same (pc := 648) (tgt := 1748) C dL_law_648 (by decide) ?_
  exact hbr σ1 τ1 hI1
set_option maxRecDepth 100000 in
set_option maxHeartbeats 4000000 in
theorem lc_13 (Inv : mm_M → mm_M → Prop) (n : Nat) (HA : mm_All Inv n) {V : mm_V2} {l : Launch} {b0 b1 : Nat} {D : va_G} {tA : Nat → ClassId} {aK aV : Nat → Nat} {b L : Nat} {xs : Nat → Int32} (C : mm_C2 V l (b0, mm_kx, D, tA, aK, aV) (b1, mm_km, D, tA, aK, aV) b L xs) {x : Int32} (σ τ : mm_M) (hI : Inv σ τ) (h0 : vp_in x L) (h1 : vp_in (x + 1) L) (h2 : vp_in (x + 2) L) (h3 : vp_in (x + 3) L) (h4 : vp_in (x + 4) L) (h5 : vp_in (x + 5) L) (hbr : ∀ σ1 τ1, Inv σ1 τ1 → V σ1 τ1 [(3, .int x), (2, .ref (mm_ad (b1, mm_km, D, tA, aK, aV) 0)), (1, .ref (mm_ad (b0, mm_kx, D, tA, aK, aV) 0)), (0, .ref b)] [] 1748) : V σ τ [(3, .int x), (2, .ref (mm_ad (b1, mm_km, D, tA, aK, aV) 0)), (1, .ref (mm_ad (b0, mm_kx, D, tA, aK, aV) 0)), (0, .ref b)] [] 653 := by
  obtain ⟨r, σ1, τ1, hx1, hm1, hI1⟩ := HA.2.2.2.2.2.2.2.2.2.2.2.2.2.1 (xs (x + 1).toNatClampNeg) (xs (x + 2).toNatClampNeg)  σ τ hI
  refine k2_aload_n (pc := 653) C dL_law_653 2 rfl rfl ?_
  refine k2_aload_n (pc := 654) C dL_law_654 3 rfl rfl ?_
  refine k2_iload_n (pc := 655) C dL_law_655 0 rfl rfl ?_
  refine k2_iconst (pc := 656) (v := 1) C dL_law_656 (by decide) ?_
  refine k2_iadd (pc := 657) C dL_law_657 ?_
  refine k2_sld (pc := 658) C dL_law_658 h1 ?_
  refine k2_aload_n (pc := 659) C dL_law_659 3 rfl rfl ?_
  refine k2_iload_n (pc := 660) C dL_law_660 0 rfl rfl ?_
  refine k2_iconst (pc := 661) (v := 2) C dL_law_661 (by decide) ?_
  refine k2_iadd (pc := 662) C dL_law_662 ?_
  refine k2_sld (pc := 663) C dL_law_663 h2 ?_
  refine k2_xi (pc := 664) (As := [.int (xs (x + 1).toNatClampNeg), .int (xs (x + 2).toNatClampNeg)]) C mv_L_72 (c_X11_years (b0, mm_kx, D, tA, aK, aV) n 576 σ 0 rfl (by decide) (xs (x + 1).toNatClampNeg) (xs (x + 2).toNatClampNeg)) hx1 rfl ⟨_, rfl, rfl⟩ rfl rfl (Nat.le_of_ble_eq_true rfl) (by decide) (by decide) dL_law_664 ?_
  refine k2_aload_n (pc := 667) C dL_law_667 1 rfl rfl ?_
  refine k2_aload_n (pc := 668) C dL_law_668 3 rfl rfl ?_
  refine k2_iload_n (pc := 669) C dL_law_669 0 rfl rfl ?_
  refine k2_iconst (pc := 670) (v := 1) C dL_law_670 (by decide) ?_
  refine k2_iadd (pc := 671) C dL_law_671 ?_
  refine k2_sld (pc := 672) C dL_law_672 h1 ?_
  refine k2_aload_n (pc := 673) C dL_law_673 3 rfl rfl ?_
  refine k2_iload_n (pc := 674) C dL_law_674 0 rfl rfl ?_
  refine k2_iconst (pc := 675) (v := 2) C dL_law_675 (by decide) ?_
  refine k2_iadd (pc := 676) C dL_law_676 ?_
  refine k2_sld (pc := 677) C dL_law_677 h2 ?_
  refine k2_mi (pc := 678) (As := [.int (xs (x + 1).toNatClampNeg), .int (xs (x + 2).toNatClampNeg)]) C mv_L_75 (c_X12_years (b1, mm_km, D, tA, aK, aV) n 20 τ 0 rfl (by decide) (xs (x + 1).toNatClampNeg) (xs (x + 2).toNatClampNeg)) hm1 rfl ⟨_, rfl, rfl⟩ rfl rfl (Nat.le_of_ble_eq_true rfl) (by decide) (by decide) dL_law_678 ?_
  refine k2_same (pc := 681) (tgt := 1748) C dL_law_681 (by decide) ?_
  exact hbr σ1 τ1 hI1
set_option maxRecDepth 100000 in
set_option maxHeartbeats 4000000 in
theorem lc_14 (Inv : mm_M → mm_M → Prop) (n : Nat) (HA : mm_All Inv n) {V : mm_V2} {l : Launch} {b0 b1 : Nat} {D : va_G} {tA : Nat → ClassId} {aK aV : Nat → Nat} {b L : Nat} {xs : Nat → Int32} (C : mm_C2 V l (b0, mm_kx, D, tA, aK, aV) (b1, mm_km, D, tA, aK, aV) b L xs) {x : Int32} (σ τ : mm_M) (hI : Inv σ τ) (h0 : vp_in x L) (h1 : vp_in (x + 1) L) (h2 : vp_in (x + 2) L) (h3 : vp_in (x + 3) L) (h4 : vp_in (x + 4) L) (h5 : vp_in (x + 5) L) (hbr : ∀ σ1 τ1, Inv σ1 τ1 → V σ1 τ1 [(3, .int x), (2, .ref (mm_ad (b1, mm_km, D, tA, aK, aV) 0)), (1, .ref (mm_ad (b0, mm_kx, D, tA, aK, aV) 0)), (0, .ref b)] [] 1748) : V σ τ [(3, .int x), (2, .ref (mm_ad (b1, mm_km, D, tA, aK, aV) 0)), (1, .ref (mm_ad (b0, mm_kx, D, tA, aK, aV) 0)), (0, .ref b)] [] 686 := by
  obtain ⟨r, σ1, τ1, hx1, hm1, hI1⟩ := HA.2.2.2.2.2.2.2.2.2.2.2.2.2.2.1   σ τ hI
  refine k2_aload_n (pc := 686) C dL_law_686 2 rfl rfl ?_
  refine k2_xi (pc := 687) (As := []) C mv_L_76 (c_X11_undo (b0, mm_kx, D, tA, aK, aV) n 576 σ 0 rfl (by decide) ) hx1 rfl ⟨_, rfl, rfl⟩ rfl rfl (Nat.le_of_ble_eq_true rfl) (by decide) (by decide) dL_law_687 ?_
  refine k2_aload_n (pc := 690) C dL_law_690 1 rfl rfl ?_
  refine k2_mi (pc := 691) (As := []) C mv_L_79 (c_X12_undo (b1, mm_km, D, tA, aK, aV) n 20 τ 0 rfl (by decide) ) hm1 rfl ⟨_, rfl, rfl⟩ rfl rfl (Nat.le_of_ble_eq_true rfl) (by decide) (by decide) dL_law_691 ?_
  refine k2_same (pc := 694) (tgt := 1748) C dL_law_694 (by decide) ?_
  exact hbr σ1 τ1 hI1
set_option maxRecDepth 100000 in
set_option maxHeartbeats 4000000 in
theorem lc_15 (Inv : mm_M → mm_M → Prop) (n : Nat) (HA : mm_All Inv n) {V : mm_V2} {l : Launch} {b0 b1 : Nat} {D : va_G} {tA : Nat → ClassId} {aK aV : Nat → Nat} {b L : Nat} {xs : Nat → Int32} (C : mm_C2 V l (b0, mm_kx, D, tA, aK, aV) (b1, mm_km, D, tA, aK, aV) b L xs) {x : Int32} (σ τ : mm_M) (hI : Inv σ τ) (h0 : vp_in x L) (h1 : vp_in (x + 1) L) (h2 : vp_in (x + 2) L) (h3 : vp_in (x + 3) L) (h4 : vp_in (x + 4) L) (h5 : vp_in (x + 5) L) (hbr : ∀ σ1 τ1, Inv σ1 τ1 → V σ1 τ1 [(3, .int x), (2, .ref (mm_ad (b1, mm_km, D, tA, aK, aV) 0)), (1, .ref (mm_ad (b0, mm_kx, D, tA, aK, aV) 0)), (0, .ref b)] [] 1748) : V σ τ [(3, .int x), (2, .ref (mm_ad (b1, mm_km, D, tA, aK, aV) 0)), (1, .ref (mm_ad (b0, mm_kx, D, tA, aK, aV) 0)), (0, .ref b)] [] 699 := by
  obtain ⟨r, σ1, τ1, hx1, hm1, hI1⟩ := HA.2.2.2.2.2.2.2.2.2.2.2.2.2.2.2.1 (xs (x + 1).toNatClampNeg) (xs (x + 2).toNatClampNeg)  σ τ hI
  refine k2_aload_n (pc := 699) C dL_law_699 2 rfl rfl ?_
  refine k2_aload_n (pc := 700) C dL_law_700 3 rfl rfl ?_
  refine k2_iload_n (pc := 701) C dL_law_701 0 rfl rfl ?_
  refine k2_iconst (pc := 702) (v := 1) C dL_law_702 (by decide) ?_
  refine k2_iadd (pc := 703) C dL_law_703 ?_
  refine k2_sld (pc := 704) C dL_law_704 h1 ?_
  refine k2_aload_n (pc := 705) C dL_law_705 3 rfl rfl ?_
  refine k2_iload_n (pc := 706) C dL_law_706 0 rfl rfl ?_
  refine k2_iconst (pc := 707) (v := 2) C dL_law_707 (by decide) ?_
  refine k2_iadd (pc := 708) C dL_law_708 ?_
  refine k2_sld (pc := 709) C dL_law_709 h2 ?_
  refine k2_xi (pc := 710) (As := [.int (xs (x + 1).toNatClampNeg), .int (xs (x + 2).toNatClampNeg)]) C mv_L_80 (c_X11_of (b0, mm_kx, D, tA, aK, aV) n 576 σ 0 rfl (by decide) (xs (x + 1).toNatClampNeg) (xs (x + 2).toNatClampNeg)) hx1 rfl ⟨_, rfl, rfl⟩ rfl rfl (Nat.le_of_ble_eq_true rfl) (by decide) (by decide) dL_law_710 ?_
  refine k2_aload_n (pc := 713) C dL_law_713 1 rfl rfl ?_
  refine k2_aload_n (pc := 714) C dL_law_714 3 rfl rfl ?_
  refine k2_iload_n (pc := 715) C dL_law_715 0 rfl rfl ?_
  refine k2_iconst (pc := 716) (v := 1) C dL_law_716 (by decide) ?_
  refine k2_iadd (pc := 717) C dL_law_717 ?_
  refine k2_sld (pc := 718) C dL_law_718 h1 ?_
  refine k2_aload_n (pc := 719) C dL_law_719 3 rfl rfl ?_
  refine k2_iload_n (pc := 720) C dL_law_720 0 rfl rfl ?_
  refine k2_iconst (pc := 721) (v := 2) C dL_law_721 (by decide) ?_
  refine k2_iadd (pc := 722) C dL_law_722 ?_
  refine k2_sld (pc := 723) C dL_law_723 h2 ?_
  refine k2_mi (pc := 724) (As := [.int (xs (x + 1).toNatClampNeg), .int (xs (x + 2).toNatClampNeg)]) C mv_L_83 (c_X12_of (b1, mm_km, D, tA, aK, aV) n 20 τ 0 rfl (by decide) (xs (x + 1).toNatClampNeg) (xs (x + 2).toNatClampNeg)) hm1 rfl ⟨_, rfl, rfl⟩ rfl rfl (Nat.le_of_ble_eq_true rfl) (by decide) (by decide) dL_law_724 ?_
  refine k2_same (pc := 727) (tgt := 1748) C dL_law_727 (by decide) ?_
  exact hbr σ1 τ1 hI1
set_option maxRecDepth 100000 in
set_option maxHeartbeats 4000000 in
theorem lc_16 (Inv : mm_M → mm_M → Prop) (n : Nat) (HA : mm_All Inv n) {V : mm_V2} {l : Launch} {b0 b1 : Nat} {D : va_G} {tA : Nat → ClassId} {aK aV : Nat → Nat} {b L : Nat} {xs : Nat → Int32} (C : mm_C2 V l (b0, mm_kx, D, tA, aK, aV) (b1, mm_km, D, tA, aK, aV) b L xs) {x : Int32} (σ τ : mm_M) (hI : Inv σ τ) (h0 : vp_in x L) (h1 : vp_in (x + 1) L) (h2 : vp_in (x + 2) L) (h3 : vp_in (x + 3) L) (h4 : vp_in (x + 4) L) (h5 : vp_in (x + 5) L) (hbr : ∀ σ1 τ1, Inv σ1 τ1 → V σ1 τ1 [(3, .int x), (2, .ref (mm_ad (b1, mm_km, D, tA, aK, aV) 0)), (1, .ref (mm_ad (b0, mm_kx, D, tA, aK, aV) 0)), (0, .ref b)] [] 1748) : V σ τ [(3, .int x), (2, .ref (mm_ad (b1, mm_km, D, tA, aK, aV) 0)), (1, .ref (mm_ad (b0, mm_kx, D, tA, aK, aV) 0)), (0, .ref b)] [] 732 := by
  obtain ⟨r, σ1, τ1, hx1, hm1, hI1⟩ := HA.2.2.2.2.2.2.2.2.2.2.2.2.2.2.2.2.1 (xs (x + 1).toNatClampNeg) (xs (x + 2).toNatClampNeg)  σ τ hI
  refine k2_aload_n (pc := 732) C dL_law_732 2 rfl rfl ?_
  refine k2_aload_n (pc := 733) C dL_law_733 3 rfl rfl ?_
  refine k2_iload_n (pc := 734) C dL_law_734 0 rfl rfl ?_
  refine k2_iconst (pc := 735) (v := 1) C dL_law_735 (by decide) ?_
  refine k2_iadd (pc := 736) C dL_law_736 ?_
  refine k2_sld (pc := 737) C dL_law_737 h1 ?_
  refine k2_aload_n (pc := 738) C dL_law_738 3 rfl rfl ?_
  refine k2_iload_n (pc := 739) C dL_law_739 0 rfl rfl ?_
  refine k2_iconst (pc := 740) (v := 2) C dL_law_740 (by decide) ?_
  refine k2_iadd (pc := 741) C dL_law_741 ?_
  refine k2_sld (pc := 742) C dL_law_742 h2 ?_
  refine k2_xi (pc := 743) (As := [.int (xs (x + 1).toNatClampNeg), .int (xs (x + 2).toNatClampNeg)]) C mv_L_84 (c_X11_ofWant (b0, mm_kx, D, tA, aK, aV) n 576 σ 0 rfl (by decide) (xs (x + 1).toNatClampNeg) (xs (x + 2).toNatClampNeg)) hx1 rfl ⟨_, rfl, rfl⟩ rfl rfl (Nat.le_of_ble_eq_true rfl) (by decide) (by decide) dL_law_743 ?_
  refine k2_aload_n (pc := 746) C dL_law_746 1 rfl rfl ?_
  refine k2_aload_n (pc := 747) C dL_law_747 3 rfl rfl ?_
  refine k2_iload_n (pc := 748) C dL_law_748 0 rfl rfl ?_
  refine k2_iconst (pc := 749) (v := 1) C dL_law_749 (by decide) ?_
  refine k2_iadd (pc := 750) C dL_law_750 ?_
  refine k2_sld (pc := 751) C dL_law_751 h1 ?_
  refine k2_aload_n (pc := 752) C dL_law_752 3 rfl rfl ?_
  refine k2_iload_n (pc := 753) C dL_law_753 0 rfl rfl ?_
  refine k2_iconst (pc := 754) (v := 2) C dL_law_754 (by decide) ?_
  refine k2_iadd (pc := 755) C dL_law_755 ?_
  refine k2_sld (pc := 756) C dL_law_756 h2 ?_
  refine k2_mi (pc := 757) (As := [.int (xs (x + 1).toNatClampNeg), .int (xs (x + 2).toNatClampNeg)]) C mv_L_87 (c_X12_ofWant (b1, mm_km, D, tA, aK, aV) n 20 τ 0 rfl (by decide) (xs (x + 1).toNatClampNeg) (xs (x + 2).toNatClampNeg)) hm1 rfl ⟨_, rfl, rfl⟩ rfl rfl (Nat.le_of_ble_eq_true rfl) (by decide) (by decide) dL_law_757 ?_
  refine k2_same (pc := 760) (tgt := 1748) C dL_law_760 (by decide) ?_
  exact hbr σ1 τ1 hI1
set_option maxRecDepth 100000 in
set_option maxHeartbeats 4000000 in
theorem lc_17 (Inv : mm_M → mm_M → Prop) (n : Nat) (HA : mm_All Inv n) {V : mm_V2} {l : Launch} {b0 b1 : Nat} {D : va_G} {tA : Nat → ClassId} {aK aV : Nat → Nat} {b L : Nat} {xs : Nat → Int32} (C : mm_C2 V l (b0, mm_kx, D, tA, aK, aV) (b1, mm_km, D, tA, aK, aV) b L xs) {x : Int32} (σ τ : mm_M) (hI : Inv σ τ) (h0 : vp_in x L) (h1 : vp_in (x + 1) L) (h2 : vp_in (x + 2) L) (h3 : vp_in (x + 3) L) (h4 : vp_in (x + 4) L) (h5 : vp_in (x + 5) L) (hbr : ∀ σ1 τ1, Inv σ1 τ1 → V σ1 τ1 [(3, .int x), (2, .ref (mm_ad (b1, mm_km, D, tA, aK, aV) 0)), (1, .ref (mm_ad (b0, mm_kx, D, tA, aK, aV) 0)), (0, .ref b)] [] 1748) : V σ τ [(3, .int x), (2, .ref (mm_ad (b1, mm_km, D, tA, aK, aV) 0)), (1, .ref (mm_ad (b0, mm_kx, D, tA, aK, aV) 0)), (0, .ref b)] [] 765 := by
  obtain ⟨r, σ1, τ1, hx1, hm1, hI1⟩ := HA.2.2.2.2.2.2.2.2.2.2.2.2.2.2.2.2.2.1 (xs (x + 1).toNatClampNeg) (xs (x + 2).toNatClampNeg)  σ τ hI
  refine k2_aload_n (pc := 765) C dL_law_765 2 rfl rfl ?_
  refine k2_aload_n (pc := 766) C dL_law_766 3 rfl rfl ?_
  refine k2_iload_n (pc := 767) C dL_law_767 0 rfl rfl ?_
  refine k2_iconst (pc := 768) (v := 1) C dL_law_768 (by decide) ?_
  refine k2_iadd (pc := 769) C dL_law_769 ?_
  refine k2_sld (pc := 770) C dL_law_770 h1 ?_
  refine k2_aload_n (pc := 771) C dL_law_771 3 rfl rfl ?_
  refine k2_iload_n (pc := 772) C dL_law_772 0 rfl rfl ?_
  refine k2_iconst (pc := 773) (v := 2) C dL_law_773 (by decide) ?_
  refine k2_iadd (pc := 774) C dL_law_774 ?_
  refine k2_sld (pc := 775) C dL_law_775 h2 ?_
  refine k2_xi (pc := 776) (As := [.int (xs (x + 1).toNatClampNeg), .int (xs (x + 2).toNatClampNeg)]) C mv_L_88 (c_X11_tells (b0, mm_kx, D, tA, aK, aV) n 576 σ 0 rfl (by decide) (xs (x + 1).toNatClampNeg) (xs (x + 2).toNatClampNeg)) hx1 rfl ⟨_, rfl, rfl⟩ rfl rfl (Nat.le_of_ble_eq_true rfl) (by decide) (by decide) dL_law_776 ?_
  refine k2_aload_n (pc := 779) C dL_law_779 1 rfl rfl ?_
  refine k2_aload_n (pc := 780) C dL_law_780 3 rfl rfl ?_
  refine k2_iload_n (pc := 781) C dL_law_781 0 rfl rfl ?_
  refine k2_iconst (pc := 782) (v := 1) C dL_law_782 (by decide) ?_
  refine k2_iadd (pc := 783) C dL_law_783 ?_
  refine k2_sld (pc := 784) C dL_law_784 h1 ?_
  refine k2_aload_n (pc := 785) C dL_law_785 3 rfl rfl ?_
  refine k2_iload_n (pc := 786) C dL_law_786 0 rfl rfl ?_
  refine k2_iconst (pc := 787) (v := 2) C dL_law_787 (by decide) ?_
  refine k2_iadd (pc := 788) C dL_law_788 ?_
  refine k2_sld (pc := 789) C dL_law_789 h2 ?_
  refine k2_mi (pc := 790) (As := [.int (xs (x + 1).toNatClampNeg), .int (xs (x + 2).toNatClampNeg)]) C mv_L_91 (c_X12_tells (b1, mm_km, D, tA, aK, aV) n 20 τ 0 rfl (by decide) (xs (x + 1).toNatClampNeg) (xs (x + 2).toNatClampNeg)) hm1 rfl ⟨_, rfl, rfl⟩ rfl rfl (Nat.le_of_ble_eq_true rfl) (by decide) (by decide) dL_law_790 ?_
  refine k2_same (pc := 793) (tgt := 1748) C dL_law_793 (by decide) ?_
  exact hbr σ1 τ1 hI1
set_option maxRecDepth 100000 in
set_option maxHeartbeats 4000000 in
theorem lc_18 (Inv : mm_M → mm_M → Prop) (n : Nat) (HA : mm_All Inv n) {V : mm_V2} {l : Launch} {b0 b1 : Nat} {D : va_G} {tA : Nat → ClassId} {aK aV : Nat → Nat} {b L : Nat} {xs : Nat → Int32} (C : mm_C2 V l (b0, mm_kx, D, tA, aK, aV) (b1, mm_km, D, tA, aK, aV) b L xs) {x : Int32} (σ τ : mm_M) (hI : Inv σ τ) (h0 : vp_in x L) (h1 : vp_in (x + 1) L) (h2 : vp_in (x + 2) L) (h3 : vp_in (x + 3) L) (h4 : vp_in (x + 4) L) (h5 : vp_in (x + 5) L) (hbr : ∀ σ1 τ1, Inv σ1 τ1 → V σ1 τ1 [(3, .int x), (2, .ref (mm_ad (b1, mm_km, D, tA, aK, aV) 0)), (1, .ref (mm_ad (b0, mm_kx, D, tA, aK, aV) 0)), (0, .ref b)] [] 1748) : V σ τ [(3, .int x), (2, .ref (mm_ad (b1, mm_km, D, tA, aK, aV) 0)), (1, .ref (mm_ad (b0, mm_kx, D, tA, aK, aV) 0)), (0, .ref b)] [] 798 := by
  obtain ⟨r, σ1, τ1, hx1, hm1, hI1⟩ := HA.2.2.2.2.2.2.2.2.2.2.2.2.2.2.2.2.2.2.1 (xs (x + 1).toNatClampNeg)  σ τ hI
  refine k2_aload_n (pc := 798) C dL_law_798 2 rfl rfl ?_
  refine k2_aload_n (pc := 799) C dL_law_799 3 rfl rfl ?_
  refine k2_iload_n (pc := 800) C dL_law_800 0 rfl rfl ?_
  refine k2_iconst (pc := 801) (v := 1) C dL_law_801 (by decide) ?_
  refine k2_iadd (pc := 802) C dL_law_802 ?_
  refine k2_sld (pc := 803) C dL_law_803 h1 ?_
  refine k2_xi (pc := 804) (As := [.int (xs (x + 1).toNatClampNeg)]) C mv_L_92 (c_X11_is (b0, mm_kx, D, tA, aK, aV) n 576 σ 0 rfl (by decide) (xs (x + 1).toNatClampNeg)) hx1 rfl ⟨_, rfl, rfl⟩ rfl rfl (Nat.le_of_ble_eq_true rfl) (by decide) (by decide) dL_law_804 ?_
  refine k2_aload_n (pc := 807) C dL_law_807 1 rfl rfl ?_
  refine k2_aload_n (pc := 808) C dL_law_808 3 rfl rfl ?_
  refine k2_iload_n (pc := 809) C dL_law_809 0 rfl rfl ?_
  refine k2_iconst (pc := 810) (v := 1) C dL_law_810 (by decide) ?_
  refine k2_iadd (pc := 811) C dL_law_811 ?_
  refine k2_sld (pc := 812) C dL_law_812 h1 ?_
  refine k2_mi (pc := 813) (As := [.int (xs (x + 1).toNatClampNeg)]) C mv_L_95 (c_X12_is (b1, mm_km, D, tA, aK, aV) n 20 τ 0 rfl (by decide) (xs (x + 1).toNatClampNeg)) hm1 rfl ⟨_, rfl, rfl⟩ rfl rfl (Nat.le_of_ble_eq_true rfl) (by decide) (by decide) dL_law_813 ?_
  refine k2_same (pc := 816) (tgt := 1748) C dL_law_816 (by decide) ?_
  exact hbr σ1 τ1 hI1
set_option maxRecDepth 100000 in
set_option maxHeartbeats 4000000 in
theorem lc_19 (Inv : mm_M → mm_M → Prop) (n : Nat) (HA : mm_All Inv n) {V : mm_V2} {l : Launch} {b0 b1 : Nat} {D : va_G} {tA : Nat → ClassId} {aK aV : Nat → Nat} {b L : Nat} {xs : Nat → Int32} (C : mm_C2 V l (b0, mm_kx, D, tA, aK, aV) (b1, mm_km, D, tA, aK, aV) b L xs) {x : Int32} (σ τ : mm_M) (hI : Inv σ τ) (h0 : vp_in x L) (h1 : vp_in (x + 1) L) (h2 : vp_in (x + 2) L) (h3 : vp_in (x + 3) L) (h4 : vp_in (x + 4) L) (h5 : vp_in (x + 5) L) (hbr : ∀ σ1 τ1, Inv σ1 τ1 → V σ1 τ1 [(3, .int x), (2, .ref (mm_ad (b1, mm_km, D, tA, aK, aV) 0)), (1, .ref (mm_ad (b0, mm_kx, D, tA, aK, aV) 0)), (0, .ref b)] [] 1748) : V σ τ [(3, .int x), (2, .ref (mm_ad (b1, mm_km, D, tA, aK, aV) 0)), (1, .ref (mm_ad (b0, mm_kx, D, tA, aK, aV) 0)), (0, .ref b)] [] 821 := by
  obtain ⟨r, σ1, τ1, hx1, hm1, hI1⟩ := HA.2.2.2.2.2.2.2.2.2.2.2.2.2.2.2.2.2.2.2.1 (xs (x + 1).toNatClampNeg) (xs (x + 2).toNatClampNeg)  σ τ hI
  refine k2_aload_n (pc := 821) C dL_law_821 2 rfl rfl ?_
  refine k2_aload_n (pc := 822) C dL_law_822 3 rfl rfl ?_
  refine k2_iload_n (pc := 823) C dL_law_823 0 rfl rfl ?_
  refine k2_iconst (pc := 824) (v := 1) C dL_law_824 (by decide) ?_
  refine k2_iadd (pc := 825) C dL_law_825 ?_
  refine k2_sld (pc := 826) C dL_law_826 h1 ?_
  refine k2_aload_n (pc := 827) C dL_law_827 3 rfl rfl ?_
  refine k2_iload_n (pc := 828) C dL_law_828 0 rfl rfl ?_
  refine k2_iconst (pc := 829) (v := 2) C dL_law_829 (by decide) ?_
  refine k2_iadd (pc := 830) C dL_law_830 ?_
  refine k2_sld (pc := 831) C dL_law_831 h2 ?_
  refine k2_xi (pc := 832) (As := [.int (xs (x + 1).toNatClampNeg), .int (xs (x + 2).toNatClampNeg)]) C mv_L_96 (c_X11_book (b0, mm_kx, D, tA, aK, aV) n 576 σ 0 rfl (by decide) (xs (x + 1).toNatClampNeg) (xs (x + 2).toNatClampNeg)) hx1 rfl ⟨_, rfl, rfl⟩ rfl rfl (Nat.le_of_ble_eq_true rfl) (by decide) (by decide) dL_law_832 ?_
  refine k2_aload_n (pc := 835) C dL_law_835 1 rfl rfl ?_
  refine k2_aload_n (pc := 836) C dL_law_836 3 rfl rfl ?_
  refine k2_iload_n (pc := 837) C dL_law_837 0 rfl rfl ?_
  refine k2_iconst (pc := 838) (v := 1) C dL_law_838 (by decide) ?_
  refine k2_iadd (pc := 839) C dL_law_839 ?_
  refine k2_sld (pc := 840) C dL_law_840 h1 ?_
  refine k2_aload_n (pc := 841) C dL_law_841 3 rfl rfl ?_
  refine k2_iload_n (pc := 842) C dL_law_842 0 rfl rfl ?_
  refine k2_iconst (pc := 843) (v := 2) C dL_law_843 (by decide) ?_
  refine k2_iadd (pc := 844) C dL_law_844 ?_
  refine k2_sld (pc := 845) C dL_law_845 h2 ?_
  refine k2_mi (pc := 846) (As := [.int (xs (x + 1).toNatClampNeg), .int (xs (x + 2).toNatClampNeg)]) C mv_L_99 (c_X12_book (b1, mm_km, D, tA, aK, aV) n 20 τ 0 rfl (by decide) (xs (x + 1).toNatClampNeg) (xs (x + 2).toNatClampNeg)) hm1 rfl ⟨_, rfl, rfl⟩ rfl rfl (Nat.le_of_ble_eq_true rfl) (by decide) (by decide) dL_law_846 ?_
  refine k2_same (pc := 849) (tgt := 1748) C dL_law_849 (by decide) ?_
  exact hbr σ1 τ1 hI1
set_option maxRecDepth 100000 in
set_option maxHeartbeats 4000000 in
theorem lc_20 (Inv : mm_M → mm_M → Prop) (n : Nat) (HA : mm_All Inv n) {V : mm_V2} {l : Launch} {b0 b1 : Nat} {D : va_G} {tA : Nat → ClassId} {aK aV : Nat → Nat} {b L : Nat} {xs : Nat → Int32} (C : mm_C2 V l (b0, mm_kx, D, tA, aK, aV) (b1, mm_km, D, tA, aK, aV) b L xs) {x : Int32} (σ τ : mm_M) (hI : Inv σ τ) (h0 : vp_in x L) (h1 : vp_in (x + 1) L) (h2 : vp_in (x + 2) L) (h3 : vp_in (x + 3) L) (h4 : vp_in (x + 4) L) (h5 : vp_in (x + 5) L) (hbr : ∀ σ1 τ1, Inv σ1 τ1 → V σ1 τ1 [(3, .int x), (2, .ref (mm_ad (b1, mm_km, D, tA, aK, aV) 0)), (1, .ref (mm_ad (b0, mm_kx, D, tA, aK, aV) 0)), (0, .ref b)] [] 1748) : V σ τ [(3, .int x), (2, .ref (mm_ad (b1, mm_km, D, tA, aK, aV) 0)), (1, .ref (mm_ad (b0, mm_kx, D, tA, aK, aV) 0)), (0, .ref b)] [] 854 := by
  obtain ⟨r, σ1, τ1, hx1, hm1, hI1⟩ := HA.2.2.2.2.2.2.2.2.2.2.2.2.2.2.2.2.2.2.2.2.1 (xs (x + 1).toNatClampNeg) (xs (x + 2).toNatClampNeg) (xs (x + 3).toNatClampNeg)  σ τ hI
  refine k2_aload_n (pc := 854) C dL_law_854 2 rfl rfl ?_
  refine k2_aload_n (pc := 855) C dL_law_855 3 rfl rfl ?_
  refine k2_iload_n (pc := 856) C dL_law_856 0 rfl rfl ?_
  refine k2_iconst (pc := 857) (v := 1) C dL_law_857 (by decide) ?_
  refine k2_iadd (pc := 858) C dL_law_858 ?_
  refine k2_sld (pc := 859) C dL_law_859 h1 ?_
  refine k2_aload_n (pc := 860) C dL_law_860 3 rfl rfl ?_
  refine k2_iload_n (pc := 861) C dL_law_861 0 rfl rfl ?_
  refine k2_iconst (pc := 862) (v := 2) C dL_law_862 (by decide) ?_
  refine k2_iadd (pc := 863) C dL_law_863 ?_
  refine k2_sld (pc := 864) C dL_law_864 h2 ?_
  refine k2_aload_n (pc := 865) C dL_law_865 3 rfl rfl ?_
  refine k2_iload_n (pc := 866) C dL_law_866 0 rfl rfl ?_
  refine k2_iconst (pc := 867) (v := 3) C dL_law_867 (by decide) ?_
  refine k2_iadd (pc := 868) C dL_law_868 ?_
  refine k2_sld (pc := 869) C dL_law_869 h3 ?_
  refine k2_xi (pc := 870) (As := [.int (xs (x + 1).toNatClampNeg), .int (xs (x + 2).toNatClampNeg), .int (xs (x + 3).toNatClampNeg)]) C mv_L_100 (c_X11_foretold (b0, mm_kx, D, tA, aK, aV) n 576 σ 0 rfl (by decide) (xs (x + 1).toNatClampNeg) (xs (x + 2).toNatClampNeg) (xs (x + 3).toNatClampNeg)) hx1 rfl ⟨_, rfl, rfl⟩ rfl rfl (Nat.le_of_ble_eq_true rfl) (by decide) (by decide) dL_law_870 ?_
  refine k2_aload_n (pc := 873) C dL_law_873 1 rfl rfl ?_
  refine k2_aload_n (pc := 874) C dL_law_874 3 rfl rfl ?_
  refine k2_iload_n (pc := 875) C dL_law_875 0 rfl rfl ?_
  refine k2_iconst (pc := 876) (v := 1) C dL_law_876 (by decide) ?_
  refine k2_iadd (pc := 877) C dL_law_877 ?_
  refine k2_sld (pc := 878) C dL_law_878 h1 ?_
  refine k2_aload_n (pc := 879) C dL_law_879 3 rfl rfl ?_
  refine k2_iload_n (pc := 880) C dL_law_880 0 rfl rfl ?_
  refine k2_iconst (pc := 881) (v := 2) C dL_law_881 (by decide) ?_
  refine k2_iadd (pc := 882) C dL_law_882 ?_
  refine k2_sld (pc := 883) C dL_law_883 h2 ?_
  refine k2_aload_n (pc := 884) C dL_law_884 3 rfl rfl ?_
  refine k2_iload_n (pc := 885) C dL_law_885 0 rfl rfl ?_
  refine k2_iconst (pc := 886) (v := 3) C dL_law_886 (by decide) ?_
  refine k2_iadd (pc := 887) C dL_law_887 ?_
  refine k2_sld (pc := 888) C dL_law_888 h3 ?_
  refine k2_mi (pc := 889) (As := [.int (xs (x + 1).toNatClampNeg), .int (xs (x + 2).toNatClampNeg), .int (xs (x + 3).toNatClampNeg)]) C mv_L_104 (c_X12_foretold (b1, mm_km, D, tA, aK, aV) n 20 τ 0 rfl (by decide) (xs (x + 1).toNatClampNeg) (xs (x + 2).toNatClampNeg) (xs (x + 3).toNatClampNeg)) hm1 rfl ⟨_, rfl, rfl⟩ rfl rfl (Nat.le_of_ble_eq_true rfl) (by decide) (by decide) dL_law_889 ?_
  refine k2_same (pc := 892) (tgt := 1748) C dL_law_892 (by decide) ?_
  exact hbr σ1 τ1 hI1
set_option maxRecDepth 100000 in
set_option maxHeartbeats 4000000 in
theorem lc_21 (Inv : mm_M → mm_M → Prop) (n : Nat) (HA : mm_All Inv n) {V : mm_V2} {l : Launch} {b0 b1 : Nat} {D : va_G} {tA : Nat → ClassId} {aK aV : Nat → Nat} {b L : Nat} {xs : Nat → Int32} (C : mm_C2 V l (b0, mm_kx, D, tA, aK, aV) (b1, mm_km, D, tA, aK, aV) b L xs) {x : Int32} (σ τ : mm_M) (hI : Inv σ τ) (h0 : vp_in x L) (h1 : vp_in (x + 1) L) (h2 : vp_in (x + 2) L) (h3 : vp_in (x + 3) L) (h4 : vp_in (x + 4) L) (h5 : vp_in (x + 5) L) (hbr : ∀ σ1 τ1, Inv σ1 τ1 → V σ1 τ1 [(3, .int x), (2, .ref (mm_ad (b1, mm_km, D, tA, aK, aV) 0)), (1, .ref (mm_ad (b0, mm_kx, D, tA, aK, aV) 0)), (0, .ref b)] [] 1748) : V σ τ [(3, .int x), (2, .ref (mm_ad (b1, mm_km, D, tA, aK, aV) 0)), (1, .ref (mm_ad (b0, mm_kx, D, tA, aK, aV) 0)), (0, .ref b)] [] 897 := by
  obtain ⟨r, σ1, τ1, hx1, hm1, hI1⟩ := HA.2.2.2.2.2.2.2.2.2.2.2.2.2.2.2.2.2.2.2.2.2.1 (xs (x + 1).toNatClampNeg)  σ τ hI
  refine k2_aload_n (pc := 897) C dL_law_897 2 rfl rfl ?_
  refine k2_aload_n (pc := 898) C dL_law_898 3 rfl rfl ?_
  refine k2_iload_n (pc := 899) C dL_law_899 0 rfl rfl ?_
  refine k2_iconst (pc := 900) (v := 1) C dL_law_900 (by decide) ?_
  refine k2_iadd (pc := 901) C dL_law_901 ?_
  refine k2_sld (pc := 902) C dL_law_902 h1 ?_
  refine k2_xi (pc := 903) (As := [.int (xs (x + 1).toNatClampNeg)]) C mv_L_105 (c_X11_bottom (b0, mm_kx, D, tA, aK, aV) n 576 σ 0 rfl (by decide) (xs (x + 1).toNatClampNeg)) hx1 rfl ⟨_, rfl, rfl⟩ rfl rfl (Nat.le_of_ble_eq_true rfl) (by decide) (by decide) dL_law_903 ?_
  refine k2_aload_n (pc := 906) C dL_law_906 1 rfl rfl ?_
  refine k2_aload_n (pc := 907) C dL_law_907 3 rfl rfl ?_
  refine k2_iload_n (pc := 908) C dL_law_908 0 rfl rfl ?_
  refine k2_iconst (pc := 909) (v := 1) C dL_law_909 (by decide) ?_
  refine k2_iadd (pc := 910) C dL_law_910 ?_
  refine k2_sld (pc := 911) C dL_law_911 h1 ?_
  refine k2_mi (pc := 912) (As := [.int (xs (x + 1).toNatClampNeg)]) C mv_L_108 (c_X12_bottom (b1, mm_km, D, tA, aK, aV) n 20 τ 0 rfl (by decide) (xs (x + 1).toNatClampNeg)) hm1 rfl ⟨_, rfl, rfl⟩ rfl rfl (Nat.le_of_ble_eq_true rfl) (by decide) (by decide) dL_law_912 ?_
  refine k2_same (pc := 915) (tgt := 1748) C dL_law_915 (by decide) ?_
  exact hbr σ1 τ1 hI1
set_option maxRecDepth 100000 in
set_option maxHeartbeats 4000000 in
theorem lc_22 (Inv : mm_M → mm_M → Prop) (n : Nat) (HA : mm_All Inv n) {V : mm_V2} {l : Launch} {b0 b1 : Nat} {D : va_G} {tA : Nat → ClassId} {aK aV : Nat → Nat} {b L : Nat} {xs : Nat → Int32} (C : mm_C2 V l (b0, mm_kx, D, tA, aK, aV) (b1, mm_km, D, tA, aK, aV) b L xs) {x : Int32} (σ τ : mm_M) (hI : Inv σ τ) (h0 : vp_in x L) (h1 : vp_in (x + 1) L) (h2 : vp_in (x + 2) L) (h3 : vp_in (x + 3) L) (h4 : vp_in (x + 4) L) (h5 : vp_in (x + 5) L) (hbr : ∀ σ1 τ1, Inv σ1 τ1 → V σ1 τ1 [(3, .int x), (2, .ref (mm_ad (b1, mm_km, D, tA, aK, aV) 0)), (1, .ref (mm_ad (b0, mm_kx, D, tA, aK, aV) 0)), (0, .ref b)] [] 1748) : V σ τ [(3, .int x), (2, .ref (mm_ad (b1, mm_km, D, tA, aK, aV) 0)), (1, .ref (mm_ad (b0, mm_kx, D, tA, aK, aV) 0)), (0, .ref b)] [] 920 := by
  obtain ⟨r, σ1, τ1, hx1, hm1, hI1⟩ := HA.2.2.2.2.2.2.2.2.2.2.2.2.2.2.2.2.2.2.2.2.2.2.1 (xs (x + 1).toNatClampNeg) (xs (x + 2).toNatClampNeg)  σ τ hI
  refine k2_aload_n (pc := 920) C dL_law_920 2 rfl rfl ?_
  refine k2_aload_n (pc := 921) C dL_law_921 3 rfl rfl ?_
  refine k2_iload_n (pc := 922) C dL_law_922 0 rfl rfl ?_
  refine k2_iconst (pc := 923) (v := 1) C dL_law_923 (by decide) ?_
  refine k2_iadd (pc := 924) C dL_law_924 ?_
  refine k2_sld (pc := 925) C dL_law_925 h1 ?_
  refine k2_aload_n (pc := 926) C dL_law_926 3 rfl rfl ?_
  refine k2_iload_n (pc := 927) C dL_law_927 0 rfl rfl ?_
  refine k2_iconst (pc := 928) (v := 2) C dL_law_928 (by decide) ?_
  refine k2_iadd (pc := 929) C dL_law_929 ?_
  refine k2_sld (pc := 930) C dL_law_930 h2 ?_
  refine k2_xl (pc := 931) (As := [.int (xs (x + 1).toNatClampNeg), .int (xs (x + 2).toNatClampNeg)]) C mv_L_109 (c_X11_ways (b0, mm_kx, D, tA, aK, aV) n 576 σ 0 rfl (by decide) (xs (x + 1).toNatClampNeg) (xs (x + 2).toNatClampNeg)) hx1 rfl ⟨_, rfl, rfl⟩ rfl rfl (Nat.le_of_ble_eq_true rfl) (by decide) (by decide) dL_law_931 ?_
  refine k2_aload_n (pc := 934) C dL_law_934 1 rfl rfl ?_
  refine k2_aload_n (pc := 935) C dL_law_935 3 rfl rfl ?_
  refine k2_iload_n (pc := 936) C dL_law_936 0 rfl rfl ?_
  refine k2_iconst (pc := 937) (v := 1) C dL_law_937 (by decide) ?_
  refine k2_iadd (pc := 938) C dL_law_938 ?_
  refine k2_sld (pc := 939) C dL_law_939 h1 ?_
  refine k2_aload_n (pc := 940) C dL_law_940 3 rfl rfl ?_
  refine k2_iload_n (pc := 941) C dL_law_941 0 rfl rfl ?_
  refine k2_iconst (pc := 942) (v := 2) C dL_law_942 (by decide) ?_
  refine k2_iadd (pc := 943) C dL_law_943 ?_
  refine k2_sld (pc := 944) C dL_law_944 h2 ?_
  refine k2_ml (pc := 945) (As := [.int (xs (x + 1).toNatClampNeg), .int (xs (x + 2).toNatClampNeg)]) C mv_L_113 (c_X12_ways (b1, mm_km, D, tA, aK, aV) n 20 τ 0 rfl (by decide) (xs (x + 1).toNatClampNeg) (xs (x + 2).toNatClampNeg)) hm1 rfl ⟨_, rfl, rfl⟩ rfl rfl (Nat.le_of_ble_eq_true rfl) (by decide) (by decide) dL_law_945 ?_
  refine k2_lcmp (pc := 948) C dL_law_948 ?_
  rw [mm_lcs]
  refine k2_if_eq (pc := 949) (tgt := 1748) C dL_law_949 (by decide) (fun _ => ?_) (fun hne => absurd rfl hne)
  exact hbr σ1 τ1 hI1
set_option maxRecDepth 100000 in
set_option maxHeartbeats 4000000 in
theorem lc_23 (Inv : mm_M → mm_M → Prop) (n : Nat) (HA : mm_All Inv n) {V : mm_V2} {l : Launch} {b0 b1 : Nat} {D : va_G} {tA : Nat → ClassId} {aK aV : Nat → Nat} {b L : Nat} {xs : Nat → Int32} (C : mm_C2 V l (b0, mm_kx, D, tA, aK, aV) (b1, mm_km, D, tA, aK, aV) b L xs) {x : Int32} (σ τ : mm_M) (hI : Inv σ τ) (h0 : vp_in x L) (h1 : vp_in (x + 1) L) (h2 : vp_in (x + 2) L) (h3 : vp_in (x + 3) L) (h4 : vp_in (x + 4) L) (h5 : vp_in (x + 5) L) (hbr : ∀ σ1 τ1, Inv σ1 τ1 → V σ1 τ1 [(3, .int x), (2, .ref (mm_ad (b1, mm_km, D, tA, aK, aV) 0)), (1, .ref (mm_ad (b0, mm_kx, D, tA, aK, aV) 0)), (0, .ref b)] [] 1748) : V σ τ [(3, .int x), (2, .ref (mm_ad (b1, mm_km, D, tA, aK, aV) 0)), (1, .ref (mm_ad (b0, mm_kx, D, tA, aK, aV) 0)), (0, .ref b)] [] 954 := by
  obtain ⟨r, σ1, τ1, hx1, hm1, hI1⟩ := HA.2.2.2.2.2.2.2.2.2.2.2.2.2.2.2.2.2.2.2.2.2.2.2.1 (xs (x + 1).toNatClampNeg) (xs (x + 2).toNatClampNeg)  σ τ hI
  refine k2_aload_n (pc := 954) C dL_law_954 2 rfl rfl ?_
  refine k2_aload_n (pc := 955) C dL_law_955 3 rfl rfl ?_
  refine k2_iload_n (pc := 956) C dL_law_956 0 rfl rfl ?_
  refine k2_iconst (pc := 957) (v := 1) C dL_law_957 (by decide) ?_
  refine k2_iadd (pc := 958) C dL_law_958 ?_
  refine k2_sld (pc := 959) C dL_law_959 h1 ?_
  refine k2_aload_n (pc := 960) C dL_law_960 3 rfl rfl ?_
  refine k2_iload_n (pc := 961) C dL_law_961 0 rfl rfl ?_
  refine k2_iconst (pc := 962) (v := 2) C dL_law_962 (by decide) ?_
  refine k2_iadd (pc := 963) C dL_law_963 ?_
  refine k2_sld (pc := 964) C dL_law_964 h2 ?_
  refine k2_xi (pc := 965) (As := [.int (xs (x + 1).toNatClampNeg), .int (xs (x + 2).toNatClampNeg)]) C mv_L_114 (c_X11_must (b0, mm_kx, D, tA, aK, aV) n 576 σ 0 rfl (by decide) (xs (x + 1).toNatClampNeg) (xs (x + 2).toNatClampNeg)) hx1 rfl ⟨_, rfl, rfl⟩ rfl rfl (Nat.le_of_ble_eq_true rfl) (by decide) (by decide) dL_law_965 ?_
  refine k2_aload_n (pc := 968) C dL_law_968 1 rfl rfl ?_
  refine k2_aload_n (pc := 969) C dL_law_969 3 rfl rfl ?_
  refine k2_iload_n (pc := 970) C dL_law_970 0 rfl rfl ?_
  refine k2_iconst (pc := 971) (v := 1) C dL_law_971 (by decide) ?_
  refine k2_iadd (pc := 972) C dL_law_972 ?_
  refine k2_sld (pc := 973) C dL_law_973 h1 ?_
  refine k2_aload_n (pc := 974) C dL_law_974 3 rfl rfl ?_
  refine k2_iload_n (pc := 975) C dL_law_975 0 rfl rfl ?_
  refine k2_iconst (pc := 976) (v := 2) C dL_law_976 (by decide) ?_
  refine k2_iadd (pc := 977) C dL_law_977 ?_
  refine k2_sld (pc := 978) C dL_law_978 h2 ?_
  refine k2_mi (pc := 979) (As := [.int (xs (x + 1).toNatClampNeg), .int (xs (x + 2).toNatClampNeg)]) C mv_L_117 (c_X12_must (b1, mm_km, D, tA, aK, aV) n 20 τ 0 rfl (by decide) (xs (x + 1).toNatClampNeg) (xs (x + 2).toNatClampNeg)) hm1 rfl ⟨_, rfl, rfl⟩ rfl rfl (Nat.le_of_ble_eq_true rfl) (by decide) (by decide) dL_law_979 ?_
  refine k2_same (pc := 982) (tgt := 1748) C dL_law_982 (by decide) ?_
  exact hbr σ1 τ1 hI1
set_option maxRecDepth 100000 in
set_option maxHeartbeats 4000000 in
theorem lc_24 (Inv : mm_M → mm_M → Prop) (n : Nat) (HA : mm_All Inv n) {V : mm_V2} {l : Launch} {b0 b1 : Nat} {D : va_G} {tA : Nat → ClassId} {aK aV : Nat → Nat} {b L : Nat} {xs : Nat → Int32} (C : mm_C2 V l (b0, mm_kx, D, tA, aK, aV) (b1, mm_km, D, tA, aK, aV) b L xs) {x : Int32} (σ τ : mm_M) (hI : Inv σ τ) (h0 : vp_in x L) (h1 : vp_in (x + 1) L) (h2 : vp_in (x + 2) L) (h3 : vp_in (x + 3) L) (h4 : vp_in (x + 4) L) (h5 : vp_in (x + 5) L) (hbr : ∀ σ1 τ1, Inv σ1 τ1 → V σ1 τ1 [(3, .int x), (2, .ref (mm_ad (b1, mm_km, D, tA, aK, aV) 0)), (1, .ref (mm_ad (b0, mm_kx, D, tA, aK, aV) 0)), (0, .ref b)] [] 1748) : V σ τ [(3, .int x), (2, .ref (mm_ad (b1, mm_km, D, tA, aK, aV) 0)), (1, .ref (mm_ad (b0, mm_kx, D, tA, aK, aV) 0)), (0, .ref b)] [] 987 := by
  obtain ⟨r, σ1, τ1, hx1, hm1, hI1⟩ := HA.2.2.2.2.2.2.2.2.2.2.2.2.2.2.2.2.2.2.2.2.2.2.2.2.1 (xs (x + 1).toNatClampNeg) (xs (x + 2).toNatClampNeg)  σ τ hI
  refine k2_aload_n (pc := 987) C dL_law_987 2 rfl rfl ?_
  refine k2_aload_n (pc := 988) C dL_law_988 3 rfl rfl ?_
  refine k2_iload_n (pc := 989) C dL_law_989 0 rfl rfl ?_
  refine k2_iconst (pc := 990) (v := 1) C dL_law_990 (by decide) ?_
  refine k2_iadd (pc := 991) C dL_law_991 ?_
  refine k2_sld (pc := 992) C dL_law_992 h1 ?_
  refine k2_aload_n (pc := 993) C dL_law_993 3 rfl rfl ?_
  refine k2_iload_n (pc := 994) C dL_law_994 0 rfl rfl ?_
  refine k2_iconst (pc := 995) (v := 2) C dL_law_995 (by decide) ?_
  refine k2_iadd (pc := 996) C dL_law_996 ?_
  refine k2_sld (pc := 997) C dL_law_997 h2 ?_
  refine k2_xi (pc := 998) (As := [.int (xs (x + 1).toNatClampNeg), .int (xs (x + 2).toNatClampNeg)]) C mv_L_118 (c_X11_between (b0, mm_kx, D, tA, aK, aV) n 576 σ 0 rfl (by decide) (xs (x + 1).toNatClampNeg) (xs (x + 2).toNatClampNeg)) hx1 rfl ⟨_, rfl, rfl⟩ rfl rfl (Nat.le_of_ble_eq_true rfl) (by decide) (by decide) dL_law_998 ?_
  refine k2_aload_n (pc := 1001) C dL_law_1001 1 rfl rfl ?_
  refine k2_aload_n (pc := 1002) C dL_law_1002 3 rfl rfl ?_
  refine k2_iload_n (pc := 1003) C dL_law_1003 0 rfl rfl ?_
  refine k2_iconst (pc := 1004) (v := 1) C dL_law_1004 (by decide) ?_
  refine k2_iadd (pc := 1005) C dL_law_1005 ?_
  refine k2_sld (pc := 1006) C dL_law_1006 h1 ?_
  refine k2_aload_n (pc := 1007) C dL_law_1007 3 rfl rfl ?_
  refine k2_iload_n (pc := 1008) C dL_law_1008 0 rfl rfl ?_
  refine k2_iconst (pc := 1009) (v := 2) C dL_law_1009 (by decide) ?_
  refine k2_iadd (pc := 1010) C dL_law_1010 ?_
  refine k2_sld (pc := 1011) C dL_law_1011 h2 ?_
  refine k2_mi (pc := 1012) (As := [.int (xs (x + 1).toNatClampNeg), .int (xs (x + 2).toNatClampNeg)]) C mv_L_121 (c_X12_between (b1, mm_km, D, tA, aK, aV) n 20 τ 0 rfl (by decide) (xs (x + 1).toNatClampNeg) (xs (x + 2).toNatClampNeg)) hm1 rfl ⟨_, rfl, rfl⟩ rfl rfl (Nat.le_of_ble_eq_true rfl) (by decide) (by decide) dL_law_1012 ?_
  refine k2_same (pc := 1015) (tgt := 1748) C dL_law_1015 (by decide) ?_
  exact hbr σ1 τ1 hI1
set_option maxRecDepth 100000 in
set_option maxHeartbeats 4000000 in
theorem lc_25 (Inv : mm_M → mm_M → Prop) (n : Nat) (HA : mm_All Inv n) {V : mm_V2} {l : Launch} {b0 b1 : Nat} {D : va_G} {tA : Nat → ClassId} {aK aV : Nat → Nat} {b L : Nat} {xs : Nat → Int32} (C : mm_C2 V l (b0, mm_kx, D, tA, aK, aV) (b1, mm_km, D, tA, aK, aV) b L xs) {x : Int32} (σ τ : mm_M) (hI : Inv σ τ) (h0 : vp_in x L) (h1 : vp_in (x + 1) L) (h2 : vp_in (x + 2) L) (h3 : vp_in (x + 3) L) (h4 : vp_in (x + 4) L) (h5 : vp_in (x + 5) L) (hbr : ∀ σ1 τ1, Inv σ1 τ1 → V σ1 τ1 [(3, .int x), (2, .ref (mm_ad (b1, mm_km, D, tA, aK, aV) 0)), (1, .ref (mm_ad (b0, mm_kx, D, tA, aK, aV) 0)), (0, .ref b)] [] 1748) : V σ τ [(3, .int x), (2, .ref (mm_ad (b1, mm_km, D, tA, aK, aV) 0)), (1, .ref (mm_ad (b0, mm_kx, D, tA, aK, aV) 0)), (0, .ref b)] [] 1020 := by
  obtain ⟨r, σ1, τ1, hx1, hm1, hI1⟩ := HA.2.2.2.2.2.2.2.2.2.2.2.2.2.2.2.2.2.2.2.2.2.2.2.2.2.1 (xs (x + 1).toNatClampNeg) (xs (x + 2).toNatClampNeg)  σ τ hI
  refine k2_aload_n (pc := 1020) C dL_law_1020 2 rfl rfl ?_
  refine k2_aload_n (pc := 1021) C dL_law_1021 3 rfl rfl ?_
  refine k2_iload_n (pc := 1022) C dL_law_1022 0 rfl rfl ?_
  refine k2_iconst (pc := 1023) (v := 1) C dL_law_1023 (by decide) ?_
  refine k2_iadd (pc := 1024) C dL_law_1024 ?_
  refine k2_sld (pc := 1025) C dL_law_1025 h1 ?_
  refine k2_aload_n (pc := 1026) C dL_law_1026 3 rfl rfl ?_
  refine k2_iload_n (pc := 1027) C dL_law_1027 0 rfl rfl ?_
  refine k2_iconst (pc := 1028) (v := 2) C dL_law_1028 (by decide) ?_
  refine k2_iadd (pc := 1029) C dL_law_1029 ?_
  refine k2_sld (pc := 1030) C dL_law_1030 h2 ?_
  refine k2_xi (pc := 1031) (As := [.int (xs (x + 1).toNatClampNeg), .int (xs (x + 2).toNatClampNeg)]) C mv_L_122 (c_X11_heaviest (b0, mm_kx, D, tA, aK, aV) n 576 σ 0 rfl (by decide) (xs (x + 1).toNatClampNeg) (xs (x + 2).toNatClampNeg)) hx1 rfl ⟨_, rfl, rfl⟩ rfl rfl (Nat.le_of_ble_eq_true rfl) (by decide) (by decide) dL_law_1031 ?_
  refine k2_aload_n (pc := 1034) C dL_law_1034 1 rfl rfl ?_
  refine k2_aload_n (pc := 1035) C dL_law_1035 3 rfl rfl ?_
  refine k2_iload_n (pc := 1036) C dL_law_1036 0 rfl rfl ?_
  refine k2_iconst (pc := 1037) (v := 1) C dL_law_1037 (by decide) ?_
  refine k2_iadd (pc := 1038) C dL_law_1038 ?_
  refine k2_sld (pc := 1039) C dL_law_1039 h1 ?_
  refine k2_aload_n (pc := 1040) C dL_law_1040 3 rfl rfl ?_
  refine k2_iload_n (pc := 1041) C dL_law_1041 0 rfl rfl ?_
  refine k2_iconst (pc := 1042) (v := 2) C dL_law_1042 (by decide) ?_
  refine k2_iadd (pc := 1043) C dL_law_1043 ?_
  refine k2_sld (pc := 1044) C dL_law_1044 h2 ?_
  refine k2_mi (pc := 1045) (As := [.int (xs (x + 1).toNatClampNeg), .int (xs (x + 2).toNatClampNeg)]) C mv_L_125 (c_X12_heaviest (b1, mm_km, D, tA, aK, aV) n 20 τ 0 rfl (by decide) (xs (x + 1).toNatClampNeg) (xs (x + 2).toNatClampNeg)) hm1 rfl ⟨_, rfl, rfl⟩ rfl rfl (Nat.le_of_ble_eq_true rfl) (by decide) (by decide) dL_law_1045 ?_
  refine k2_same (pc := 1048) (tgt := 1748) C dL_law_1048 (by decide) ?_
  exact hbr σ1 τ1 hI1
set_option maxRecDepth 100000 in
set_option maxHeartbeats 4000000 in
theorem lc_26 (Inv : mm_M → mm_M → Prop) (n : Nat) (HA : mm_All Inv n) {V : mm_V2} {l : Launch} {b0 b1 : Nat} {D : va_G} {tA : Nat → ClassId} {aK aV : Nat → Nat} {b L : Nat} {xs : Nat → Int32} (C : mm_C2 V l (b0, mm_kx, D, tA, aK, aV) (b1, mm_km, D, tA, aK, aV) b L xs) {x : Int32} (σ τ : mm_M) (hI : Inv σ τ) (h0 : vp_in x L) (h1 : vp_in (x + 1) L) (h2 : vp_in (x + 2) L) (h3 : vp_in (x + 3) L) (h4 : vp_in (x + 4) L) (h5 : vp_in (x + 5) L) (hbr : ∀ σ1 τ1, Inv σ1 τ1 → V σ1 τ1 [(3, .int x), (2, .ref (mm_ad (b1, mm_km, D, tA, aK, aV) 0)), (1, .ref (mm_ad (b0, mm_kx, D, tA, aK, aV) 0)), (0, .ref b)] [] 1748) : V σ τ [(3, .int x), (2, .ref (mm_ad (b1, mm_km, D, tA, aK, aV) 0)), (1, .ref (mm_ad (b0, mm_kx, D, tA, aK, aV) 0)), (0, .ref b)] [] 1053 := by
  obtain ⟨r, σ1, τ1, hx1, hm1, hI1⟩ := HA.2.2.2.2.2.2.2.2.2.2.2.2.2.2.2.2.2.2.2.2.2.2.2.2.2.2.1 (xs (x + 1).toNatClampNeg) (xs (x + 2).toNatClampNeg)  σ τ hI
  refine k2_aload_n (pc := 1053) C dL_law_1053 2 rfl rfl ?_
  refine k2_aload_n (pc := 1054) C dL_law_1054 3 rfl rfl ?_
  refine k2_iload_n (pc := 1055) C dL_law_1055 0 rfl rfl ?_
  refine k2_iconst (pc := 1056) (v := 1) C dL_law_1056 (by decide) ?_
  refine k2_iadd (pc := 1057) C dL_law_1057 ?_
  refine k2_sld (pc := 1058) C dL_law_1058 h1 ?_
  refine k2_aload_n (pc := 1059) C dL_law_1059 3 rfl rfl ?_
  refine k2_iload_n (pc := 1060) C dL_law_1060 0 rfl rfl ?_
  refine k2_iconst (pc := 1061) (v := 2) C dL_law_1061 (by decide) ?_
  refine k2_iadd (pc := 1062) C dL_law_1062 ?_
  refine k2_sld (pc := 1063) C dL_law_1063 h2 ?_
  refine k2_xi (pc := 1064) (As := [.int (xs (x + 1).toNatClampNeg), .int (xs (x + 2).toNatClampNeg)]) C mv_L_126 (c_X11_under (b0, mm_kx, D, tA, aK, aV) n 576 σ 0 rfl (by decide) (xs (x + 1).toNatClampNeg) (xs (x + 2).toNatClampNeg)) hx1 rfl ⟨_, rfl, rfl⟩ rfl rfl (Nat.le_of_ble_eq_true rfl) (by decide) (by decide) dL_law_1064 ?_
  refine k2_aload_n (pc := 1067) C dL_law_1067 1 rfl rfl ?_
  refine k2_aload_n (pc := 1068) C dL_law_1068 3 rfl rfl ?_
  refine k2_iload_n (pc := 1069) C dL_law_1069 0 rfl rfl ?_
  refine k2_iconst (pc := 1070) (v := 1) C dL_law_1070 (by decide) ?_
  refine k2_iadd (pc := 1071) C dL_law_1071 ?_
  refine k2_sld (pc := 1072) C dL_law_1072 h1 ?_
  refine k2_aload_n (pc := 1073) C dL_law_1073 3 rfl rfl ?_
  refine k2_iload_n (pc := 1074) C dL_law_1074 0 rfl rfl ?_
  refine k2_iconst (pc := 1075) (v := 2) C dL_law_1075 (by decide) ?_
  refine k2_iadd (pc := 1076) C dL_law_1076 ?_
  refine k2_sld (pc := 1077) C dL_law_1077 h2 ?_
  refine k2_mi (pc := 1078) (As := [.int (xs (x + 1).toNatClampNeg), .int (xs (x + 2).toNatClampNeg)]) C mv_L_129 (c_X12_under (b1, mm_km, D, tA, aK, aV) n 20 τ 0 rfl (by decide) (xs (x + 1).toNatClampNeg) (xs (x + 2).toNatClampNeg)) hm1 rfl ⟨_, rfl, rfl⟩ rfl rfl (Nat.le_of_ble_eq_true rfl) (by decide) (by decide) dL_law_1078 ?_
  refine k2_same (pc := 1081) (tgt := 1748) C dL_law_1081 (by decide) ?_
  exact hbr σ1 τ1 hI1
set_option maxRecDepth 100000 in
set_option maxHeartbeats 4000000 in
theorem lc_27 (Inv : mm_M → mm_M → Prop) (n : Nat) (HA : mm_All Inv n) {V : mm_V2} {l : Launch} {b0 b1 : Nat} {D : va_G} {tA : Nat → ClassId} {aK aV : Nat → Nat} {b L : Nat} {xs : Nat → Int32} (C : mm_C2 V l (b0, mm_kx, D, tA, aK, aV) (b1, mm_km, D, tA, aK, aV) b L xs) {x : Int32} (σ τ : mm_M) (hI : Inv σ τ) (h0 : vp_in x L) (h1 : vp_in (x + 1) L) (h2 : vp_in (x + 2) L) (h3 : vp_in (x + 3) L) (h4 : vp_in (x + 4) L) (h5 : vp_in (x + 5) L) (hbr : ∀ σ1 τ1, Inv σ1 τ1 → V σ1 τ1 [(3, .int x), (2, .ref (mm_ad (b1, mm_km, D, tA, aK, aV) 0)), (1, .ref (mm_ad (b0, mm_kx, D, tA, aK, aV) 0)), (0, .ref b)] [] 1748) : V σ τ [(3, .int x), (2, .ref (mm_ad (b1, mm_km, D, tA, aK, aV) 0)), (1, .ref (mm_ad (b0, mm_kx, D, tA, aK, aV) 0)), (0, .ref b)] [] 1086 := by
  obtain ⟨r, σ1, τ1, hx1, hm1, hI1⟩ := HA.2.2.2.2.2.2.2.2.2.2.2.2.2.2.2.2.2.2.2.2.2.2.2.2.2.2.2.1 (xs (x + 1).toNatClampNeg)  σ τ hI
  refine k2_aload_n (pc := 1086) C dL_law_1086 2 rfl rfl ?_
  refine k2_aload_n (pc := 1087) C dL_law_1087 3 rfl rfl ?_
  refine k2_iload_n (pc := 1088) C dL_law_1088 0 rfl rfl ?_
  refine k2_iconst (pc := 1089) (v := 1) C dL_law_1089 (by decide) ?_
  refine k2_iadd (pc := 1090) C dL_law_1090 ?_
  refine k2_sld (pc := 1091) C dL_law_1091 h1 ?_
  refine k2_xi (pc := 1092) (As := [.int (xs (x + 1).toNatClampNeg)]) C mv_L_130 (c_X11_needless (b0, mm_kx, D, tA, aK, aV) n 576 σ 0 rfl (by decide) (xs (x + 1).toNatClampNeg)) hx1 rfl ⟨_, rfl, rfl⟩ rfl rfl (Nat.le_of_ble_eq_true rfl) (by decide) (by decide) dL_law_1092 ?_
  refine k2_aload_n (pc := 1095) C dL_law_1095 1 rfl rfl ?_
  refine k2_aload_n (pc := 1096) C dL_law_1096 3 rfl rfl ?_
  refine k2_iload_n (pc := 1097) C dL_law_1097 0 rfl rfl ?_
  refine k2_iconst (pc := 1098) (v := 1) C dL_law_1098 (by decide) ?_
  refine k2_iadd (pc := 1099) C dL_law_1099 ?_
  refine k2_sld (pc := 1100) C dL_law_1100 h1 ?_
  refine k2_mi (pc := 1101) (As := [.int (xs (x + 1).toNatClampNeg)]) C mv_L_133 (c_X12_needless (b1, mm_km, D, tA, aK, aV) n 20 τ 0 rfl (by decide) (xs (x + 1).toNatClampNeg)) hm1 rfl ⟨_, rfl, rfl⟩ rfl rfl (Nat.le_of_ble_eq_true rfl) (by decide) (by decide) dL_law_1101 ?_
  refine k2_same (pc := 1104) (tgt := 1748) C dL_law_1104 (by decide) ?_
  exact hbr σ1 τ1 hI1
set_option maxRecDepth 100000 in
set_option maxHeartbeats 4000000 in
theorem lc_28 (Inv : mm_M → mm_M → Prop) (n : Nat) (HA : mm_All Inv n) {V : mm_V2} {l : Launch} {b0 b1 : Nat} {D : va_G} {tA : Nat → ClassId} {aK aV : Nat → Nat} {b L : Nat} {xs : Nat → Int32} (C : mm_C2 V l (b0, mm_kx, D, tA, aK, aV) (b1, mm_km, D, tA, aK, aV) b L xs) {x : Int32} (σ τ : mm_M) (hI : Inv σ τ) (h0 : vp_in x L) (h1 : vp_in (x + 1) L) (h2 : vp_in (x + 2) L) (h3 : vp_in (x + 3) L) (h4 : vp_in (x + 4) L) (h5 : vp_in (x + 5) L) (hbr : ∀ σ1 τ1, Inv σ1 τ1 → V σ1 τ1 [(3, .int x), (2, .ref (mm_ad (b1, mm_km, D, tA, aK, aV) 0)), (1, .ref (mm_ad (b0, mm_kx, D, tA, aK, aV) 0)), (0, .ref b)] [] 1748) : V σ τ [(3, .int x), (2, .ref (mm_ad (b1, mm_km, D, tA, aK, aV) 0)), (1, .ref (mm_ad (b0, mm_kx, D, tA, aK, aV) 0)), (0, .ref b)] [] 1109 := by
  obtain ⟨r, σ1, τ1, hx1, hm1, hI1⟩ := HA.2.2.2.2.2.2.2.2.2.2.2.2.2.2.2.2.2.2.2.2.2.2.2.2.2.2.2.2.1 (xs (x + 1).toNatClampNeg) (xs (x + 2).toNatClampNeg)  σ τ hI
  refine k2_aload_n (pc := 1109) C dL_law_1109 2 rfl rfl ?_
  refine k2_aload_n (pc := 1110) C dL_law_1110 3 rfl rfl ?_
  refine k2_iload_n (pc := 1111) C dL_law_1111 0 rfl rfl ?_
  refine k2_iconst (pc := 1112) (v := 1) C dL_law_1112 (by decide) ?_
  refine k2_iadd (pc := 1113) C dL_law_1113 ?_
  refine k2_sld (pc := 1114) C dL_law_1114 h1 ?_
  refine k2_aload_n (pc := 1115) C dL_law_1115 3 rfl rfl ?_
  refine k2_iload_n (pc := 1116) C dL_law_1116 0 rfl rfl ?_
  refine k2_iconst (pc := 1117) (v := 2) C dL_law_1117 (by decide) ?_
  refine k2_iadd (pc := 1118) C dL_law_1118 ?_
  refine k2_sld (pc := 1119) C dL_law_1119 h2 ?_
  refine k2_xi (pc := 1120) (As := [.int (xs (x + 1).toNatClampNeg), .int (xs (x + 2).toNatClampNeg)]) C mv_L_134 (c_X11_shared (b0, mm_kx, D, tA, aK, aV) n 576 σ 0 rfl (by decide) (xs (x + 1).toNatClampNeg) (xs (x + 2).toNatClampNeg)) hx1 rfl ⟨_, rfl, rfl⟩ rfl rfl (Nat.le_of_ble_eq_true rfl) (by decide) (by decide) dL_law_1120 ?_
  refine k2_aload_n (pc := 1123) C dL_law_1123 1 rfl rfl ?_
  refine k2_aload_n (pc := 1124) C dL_law_1124 3 rfl rfl ?_
  refine k2_iload_n (pc := 1125) C dL_law_1125 0 rfl rfl ?_
  refine k2_iconst (pc := 1126) (v := 1) C dL_law_1126 (by decide) ?_
  refine k2_iadd (pc := 1127) C dL_law_1127 ?_
  refine k2_sld (pc := 1128) C dL_law_1128 h1 ?_
  refine k2_aload_n (pc := 1129) C dL_law_1129 3 rfl rfl ?_
  refine k2_iload_n (pc := 1130) C dL_law_1130 0 rfl rfl ?_
  refine k2_iconst (pc := 1131) (v := 2) C dL_law_1131 (by decide) ?_
  refine k2_iadd (pc := 1132) C dL_law_1132 ?_
  refine k2_sld (pc := 1133) C dL_law_1133 h2 ?_
  refine k2_mi (pc := 1134) (As := [.int (xs (x + 1).toNatClampNeg), .int (xs (x + 2).toNatClampNeg)]) C mv_L_137 (c_X12_shared (b1, mm_km, D, tA, aK, aV) n 20 τ 0 rfl (by decide) (xs (x + 1).toNatClampNeg) (xs (x + 2).toNatClampNeg)) hm1 rfl ⟨_, rfl, rfl⟩ rfl rfl (Nat.le_of_ble_eq_true rfl) (by decide) (by decide) dL_law_1134 ?_
  refine k2_same (pc := 1137) (tgt := 1748) C dL_law_1137 (by decide) ?_
  exact hbr σ1 τ1 hI1
set_option maxRecDepth 100000 in
set_option maxHeartbeats 4000000 in
theorem lc_29 (Inv : mm_M → mm_M → Prop) (n : Nat) (HA : mm_All Inv n) {V : mm_V2} {l : Launch} {b0 b1 : Nat} {D : va_G} {tA : Nat → ClassId} {aK aV : Nat → Nat} {b L : Nat} {xs : Nat → Int32} (C : mm_C2 V l (b0, mm_kx, D, tA, aK, aV) (b1, mm_km, D, tA, aK, aV) b L xs) {x : Int32} (σ τ : mm_M) (hI : Inv σ τ) (h0 : vp_in x L) (h1 : vp_in (x + 1) L) (h2 : vp_in (x + 2) L) (h3 : vp_in (x + 3) L) (h4 : vp_in (x + 4) L) (h5 : vp_in (x + 5) L) (hbr : ∀ σ1 τ1, Inv σ1 τ1 → V σ1 τ1 [(3, .int x), (2, .ref (mm_ad (b1, mm_km, D, tA, aK, aV) 0)), (1, .ref (mm_ad (b0, mm_kx, D, tA, aK, aV) 0)), (0, .ref b)] [] 1748) : V σ τ [(3, .int x), (2, .ref (mm_ad (b1, mm_km, D, tA, aK, aV) 0)), (1, .ref (mm_ad (b0, mm_kx, D, tA, aK, aV) 0)), (0, .ref b)] [] 1142 := by
  obtain ⟨r, σ1, τ1, hx1, hm1, hI1⟩ := HA.2.2.2.2.2.2.2.2.2.2.2.2.2.2.2.2.2.2.2.2.2.2.2.2.2.2.2.2.2.1 (mm_nz (xs (x + 1).toNatClampNeg)) (mm_nz_z _) σ τ hI
  refine k2_aload_n (pc := 1142) C dL_law_1142 2 rfl rfl ?_
  refine k2_aload_n (pc := 1143) C dL_law_1143 3 rfl rfl ?_
  refine k2_iload_n (pc := 1144) C dL_law_1144 0 rfl rfl ?_
  refine k2_iconst (pc := 1145) (v := 1) C dL_law_1145 (by decide) ?_
  refine k2_iadd (pc := 1146) C dL_law_1146 ?_
  refine k2_sld (pc := 1147) C dL_law_1147 h1 ?_
  refine k2_nz (pc := 1148) (p1 := 1151) (p2 := 1152) (p3 := 1155) (p4 := 1156) C dL_law_1148 (by decide) (by decide) dL_law_1151 (by decide) dL_law_1152 (by decide) dL_law_1155 (by decide) ?_
  refine k2_xi (pc := 1156) (As := [.int (mm_nz (xs (x + 1).toNatClampNeg))]) C mv_L_138 (c_X11_apart (b0, mm_kx, D, tA, aK, aV) n 576 σ 0 rfl (by decide) (mm_nz (xs (x + 1).toNatClampNeg))) hx1 rfl ⟨_, rfl, rfl⟩ rfl rfl (Nat.le_of_ble_eq_true rfl) (by decide) (by decide) dL_law_1156 ?_
  refine k2_aload_n (pc := 1159) C dL_law_1159 1 rfl rfl ?_
  refine k2_aload_n (pc := 1160) C dL_law_1160 3 rfl rfl ?_
  refine k2_iload_n (pc := 1161) C dL_law_1161 0 rfl rfl ?_
  refine k2_iconst (pc := 1162) (v := 1) C dL_law_1162 (by decide) ?_
  refine k2_iadd (pc := 1163) C dL_law_1163 ?_
  refine k2_sld (pc := 1164) C dL_law_1164 h1 ?_
  refine k2_nz (pc := 1165) (p1 := 1168) (p2 := 1169) (p3 := 1172) (p4 := 1173) C dL_law_1165 (by decide) (by decide) dL_law_1168 (by decide) dL_law_1169 (by decide) dL_law_1172 (by decide) ?_
  refine k2_mi (pc := 1173) (As := [.int (mm_nz (xs (x + 1).toNatClampNeg))]) C mv_L_142 (c_X12_apart (b1, mm_km, D, tA, aK, aV) n 20 τ 0 rfl (by decide) (mm_nz (xs (x + 1).toNatClampNeg))) hm1 rfl ⟨_, rfl, rfl⟩ rfl rfl (Nat.le_of_ble_eq_true rfl) (by decide) (by decide) dL_law_1173 ?_
  refine k2_same (pc := 1176) (tgt := 1748) C dL_law_1176 (by decide) ?_
  exact hbr σ1 τ1 hI1
set_option maxRecDepth 100000 in
set_option maxHeartbeats 4000000 in
theorem lc_30 (Inv : mm_M → mm_M → Prop) (n : Nat) (HA : mm_All Inv n) {V : mm_V2} {l : Launch} {b0 b1 : Nat} {D : va_G} {tA : Nat → ClassId} {aK aV : Nat → Nat} {b L : Nat} {xs : Nat → Int32} (C : mm_C2 V l (b0, mm_kx, D, tA, aK, aV) (b1, mm_km, D, tA, aK, aV) b L xs) {x : Int32} (σ τ : mm_M) (hI : Inv σ τ) (h0 : vp_in x L) (h1 : vp_in (x + 1) L) (h2 : vp_in (x + 2) L) (h3 : vp_in (x + 3) L) (h4 : vp_in (x + 4) L) (h5 : vp_in (x + 5) L) (hbr : ∀ σ1 τ1, Inv σ1 τ1 → V σ1 τ1 [(3, .int x), (2, .ref (mm_ad (b1, mm_km, D, tA, aK, aV) 0)), (1, .ref (mm_ad (b0, mm_kx, D, tA, aK, aV) 0)), (0, .ref b)] [] 1748) : V σ τ [(3, .int x), (2, .ref (mm_ad (b1, mm_km, D, tA, aK, aV) 0)), (1, .ref (mm_ad (b0, mm_kx, D, tA, aK, aV) 0)), (0, .ref b)] [] 1181 := by
  obtain ⟨r, σ1, τ1, hx1, hm1, hI1⟩ := HA.2.2.2.2.2.2.2.2.2.2.2.2.2.2.2.2.2.2.2.2.2.2.2.2.2.2.2.2.2.2.1   σ τ hI
  refine k2_aload_n (pc := 1181) C dL_law_1181 2 rfl rfl ?_
  refine k2_xi (pc := 1182) (As := []) C mv_L_143 (c_X11_chains (b0, mm_kx, D, tA, aK, aV) n 576 σ 0 rfl (by decide) ) hx1 rfl ⟨_, rfl, rfl⟩ rfl rfl (Nat.le_of_ble_eq_true rfl) (by decide) (by decide) dL_law_1182 ?_
  refine k2_aload_n (pc := 1185) C dL_law_1185 1 rfl rfl ?_
  refine k2_mi (pc := 1186) (As := []) C mv_L_146 (c_X12_chains (b1, mm_km, D, tA, aK, aV) n 20 τ 0 rfl (by decide) ) hm1 rfl ⟨_, rfl, rfl⟩ rfl rfl (Nat.le_of_ble_eq_true rfl) (by decide) (by decide) dL_law_1186 ?_
  refine k2_same (pc := 1189) (tgt := 1748) C dL_law_1189 (by decide) ?_
  exact hbr σ1 τ1 hI1
set_option maxRecDepth 100000 in
set_option maxHeartbeats 4000000 in
theorem lc_31 (Inv : mm_M → mm_M → Prop) (n : Nat) (HA : mm_All Inv n) {V : mm_V2} {l : Launch} {b0 b1 : Nat} {D : va_G} {tA : Nat → ClassId} {aK aV : Nat → Nat} {b L : Nat} {xs : Nat → Int32} (C : mm_C2 V l (b0, mm_kx, D, tA, aK, aV) (b1, mm_km, D, tA, aK, aV) b L xs) {x : Int32} (σ τ : mm_M) (hI : Inv σ τ) (h0 : vp_in x L) (h1 : vp_in (x + 1) L) (h2 : vp_in (x + 2) L) (h3 : vp_in (x + 3) L) (h4 : vp_in (x + 4) L) (h5 : vp_in (x + 5) L) (hbr : ∀ σ1 τ1, Inv σ1 τ1 → V σ1 τ1 [(3, .int x), (2, .ref (mm_ad (b1, mm_km, D, tA, aK, aV) 0)), (1, .ref (mm_ad (b0, mm_kx, D, tA, aK, aV) 0)), (0, .ref b)] [] 1748) : V σ τ [(3, .int x), (2, .ref (mm_ad (b1, mm_km, D, tA, aK, aV) 0)), (1, .ref (mm_ad (b0, mm_kx, D, tA, aK, aV) 0)), (0, .ref b)] [] 1194 := by
  obtain ⟨r, σ1, τ1, hx1, hm1, hI1⟩ := HA.2.2.2.2.2.2.2.2.2.2.2.2.2.2.2.2.2.2.2.2.2.2.2.2.2.2.2.2.2.2.2.1   σ τ hI
  refine k2_aload_n (pc := 1194) C dL_law_1194 2 rfl rfl ?_
  refine k2_xi (pc := 1195) (As := []) C mv_L_147 (c_X11_levels (b0, mm_kx, D, tA, aK, aV) n 576 σ 0 rfl (by decide) ) hx1 rfl ⟨_, rfl, rfl⟩ rfl rfl (Nat.le_of_ble_eq_true rfl) (by decide) (by decide) dL_law_1195 ?_
  refine k2_aload_n (pc := 1198) C dL_law_1198 1 rfl rfl ?_
  refine k2_mi (pc := 1199) (As := []) C mv_L_150 (c_X12_levels (b1, mm_km, D, tA, aK, aV) n 20 τ 0 rfl (by decide) ) hm1 rfl ⟨_, rfl, rfl⟩ rfl rfl (Nat.le_of_ble_eq_true rfl) (by decide) (by decide) dL_law_1199 ?_
  refine k2_same (pc := 1202) (tgt := 1748) C dL_law_1202 (by decide) ?_
  exact hbr σ1 τ1 hI1
set_option maxRecDepth 100000 in
set_option maxHeartbeats 4000000 in
theorem lc_32 (Inv : mm_M → mm_M → Prop) (n : Nat) (HA : mm_All Inv n) {V : mm_V2} {l : Launch} {b0 b1 : Nat} {D : va_G} {tA : Nat → ClassId} {aK aV : Nat → Nat} {b L : Nat} {xs : Nat → Int32} (C : mm_C2 V l (b0, mm_kx, D, tA, aK, aV) (b1, mm_km, D, tA, aK, aV) b L xs) {x : Int32} (σ τ : mm_M) (hI : Inv σ τ) (h0 : vp_in x L) (h1 : vp_in (x + 1) L) (h2 : vp_in (x + 2) L) (h3 : vp_in (x + 3) L) (h4 : vp_in (x + 4) L) (h5 : vp_in (x + 5) L) (hbr : ∀ σ1 τ1, Inv σ1 τ1 → V σ1 τ1 [(3, .int x), (2, .ref (mm_ad (b1, mm_km, D, tA, aK, aV) 0)), (1, .ref (mm_ad (b0, mm_kx, D, tA, aK, aV) 0)), (0, .ref b)] [] 1748) : V σ τ [(3, .int x), (2, .ref (mm_ad (b1, mm_km, D, tA, aK, aV) 0)), (1, .ref (mm_ad (b0, mm_kx, D, tA, aK, aV) 0)), (0, .ref b)] [] 1207 := by
  obtain ⟨r, σ1, τ1, hx1, hm1, hI1⟩ := HA.2.2.2.2.2.2.2.2.2.2.2.2.2.2.2.2.2.2.2.2.2.2.2.2.2.2.2.2.2.2.2.2.1 (xs (x + 1).toNatClampNeg) (mm_nz (xs (x + 2).toNatClampNeg)) (mm_nz_z _) σ τ hI
  refine k2_aload_n (pc := 1207) C dL_law_1207 2 rfl rfl ?_
  refine k2_aload_n (pc := 1208) C dL_law_1208 3 rfl rfl ?_
  refine k2_iload_n (pc := 1209) C dL_law_1209 0 rfl rfl ?_
  refine k2_iconst (pc := 1210) (v := 1) C dL_law_1210 (by decide) ?_
  refine k2_iadd (pc := 1211) C dL_law_1211 ?_
  refine k2_sld (pc := 1212) C dL_law_1212 h1 ?_
  refine k2_aload_n (pc := 1213) C dL_law_1213 3 rfl rfl ?_
  refine k2_iload_n (pc := 1214) C dL_law_1214 0 rfl rfl ?_
  refine k2_iconst (pc := 1215) (v := 2) C dL_law_1215 (by decide) ?_
  refine k2_iadd (pc := 1216) C dL_law_1216 ?_
  refine k2_sld (pc := 1217) C dL_law_1217 h2 ?_
  refine k2_nz (pc := 1218) (p1 := 1221) (p2 := 1222) (p3 := 1225) (p4 := 1226) C dL_law_1218 (by decide) (by decide) dL_law_1221 (by decide) dL_law_1222 (by decide) dL_law_1225 (by decide) ?_
  refine k2_xi (pc := 1226) (As := [.int (xs (x + 1).toNatClampNeg), .int (mm_nz (xs (x + 2).toNatClampNeg))]) C mv_L_151 (c_X11_asked (b0, mm_kx, D, tA, aK, aV) n 576 σ 0 rfl (by decide) (xs (x + 1).toNatClampNeg) (mm_nz (xs (x + 2).toNatClampNeg))) hx1 rfl ⟨_, rfl, rfl⟩ rfl rfl (Nat.le_of_ble_eq_true rfl) (by decide) (by decide) dL_law_1226 ?_
  refine k2_aload_n (pc := 1229) C dL_law_1229 1 rfl rfl ?_
  refine k2_aload_n (pc := 1230) C dL_law_1230 3 rfl rfl ?_
  refine k2_iload_n (pc := 1231) C dL_law_1231 0 rfl rfl ?_
  refine k2_iconst (pc := 1232) (v := 1) C dL_law_1232 (by decide) ?_
  refine k2_iadd (pc := 1233) C dL_law_1233 ?_
  refine k2_sld (pc := 1234) C dL_law_1234 h1 ?_
  refine k2_aload_n (pc := 1235) C dL_law_1235 3 rfl rfl ?_
  refine k2_iload_n (pc := 1236) C dL_law_1236 0 rfl rfl ?_
  refine k2_iconst (pc := 1237) (v := 2) C dL_law_1237 (by decide) ?_
  refine k2_iadd (pc := 1238) C dL_law_1238 ?_
  refine k2_sld (pc := 1239) C dL_law_1239 h2 ?_
  refine k2_nz (pc := 1240) (p1 := 1243) (p2 := 1244) (p3 := 1247) (p4 := 1248) C dL_law_1240 (by decide) (by decide) dL_law_1243 (by decide) dL_law_1244 (by decide) dL_law_1247 (by decide) ?_
  refine k2_mi (pc := 1248) (As := [.int (xs (x + 1).toNatClampNeg), .int (mm_nz (xs (x + 2).toNatClampNeg))]) C mv_L_155 (c_X12_asked (b1, mm_km, D, tA, aK, aV) n 20 τ 0 rfl (by decide) (xs (x + 1).toNatClampNeg) (mm_nz (xs (x + 2).toNatClampNeg))) hm1 rfl ⟨_, rfl, rfl⟩ rfl rfl (Nat.le_of_ble_eq_true rfl) (by decide) (by decide) dL_law_1248 ?_
  refine k2_same (pc := 1251) (tgt := 1748) C dL_law_1251 (by decide) ?_
  exact hbr σ1 τ1 hI1
set_option maxRecDepth 100000 in
set_option maxHeartbeats 4000000 in
theorem lc_33 (Inv : mm_M → mm_M → Prop) (n : Nat) (HA : mm_All Inv n) {V : mm_V2} {l : Launch} {b0 b1 : Nat} {D : va_G} {tA : Nat → ClassId} {aK aV : Nat → Nat} {b L : Nat} {xs : Nat → Int32} (C : mm_C2 V l (b0, mm_kx, D, tA, aK, aV) (b1, mm_km, D, tA, aK, aV) b L xs) {x : Int32} (σ τ : mm_M) (hI : Inv σ τ) (h0 : vp_in x L) (h1 : vp_in (x + 1) L) (h2 : vp_in (x + 2) L) (h3 : vp_in (x + 3) L) (h4 : vp_in (x + 4) L) (h5 : vp_in (x + 5) L) (hbr : ∀ σ1 τ1, Inv σ1 τ1 → V σ1 τ1 [(3, .int x), (2, .ref (mm_ad (b1, mm_km, D, tA, aK, aV) 0)), (1, .ref (mm_ad (b0, mm_kx, D, tA, aK, aV) 0)), (0, .ref b)] [] 1748) : V σ τ [(3, .int x), (2, .ref (mm_ad (b1, mm_km, D, tA, aK, aV) 0)), (1, .ref (mm_ad (b0, mm_kx, D, tA, aK, aV) 0)), (0, .ref b)] [] 1256 := by
  obtain ⟨r, σ1, τ1, hx1, hm1, hI1⟩ := HA.2.2.2.2.2.2.2.2.2.2.2.2.2.2.2.2.2.2.2.2.2.2.2.2.2.2.2.2.2.2.2.2.2.1 (xs (x + 1).toNatClampNeg) (xs (x + 2).toNatClampNeg) (mm_nz (xs (x + 3).toNatClampNeg)) (mm_nz_z _) σ τ hI
  refine k2_aload_n (pc := 1256) C dL_law_1256 2 rfl rfl ?_
  refine k2_aload_n (pc := 1257) C dL_law_1257 3 rfl rfl ?_
  refine k2_iload_n (pc := 1258) C dL_law_1258 0 rfl rfl ?_
  refine k2_iconst (pc := 1259) (v := 1) C dL_law_1259 (by decide) ?_
  refine k2_iadd (pc := 1260) C dL_law_1260 ?_
  refine k2_sld (pc := 1261) C dL_law_1261 h1 ?_
  refine k2_aload_n (pc := 1262) C dL_law_1262 3 rfl rfl ?_
  refine k2_iload_n (pc := 1263) C dL_law_1263 0 rfl rfl ?_
  refine k2_iconst (pc := 1264) (v := 2) C dL_law_1264 (by decide) ?_
  refine k2_iadd (pc := 1265) C dL_law_1265 ?_
  refine k2_sld (pc := 1266) C dL_law_1266 h2 ?_
  refine k2_aload_n (pc := 1267) C dL_law_1267 3 rfl rfl ?_
  refine k2_iload_n (pc := 1268) C dL_law_1268 0 rfl rfl ?_
  refine k2_iconst (pc := 1269) (v := 3) C dL_law_1269 (by decide) ?_
  refine k2_iadd (pc := 1270) C dL_law_1270 ?_
  refine k2_sld (pc := 1271) C dL_law_1271 h3 ?_
  refine k2_nz (pc := 1272) (p1 := 1275) (p2 := 1276) (p3 := 1279) (p4 := 1280) C dL_law_1272 (by decide) (by decide) dL_law_1275 (by decide) dL_law_1276 (by decide) dL_law_1279 (by decide) ?_
  refine k2_xi (pc := 1280) (As := [.int (xs (x + 1).toNatClampNeg), .int (xs (x + 2).toNatClampNeg), .int (mm_nz (xs (x + 3).toNatClampNeg))]) C mv_L_156 (c_X11_cheap (b0, mm_kx, D, tA, aK, aV) n 576 σ 0 rfl (by decide) (xs (x + 1).toNatClampNeg) (xs (x + 2).toNatClampNeg) (mm_nz (xs (x + 3).toNatClampNeg))) hx1 rfl ⟨_, rfl, rfl⟩ rfl rfl (Nat.le_of_ble_eq_true rfl) (by decide) (by decide) dL_law_1280 ?_
  refine k2_aload_n (pc := 1283) C dL_law_1283 1 rfl rfl ?_
  refine k2_aload_n (pc := 1284) C dL_law_1284 3 rfl rfl ?_
  refine k2_iload_n (pc := 1285) C dL_law_1285 0 rfl rfl ?_
  refine k2_iconst (pc := 1286) (v := 1) C dL_law_1286 (by decide) ?_
  refine k2_iadd (pc := 1287) C dL_law_1287 ?_
  refine k2_sld (pc := 1288) C dL_law_1288 h1 ?_
  refine k2_aload_n (pc := 1289) C dL_law_1289 3 rfl rfl ?_
  refine k2_iload_n (pc := 1290) C dL_law_1290 0 rfl rfl ?_
  refine k2_iconst (pc := 1291) (v := 2) C dL_law_1291 (by decide) ?_
  refine k2_iadd (pc := 1292) C dL_law_1292 ?_
  refine k2_sld (pc := 1293) C dL_law_1293 h2 ?_
  refine k2_aload_n (pc := 1294) C dL_law_1294 3 rfl rfl ?_
  refine k2_iload_n (pc := 1295) C dL_law_1295 0 rfl rfl ?_
  refine k2_iconst (pc := 1296) (v := 3) C dL_law_1296 (by decide) ?_
  refine k2_iadd (pc := 1297) C dL_law_1297 ?_
  refine k2_sld (pc := 1298) C dL_law_1298 h3 ?_
  refine k2_nz (pc := 1299) (p1 := 1302) (p2 := 1303) (p3 := 1306) (p4 := 1307) C dL_law_1299 (by decide) (by decide) dL_law_1302 (by decide) dL_law_1303 (by decide) dL_law_1306 (by decide) ?_
  refine k2_mi (pc := 1307) (As := [.int (xs (x + 1).toNatClampNeg), .int (xs (x + 2).toNatClampNeg), .int (mm_nz (xs (x + 3).toNatClampNeg))]) C mv_L_160 (c_X12_cheap (b1, mm_km, D, tA, aK, aV) n 20 τ 0 rfl (by decide) (xs (x + 1).toNatClampNeg) (xs (x + 2).toNatClampNeg) (mm_nz (xs (x + 3).toNatClampNeg))) hm1 rfl ⟨_, rfl, rfl⟩ rfl rfl (Nat.le_of_ble_eq_true rfl) (by decide) (by decide) dL_law_1307 ?_
  refine k2_same (pc := 1310) (tgt := 1748) C dL_law_1310 (by decide) ?_
  exact hbr σ1 τ1 hI1
set_option maxRecDepth 100000 in
set_option maxHeartbeats 4000000 in
theorem lc_34 (Inv : mm_M → mm_M → Prop) (n : Nat) (HA : mm_All Inv n) {V : mm_V2} {l : Launch} {b0 b1 : Nat} {D : va_G} {tA : Nat → ClassId} {aK aV : Nat → Nat} {b L : Nat} {xs : Nat → Int32} (C : mm_C2 V l (b0, mm_kx, D, tA, aK, aV) (b1, mm_km, D, tA, aK, aV) b L xs) {x : Int32} (σ τ : mm_M) (hI : Inv σ τ) (h0 : vp_in x L) (h1 : vp_in (x + 1) L) (h2 : vp_in (x + 2) L) (h3 : vp_in (x + 3) L) (h4 : vp_in (x + 4) L) (h5 : vp_in (x + 5) L) (hbr : ∀ σ1 τ1, Inv σ1 τ1 → V σ1 τ1 [(3, .int x), (2, .ref (mm_ad (b1, mm_km, D, tA, aK, aV) 0)), (1, .ref (mm_ad (b0, mm_kx, D, tA, aK, aV) 0)), (0, .ref b)] [] 1748) : V σ τ [(3, .int x), (2, .ref (mm_ad (b1, mm_km, D, tA, aK, aV) 0)), (1, .ref (mm_ad (b0, mm_kx, D, tA, aK, aV) 0)), (0, .ref b)] [] 1315 := by
  obtain ⟨r, σ1, τ1, hx1, hm1, hI1⟩ := HA.2.2.2.2.2.2.2.2.2.2.2.2.2.2.2.2.2.2.2.2.2.2.2.2.2.2.2.2.2.2.2.2.2.2.1 (xs (x + 1).toNatClampNeg) (xs (x + 2).toNatClampNeg) (mm_nz (xs (x + 3).toNatClampNeg)) (mm_nz_z _) σ τ hI
  refine k2_aload_n (pc := 1315) C dL_law_1315 2 rfl rfl ?_
  refine k2_aload_n (pc := 1316) C dL_law_1316 3 rfl rfl ?_
  refine k2_iload_n (pc := 1317) C dL_law_1317 0 rfl rfl ?_
  refine k2_iconst (pc := 1318) (v := 1) C dL_law_1318 (by decide) ?_
  refine k2_iadd (pc := 1319) C dL_law_1319 ?_
  refine k2_sld (pc := 1320) C dL_law_1320 h1 ?_
  refine k2_aload_n (pc := 1321) C dL_law_1321 3 rfl rfl ?_
  refine k2_iload_n (pc := 1322) C dL_law_1322 0 rfl rfl ?_
  refine k2_iconst (pc := 1323) (v := 2) C dL_law_1323 (by decide) ?_
  refine k2_iadd (pc := 1324) C dL_law_1324 ?_
  refine k2_sld (pc := 1325) C dL_law_1325 h2 ?_
  refine k2_aload_n (pc := 1326) C dL_law_1326 3 rfl rfl ?_
  refine k2_iload_n (pc := 1327) C dL_law_1327 0 rfl rfl ?_
  refine k2_iconst (pc := 1328) (v := 3) C dL_law_1328 (by decide) ?_
  refine k2_iadd (pc := 1329) C dL_law_1329 ?_
  refine k2_sld (pc := 1330) C dL_law_1330 h3 ?_
  refine k2_nz (pc := 1331) (p1 := 1334) (p2 := 1335) (p3 := 1338) (p4 := 1339) C dL_law_1331 (by decide) (by decide) dL_law_1334 (by decide) dL_law_1335 (by decide) dL_law_1338 (by decide) ?_
  refine k2_xi (pc := 1339) (As := [.int (xs (x + 1).toNatClampNeg), .int (xs (x + 2).toNatClampNeg), .int (mm_nz (xs (x + 3).toNatClampNeg))]) C mv_L_161 (c_X11_offers (b0, mm_kx, D, tA, aK, aV) n 576 σ 0 rfl (by decide) (xs (x + 1).toNatClampNeg) (xs (x + 2).toNatClampNeg) (mm_nz (xs (x + 3).toNatClampNeg))) hx1 rfl ⟨_, rfl, rfl⟩ rfl rfl (Nat.le_of_ble_eq_true rfl) (by decide) (by decide) dL_law_1339 ?_
  refine k2_aload_n (pc := 1342) C dL_law_1342 1 rfl rfl ?_
  refine k2_aload_n (pc := 1343) C dL_law_1343 3 rfl rfl ?_
  refine k2_iload_n (pc := 1344) C dL_law_1344 0 rfl rfl ?_
  refine k2_iconst (pc := 1345) (v := 1) C dL_law_1345 (by decide) ?_
  refine k2_iadd (pc := 1346) C dL_law_1346 ?_
  refine k2_sld (pc := 1347) C dL_law_1347 h1 ?_
  refine k2_aload_n (pc := 1348) C dL_law_1348 3 rfl rfl ?_
  refine k2_iload_n (pc := 1349) C dL_law_1349 0 rfl rfl ?_
  refine k2_iconst (pc := 1350) (v := 2) C dL_law_1350 (by decide) ?_
  refine k2_iadd (pc := 1351) C dL_law_1351 ?_
  refine k2_sld (pc := 1352) C dL_law_1352 h2 ?_
  refine k2_aload_n (pc := 1353) C dL_law_1353 3 rfl rfl ?_
  refine k2_iload_n (pc := 1354) C dL_law_1354 0 rfl rfl ?_
  refine k2_iconst (pc := 1355) (v := 3) C dL_law_1355 (by decide) ?_
  refine k2_iadd (pc := 1356) C dL_law_1356 ?_
  refine k2_sld (pc := 1357) C dL_law_1357 h3 ?_
  refine k2_nz (pc := 1358) (p1 := 1361) (p2 := 1362) (p3 := 1365) (p4 := 1366) C dL_law_1358 (by decide) (by decide) dL_law_1361 (by decide) dL_law_1362 (by decide) dL_law_1365 (by decide) ?_
  refine k2_mi (pc := 1366) (As := [.int (xs (x + 1).toNatClampNeg), .int (xs (x + 2).toNatClampNeg), .int (mm_nz (xs (x + 3).toNatClampNeg))]) C mv_L_164 (c_X12_offers (b1, mm_km, D, tA, aK, aV) n 20 τ 0 rfl (by decide) (xs (x + 1).toNatClampNeg) (xs (x + 2).toNatClampNeg) (mm_nz (xs (x + 3).toNatClampNeg))) hm1 rfl ⟨_, rfl, rfl⟩ rfl rfl (Nat.le_of_ble_eq_true rfl) (by decide) (by decide) dL_law_1366 ?_
  refine k2_same (pc := 1369) (tgt := 1748) C dL_law_1369 (by decide) ?_
  exact hbr σ1 τ1 hI1
set_option maxRecDepth 100000 in
set_option maxHeartbeats 4000000 in
theorem lc_35 (Inv : mm_M → mm_M → Prop) (n : Nat) (HA : mm_All Inv n) {V : mm_V2} {l : Launch} {b0 b1 : Nat} {D : va_G} {tA : Nat → ClassId} {aK aV : Nat → Nat} {b L : Nat} {xs : Nat → Int32} (C : mm_C2 V l (b0, mm_kx, D, tA, aK, aV) (b1, mm_km, D, tA, aK, aV) b L xs) {x : Int32} (σ τ : mm_M) (hI : Inv σ τ) (h0 : vp_in x L) (h1 : vp_in (x + 1) L) (h2 : vp_in (x + 2) L) (h3 : vp_in (x + 3) L) (h4 : vp_in (x + 4) L) (h5 : vp_in (x + 5) L) (hbr : ∀ σ1 τ1, Inv σ1 τ1 → V σ1 τ1 [(3, .int x), (2, .ref (mm_ad (b1, mm_km, D, tA, aK, aV) 0)), (1, .ref (mm_ad (b0, mm_kx, D, tA, aK, aV) 0)), (0, .ref b)] [] 1748) : V σ τ [(3, .int x), (2, .ref (mm_ad (b1, mm_km, D, tA, aK, aV) 0)), (1, .ref (mm_ad (b0, mm_kx, D, tA, aK, aV) 0)), (0, .ref b)] [] 1374 := by
  obtain ⟨r, σ1, τ1, hx1, hm1, hI1⟩ := HA.2.2.2.2.2.2.2.2.2.2.2.2.2.2.2.2.2.2.2.2.2.2.2.2.2.2.2.2.2.2.2.2.2.2.2.1 (mm_nz (xs (x + 1).toNatClampNeg)) (mm_nz_z _) σ τ hI
  refine k2_aload_n (pc := 1374) C dL_law_1374 2 rfl rfl ?_
  refine k2_aload_n (pc := 1375) C dL_law_1375 3 rfl rfl ?_
  refine k2_iload_n (pc := 1376) C dL_law_1376 0 rfl rfl ?_
  refine k2_iconst (pc := 1377) (v := 1) C dL_law_1377 (by decide) ?_
  refine k2_iadd (pc := 1378) C dL_law_1378 ?_
  refine k2_sld (pc := 1379) C dL_law_1379 h1 ?_
  refine k2_nz (pc := 1380) (p1 := 1383) (p2 := 1384) (p3 := 1387) (p4 := 1388) C dL_law_1380 (by decide) (by decide) dL_law_1383 (by decide) dL_law_1384 (by decide) dL_law_1387 (by decide) ?_
  refine k2_xi (pc := 1388) (As := [.int (mm_nz (xs (x + 1).toNatClampNeg))]) C mv_L_165 (c_X11_rings (b0, mm_kx, D, tA, aK, aV) n 576 σ 0 rfl (by decide) (mm_nz (xs (x + 1).toNatClampNeg))) hx1 rfl ⟨_, rfl, rfl⟩ rfl rfl (Nat.le_of_ble_eq_true rfl) (by decide) (by decide) dL_law_1388 ?_
  refine k2_aload_n (pc := 1391) C dL_law_1391 1 rfl rfl ?_
  refine k2_aload_n (pc := 1392) C dL_law_1392 3 rfl rfl ?_
  refine k2_iload_n (pc := 1393) C dL_law_1393 0 rfl rfl ?_
  refine k2_iconst (pc := 1394) (v := 1) C dL_law_1394 (by decide) ?_
  refine k2_iadd (pc := 1395) C dL_law_1395 ?_
  refine k2_sld (pc := 1396) C dL_law_1396 h1 ?_
  refine k2_nz (pc := 1397) (p1 := 1400) (p2 := 1401) (p3 := 1404) (p4 := 1405) C dL_law_1397 (by decide) (by decide) dL_law_1400 (by decide) dL_law_1401 (by decide) dL_law_1404 (by decide) ?_
  refine k2_mi (pc := 1405) (As := [.int (mm_nz (xs (x + 1).toNatClampNeg))]) C mv_L_168 (c_X12_rings (b1, mm_km, D, tA, aK, aV) n 20 τ 0 rfl (by decide) (mm_nz (xs (x + 1).toNatClampNeg))) hm1 rfl ⟨_, rfl, rfl⟩ rfl rfl (Nat.le_of_ble_eq_true rfl) (by decide) (by decide) dL_law_1405 ?_
  refine k2_same (pc := 1408) (tgt := 1748) C dL_law_1408 (by decide) ?_
  exact hbr σ1 τ1 hI1
set_option maxRecDepth 100000 in
set_option maxHeartbeats 4000000 in
theorem lc_36 (Inv : mm_M → mm_M → Prop) (n : Nat) (HA : mm_All Inv n) {V : mm_V2} {l : Launch} {b0 b1 : Nat} {D : va_G} {tA : Nat → ClassId} {aK aV : Nat → Nat} {b L : Nat} {xs : Nat → Int32} (C : mm_C2 V l (b0, mm_kx, D, tA, aK, aV) (b1, mm_km, D, tA, aK, aV) b L xs) {x : Int32} (σ τ : mm_M) (hI : Inv σ τ) (h0 : vp_in x L) (h1 : vp_in (x + 1) L) (h2 : vp_in (x + 2) L) (h3 : vp_in (x + 3) L) (h4 : vp_in (x + 4) L) (h5 : vp_in (x + 5) L) (hbr : ∀ σ1 τ1, Inv σ1 τ1 → V σ1 τ1 [(3, .int x), (2, .ref (mm_ad (b1, mm_km, D, tA, aK, aV) 0)), (1, .ref (mm_ad (b0, mm_kx, D, tA, aK, aV) 0)), (0, .ref b)] [] 1748) : V σ τ [(3, .int x), (2, .ref (mm_ad (b1, mm_km, D, tA, aK, aV) 0)), (1, .ref (mm_ad (b0, mm_kx, D, tA, aK, aV) 0)), (0, .ref b)] [] 1413 := by
  obtain ⟨r, σ1, τ1, hx1, hm1, hI1⟩ := HA.2.2.2.2.2.2.2.2.2.2.2.2.2.2.2.2.2.2.2.2.2.2.2.2.2.2.2.2.2.2.2.2.2.2.2.2.1 (xs (x + 1).toNatClampNeg)  σ τ hI
  refine k2_aload_n (pc := 1413) C dL_law_1413 2 rfl rfl ?_
  refine k2_aload_n (pc := 1414) C dL_law_1414 3 rfl rfl ?_
  refine k2_iload_n (pc := 1415) C dL_law_1415 0 rfl rfl ?_
  refine k2_iconst (pc := 1416) (v := 1) C dL_law_1416 (by decide) ?_
  refine k2_iadd (pc := 1417) C dL_law_1417 ?_
  refine k2_sld (pc := 1418) C dL_law_1418 h1 ?_
  refine k2_xi (pc := 1419) (As := [.int (xs (x + 1).toNatClampNeg)]) C mv_L_169 (c_X11_ring (b0, mm_kx, D, tA, aK, aV) n 576 σ 0 rfl (by decide) (xs (x + 1).toNatClampNeg)) hx1 rfl ⟨_, rfl, rfl⟩ rfl rfl (Nat.le_of_ble_eq_true rfl) (by decide) (by decide) dL_law_1419 ?_
  refine k2_aload_n (pc := 1422) C dL_law_1422 1 rfl rfl ?_
  refine k2_aload_n (pc := 1423) C dL_law_1423 3 rfl rfl ?_
  refine k2_iload_n (pc := 1424) C dL_law_1424 0 rfl rfl ?_
  refine k2_iconst (pc := 1425) (v := 1) C dL_law_1425 (by decide) ?_
  refine k2_iadd (pc := 1426) C dL_law_1426 ?_
  refine k2_sld (pc := 1427) C dL_law_1427 h1 ?_
  refine k2_mi (pc := 1428) (As := [.int (xs (x + 1).toNatClampNeg)]) C mv_L_172 (c_X12_ring (b1, mm_km, D, tA, aK, aV) n 20 τ 0 rfl (by decide) (xs (x + 1).toNatClampNeg)) hm1 rfl ⟨_, rfl, rfl⟩ rfl rfl (Nat.le_of_ble_eq_true rfl) (by decide) (by decide) dL_law_1428 ?_
  refine k2_same (pc := 1431) (tgt := 1748) C dL_law_1431 (by decide) ?_
  exact hbr σ1 τ1 hI1
set_option maxRecDepth 100000 in
set_option maxHeartbeats 4000000 in
theorem lc_37 (Inv : mm_M → mm_M → Prop) (n : Nat) (HA : mm_All Inv n) {V : mm_V2} {l : Launch} {b0 b1 : Nat} {D : va_G} {tA : Nat → ClassId} {aK aV : Nat → Nat} {b L : Nat} {xs : Nat → Int32} (C : mm_C2 V l (b0, mm_kx, D, tA, aK, aV) (b1, mm_km, D, tA, aK, aV) b L xs) {x : Int32} (σ τ : mm_M) (hI : Inv σ τ) (h0 : vp_in x L) (h1 : vp_in (x + 1) L) (h2 : vp_in (x + 2) L) (h3 : vp_in (x + 3) L) (h4 : vp_in (x + 4) L) (h5 : vp_in (x + 5) L) (hbr : ∀ σ1 τ1, Inv σ1 τ1 → V σ1 τ1 [(3, .int x), (2, .ref (mm_ad (b1, mm_km, D, tA, aK, aV) 0)), (1, .ref (mm_ad (b0, mm_kx, D, tA, aK, aV) 0)), (0, .ref b)] [] 1748) : V σ τ [(3, .int x), (2, .ref (mm_ad (b1, mm_km, D, tA, aK, aV) 0)), (1, .ref (mm_ad (b0, mm_kx, D, tA, aK, aV) 0)), (0, .ref b)] [] 1436 := by
  obtain ⟨r, σ1, τ1, hx1, hm1, hI1⟩ := HA.2.2.2.2.2.2.2.2.2.2.2.2.2.2.2.2.2.2.2.2.2.2.2.2.2.2.2.2.2.2.2.2.2.2.2.2.2.1 (xs (x + 1).toNatClampNeg) (xs (x + 2).toNatClampNeg) (xs (x + 3).toNatClampNeg)  σ τ hI
  refine k2_aload_n (pc := 1436) C dL_law_1436 2 rfl rfl ?_
  refine k2_aload_n (pc := 1437) C dL_law_1437 3 rfl rfl ?_
  refine k2_iload_n (pc := 1438) C dL_law_1438 0 rfl rfl ?_
  refine k2_iconst (pc := 1439) (v := 1) C dL_law_1439 (by decide) ?_
  refine k2_iadd (pc := 1440) C dL_law_1440 ?_
  refine k2_sld (pc := 1441) C dL_law_1441 h1 ?_
  refine k2_aload_n (pc := 1442) C dL_law_1442 3 rfl rfl ?_
  refine k2_iload_n (pc := 1443) C dL_law_1443 0 rfl rfl ?_
  refine k2_iconst (pc := 1444) (v := 2) C dL_law_1444 (by decide) ?_
  refine k2_iadd (pc := 1445) C dL_law_1445 ?_
  refine k2_sld (pc := 1446) C dL_law_1446 h2 ?_
  refine k2_aload_n (pc := 1447) C dL_law_1447 3 rfl rfl ?_
  refine k2_iload_n (pc := 1448) C dL_law_1448 0 rfl rfl ?_
  refine k2_iconst (pc := 1449) (v := 3) C dL_law_1449 (by decide) ?_
  refine k2_iadd (pc := 1450) C dL_law_1450 ?_
  refine k2_sld (pc := 1451) C dL_law_1451 h3 ?_
  refine k2_xi (pc := 1452) (As := [.int (xs (x + 1).toNatClampNeg), .int (xs (x + 2).toNatClampNeg), .int (xs (x + 3).toNatClampNeg)]) C mv_L_173 (c_X11_grant (b0, mm_kx, D, tA, aK, aV) n 576 σ 0 rfl (by decide) (xs (x + 1).toNatClampNeg) (xs (x + 2).toNatClampNeg) (xs (x + 3).toNatClampNeg)) hx1 rfl ⟨_, rfl, rfl⟩ rfl rfl (Nat.le_of_ble_eq_true rfl) (by decide) (by decide) dL_law_1452 ?_
  refine k2_aload_n (pc := 1455) C dL_law_1455 1 rfl rfl ?_
  refine k2_aload_n (pc := 1456) C dL_law_1456 3 rfl rfl ?_
  refine k2_iload_n (pc := 1457) C dL_law_1457 0 rfl rfl ?_
  refine k2_iconst (pc := 1458) (v := 1) C dL_law_1458 (by decide) ?_
  refine k2_iadd (pc := 1459) C dL_law_1459 ?_
  refine k2_sld (pc := 1460) C dL_law_1460 h1 ?_
  refine k2_aload_n (pc := 1461) C dL_law_1461 3 rfl rfl ?_
  refine k2_iload_n (pc := 1462) C dL_law_1462 0 rfl rfl ?_
  refine k2_iconst (pc := 1463) (v := 2) C dL_law_1463 (by decide) ?_
  refine k2_iadd (pc := 1464) C dL_law_1464 ?_
  refine k2_sld (pc := 1465) C dL_law_1465 h2 ?_
  refine k2_aload_n (pc := 1466) C dL_law_1466 3 rfl rfl ?_
  refine k2_iload_n (pc := 1467) C dL_law_1467 0 rfl rfl ?_
  refine k2_iconst (pc := 1468) (v := 3) C dL_law_1468 (by decide) ?_
  refine k2_iadd (pc := 1469) C dL_law_1469 ?_
  refine k2_sld (pc := 1470) C dL_law_1470 h3 ?_
  refine k2_mi (pc := 1471) (As := [.int (xs (x + 1).toNatClampNeg), .int (xs (x + 2).toNatClampNeg), .int (xs (x + 3).toNatClampNeg)]) C mv_L_177 (c_X12_grant (b1, mm_km, D, tA, aK, aV) n 20 τ 0 rfl (by decide) (xs (x + 1).toNatClampNeg) (xs (x + 2).toNatClampNeg) (xs (x + 3).toNatClampNeg)) hm1 rfl ⟨_, rfl, rfl⟩ rfl rfl (Nat.le_of_ble_eq_true rfl) (by decide) (by decide) dL_law_1471 ?_
  refine k2_same (pc := 1474) (tgt := 1748) C dL_law_1474 (by decide) ?_
  exact hbr σ1 τ1 hI1
set_option maxRecDepth 100000 in
set_option maxHeartbeats 4000000 in
theorem lc_38 (Inv : mm_M → mm_M → Prop) (n : Nat) (HA : mm_All Inv n) {V : mm_V2} {l : Launch} {b0 b1 : Nat} {D : va_G} {tA : Nat → ClassId} {aK aV : Nat → Nat} {b L : Nat} {xs : Nat → Int32} (C : mm_C2 V l (b0, mm_kx, D, tA, aK, aV) (b1, mm_km, D, tA, aK, aV) b L xs) {x : Int32} (σ τ : mm_M) (hI : Inv σ τ) (h0 : vp_in x L) (h1 : vp_in (x + 1) L) (h2 : vp_in (x + 2) L) (h3 : vp_in (x + 3) L) (h4 : vp_in (x + 4) L) (h5 : vp_in (x + 5) L) (hbr : ∀ σ1 τ1, Inv σ1 τ1 → V σ1 τ1 [(3, .int x), (2, .ref (mm_ad (b1, mm_km, D, tA, aK, aV) 0)), (1, .ref (mm_ad (b0, mm_kx, D, tA, aK, aV) 0)), (0, .ref b)] [] 1748) : V σ τ [(3, .int x), (2, .ref (mm_ad (b1, mm_km, D, tA, aK, aV) 0)), (1, .ref (mm_ad (b0, mm_kx, D, tA, aK, aV) 0)), (0, .ref b)] [] 1479 := by
  obtain ⟨r, σ1, τ1, hx1, hm1, hI1⟩ := HA.2.2.2.2.2.2.2.2.2.2.2.2.2.2.2.2.2.2.2.2.2.2.2.2.2.2.2.2.2.2.2.2.2.2.2.2.2.2.1 (xs (x + 1).toNatClampNeg) (mm_nz (xs (x + 2).toNatClampNeg)) (mm_nz_z _) σ τ hI
  refine k2_aload_n (pc := 1479) C dL_law_1479 2 rfl rfl ?_
  refine k2_aload_n (pc := 1480) C dL_law_1480 3 rfl rfl ?_
  refine k2_iload_n (pc := 1481) C dL_law_1481 0 rfl rfl ?_
  refine k2_iconst (pc := 1482) (v := 1) C dL_law_1482 (by decide) ?_
  refine k2_iadd (pc := 1483) C dL_law_1483 ?_
  refine k2_sld (pc := 1484) C dL_law_1484 h1 ?_
  refine k2_aload_n (pc := 1485) C dL_law_1485 3 rfl rfl ?_
  refine k2_iload_n (pc := 1486) C dL_law_1486 0 rfl rfl ?_
  refine k2_iconst (pc := 1487) (v := 2) C dL_law_1487 (by decide) ?_
  refine k2_iadd (pc := 1488) C dL_law_1488 ?_
  refine k2_sld (pc := 1489) C dL_law_1489 h2 ?_
  refine k2_nz (pc := 1490) (p1 := 1493) (p2 := 1494) (p3 := 1497) (p4 := 1498) C dL_law_1490 (by decide) (by decide) dL_law_1493 (by decide) dL_law_1494 (by decide) dL_law_1497 (by decide) ?_
  refine k2_xl (pc := 1498) (As := [.int (xs (x + 1).toNatClampNeg), .int (mm_nz (xs (x + 2).toNatClampNeg))]) C mv_L_178 (c_X11_budget (b0, mm_kx, D, tA, aK, aV) n 576 σ 0 rfl (by decide) (xs (x + 1).toNatClampNeg) (mm_nz (xs (x + 2).toNatClampNeg))) hx1 rfl ⟨_, rfl, rfl⟩ rfl rfl (Nat.le_of_ble_eq_true rfl) (by decide) (by decide) dL_law_1498 ?_
  refine k2_aload_n (pc := 1501) C dL_law_1501 1 rfl rfl ?_
  refine k2_aload_n (pc := 1502) C dL_law_1502 3 rfl rfl ?_
  refine k2_iload_n (pc := 1503) C dL_law_1503 0 rfl rfl ?_
  refine k2_iconst (pc := 1504) (v := 1) C dL_law_1504 (by decide) ?_
  refine k2_iadd (pc := 1505) C dL_law_1505 ?_
  refine k2_sld (pc := 1506) C dL_law_1506 h1 ?_
  refine k2_aload_n (pc := 1507) C dL_law_1507 3 rfl rfl ?_
  refine k2_iload_n (pc := 1508) C dL_law_1508 0 rfl rfl ?_
  refine k2_iconst (pc := 1509) (v := 2) C dL_law_1509 (by decide) ?_
  refine k2_iadd (pc := 1510) C dL_law_1510 ?_
  refine k2_sld (pc := 1511) C dL_law_1511 h2 ?_
  refine k2_nz (pc := 1512) (p1 := 1515) (p2 := 1516) (p3 := 1519) (p4 := 1520) C dL_law_1512 (by decide) (by decide) dL_law_1515 (by decide) dL_law_1516 (by decide) dL_law_1519 (by decide) ?_
  refine k2_ml (pc := 1520) (As := [.int (xs (x + 1).toNatClampNeg), .int (mm_nz (xs (x + 2).toNatClampNeg))]) C mv_L_182 (c_X12_budget (b1, mm_km, D, tA, aK, aV) n 20 τ 0 rfl (by decide) (xs (x + 1).toNatClampNeg) (mm_nz (xs (x + 2).toNatClampNeg))) hm1 rfl ⟨_, rfl, rfl⟩ rfl rfl (Nat.le_of_ble_eq_true rfl) (by decide) (by decide) dL_law_1520 ?_
  refine k2_lcmp (pc := 1523) C dL_law_1523 ?_
  rw [mm_lcs]
  refine k2_if_eq (pc := 1524) (tgt := 1748) C dL_law_1524 (by decide) (fun _ => ?_) (fun hne => absurd rfl hne)
  exact hbr σ1 τ1 hI1
set_option maxRecDepth 100000 in
set_option maxHeartbeats 4000000 in
theorem lc_39 (Inv : mm_M → mm_M → Prop) (n : Nat) (HA : mm_All Inv n) {V : mm_V2} {l : Launch} {b0 b1 : Nat} {D : va_G} {tA : Nat → ClassId} {aK aV : Nat → Nat} {b L : Nat} {xs : Nat → Int32} (C : mm_C2 V l (b0, mm_kx, D, tA, aK, aV) (b1, mm_km, D, tA, aK, aV) b L xs) {x : Int32} (σ τ : mm_M) (hI : Inv σ τ) (h0 : vp_in x L) (h1 : vp_in (x + 1) L) (h2 : vp_in (x + 2) L) (h3 : vp_in (x + 3) L) (h4 : vp_in (x + 4) L) (h5 : vp_in (x + 5) L) (hbr : ∀ σ1 τ1, Inv σ1 τ1 → V σ1 τ1 [(3, .int x), (2, .ref (mm_ad (b1, mm_km, D, tA, aK, aV) 0)), (1, .ref (mm_ad (b0, mm_kx, D, tA, aK, aV) 0)), (0, .ref b)] [] 1748) : V σ τ [(3, .int x), (2, .ref (mm_ad (b1, mm_km, D, tA, aK, aV) 0)), (1, .ref (mm_ad (b0, mm_kx, D, tA, aK, aV) 0)), (0, .ref b)] [] 1529 := by
  obtain ⟨r, σ1, τ1, hx1, hm1, hI1⟩ := HA.2.2.2.2.2.2.2.2.2.2.2.2.2.2.2.2.2.2.2.2.2.2.2.2.2.2.2.2.2.2.2.2.2.2.2.2.2.2.2.1 (xs (x + 1).toNatClampNeg)  σ τ hI
  refine k2_aload_n (pc := 1529) C dL_law_1529 2 rfl rfl ?_
  refine k2_aload_n (pc := 1530) C dL_law_1530 3 rfl rfl ?_
  refine k2_iload_n (pc := 1531) C dL_law_1531 0 rfl rfl ?_
  refine k2_iconst (pc := 1532) (v := 1) C dL_law_1532 (by decide) ?_
  refine k2_iadd (pc := 1533) C dL_law_1533 ?_
  refine k2_sld (pc := 1534) C dL_law_1534 h1 ?_
  refine k2_xi (pc := 1535) (As := [.int (xs (x + 1).toNatClampNeg)]) C mv_L_183 (c_X11_enough (b0, mm_kx, D, tA, aK, aV) n 576 σ 0 rfl (by decide) (xs (x + 1).toNatClampNeg)) hx1 rfl ⟨_, rfl, rfl⟩ rfl rfl (Nat.le_of_ble_eq_true rfl) (by decide) (by decide) dL_law_1535 ?_
  refine k2_aload_n (pc := 1538) C dL_law_1538 1 rfl rfl ?_
  refine k2_aload_n (pc := 1539) C dL_law_1539 3 rfl rfl ?_
  refine k2_iload_n (pc := 1540) C dL_law_1540 0 rfl rfl ?_
  refine k2_iconst (pc := 1541) (v := 1) C dL_law_1541 (by decide) ?_
  refine k2_iadd (pc := 1542) C dL_law_1542 ?_
  refine k2_sld (pc := 1543) C dL_law_1543 h1 ?_
  refine k2_mi (pc := 1544) (As := [.int (xs (x + 1).toNatClampNeg)]) C mv_L_186 (c_X12_enough (b1, mm_km, D, tA, aK, aV) n 20 τ 0 rfl (by decide) (xs (x + 1).toNatClampNeg)) hm1 rfl ⟨_, rfl, rfl⟩ rfl rfl (Nat.le_of_ble_eq_true rfl) (by decide) (by decide) dL_law_1544 ?_
  refine k2_same (pc := 1547) (tgt := 1748) C dL_law_1547 (by decide) ?_
  exact hbr σ1 τ1 hI1
set_option maxRecDepth 100000 in
set_option maxHeartbeats 4000000 in
theorem lc_40 (Inv : mm_M → mm_M → Prop) (n : Nat) (HA : mm_All Inv n) {V : mm_V2} {l : Launch} {b0 b1 : Nat} {D : va_G} {tA : Nat → ClassId} {aK aV : Nat → Nat} {b L : Nat} {xs : Nat → Int32} (C : mm_C2 V l (b0, mm_kx, D, tA, aK, aV) (b1, mm_km, D, tA, aK, aV) b L xs) {x : Int32} (σ τ : mm_M) (hI : Inv σ τ) (h0 : vp_in x L) (h1 : vp_in (x + 1) L) (h2 : vp_in (x + 2) L) (h3 : vp_in (x + 3) L) (h4 : vp_in (x + 4) L) (h5 : vp_in (x + 5) L) (hbr : ∀ σ1 τ1, Inv σ1 τ1 → V σ1 τ1 [(3, .int x), (2, .ref (mm_ad (b1, mm_km, D, tA, aK, aV) 0)), (1, .ref (mm_ad (b0, mm_kx, D, tA, aK, aV) 0)), (0, .ref b)] [] 1748) : V σ τ [(3, .int x), (2, .ref (mm_ad (b1, mm_km, D, tA, aK, aV) 0)), (1, .ref (mm_ad (b0, mm_kx, D, tA, aK, aV) 0)), (0, .ref b)] [] 1552 := by
  obtain ⟨r, σ1, τ1, hx1, hm1, hI1⟩ := HA.2.2.2.2.2.2.2.2.2.2.2.2.2.2.2.2.2.2.2.2.2.2.2.2.2.2.2.2.2.2.2.2.2.2.2.2.2.2.2.2.1 (xs (x + 1).toNatClampNeg) (xs (x + 2).toNatClampNeg)  σ τ hI
  refine k2_aload_n (pc := 1552) C dL_law_1552 2 rfl rfl ?_
  refine k2_aload_n (pc := 1553) C dL_law_1553 3 rfl rfl ?_
  refine k2_iload_n (pc := 1554) C dL_law_1554 0 rfl rfl ?_
  refine k2_iconst (pc := 1555) (v := 1) C dL_law_1555 (by decide) ?_
  refine k2_iadd (pc := 1556) C dL_law_1556 ?_
  refine k2_sld (pc := 1557) C dL_law_1557 h1 ?_
  refine k2_aload_n (pc := 1558) C dL_law_1558 3 rfl rfl ?_
  refine k2_iload_n (pc := 1559) C dL_law_1559 0 rfl rfl ?_
  refine k2_iconst (pc := 1560) (v := 2) C dL_law_1560 (by decide) ?_
  refine k2_iadd (pc := 1561) C dL_law_1561 ?_
  refine k2_sld (pc := 1562) C dL_law_1562 h2 ?_
  refine k2_xi (pc := 1563) (As := [.int (xs (x + 1).toNatClampNeg), .int (xs (x + 2).toNatClampNeg)]) C mv_L_187 (c_X11_said (b0, mm_kx, D, tA, aK, aV) n 576 σ 0 rfl (by decide) (xs (x + 1).toNatClampNeg) (xs (x + 2).toNatClampNeg)) hx1 rfl ⟨_, rfl, rfl⟩ rfl rfl (Nat.le_of_ble_eq_true rfl) (by decide) (by decide) dL_law_1563 ?_
  refine k2_aload_n (pc := 1566) C dL_law_1566 1 rfl rfl ?_
  refine k2_aload_n (pc := 1567) C dL_law_1567 3 rfl rfl ?_
  refine k2_iload_n (pc := 1568) C dL_law_1568 0 rfl rfl ?_
  refine k2_iconst (pc := 1569) (v := 1) C dL_law_1569 (by decide) ?_
  refine k2_iadd (pc := 1570) C dL_law_1570 ?_
  refine k2_sld (pc := 1571) C dL_law_1571 h1 ?_
  refine k2_aload_n (pc := 1572) C dL_law_1572 3 rfl rfl ?_
  refine k2_iload_n (pc := 1573) C dL_law_1573 0 rfl rfl ?_
  refine k2_iconst (pc := 1574) (v := 2) C dL_law_1574 (by decide) ?_
  refine k2_iadd (pc := 1575) C dL_law_1575 ?_
  refine k2_sld (pc := 1576) C dL_law_1576 h2 ?_
  refine k2_mi (pc := 1577) (As := [.int (xs (x + 1).toNatClampNeg), .int (xs (x + 2).toNatClampNeg)]) C mv_L_190 (c_X12_said (b1, mm_km, D, tA, aK, aV) n 20 τ 0 rfl (by decide) (xs (x + 1).toNatClampNeg) (xs (x + 2).toNatClampNeg)) hm1 rfl ⟨_, rfl, rfl⟩ rfl rfl (Nat.le_of_ble_eq_true rfl) (by decide) (by decide) dL_law_1577 ?_
  refine k2_same (pc := 1580) (tgt := 1748) C dL_law_1580 (by decide) ?_
  exact hbr σ1 τ1 hI1
set_option maxRecDepth 100000 in
set_option maxHeartbeats 4000000 in
theorem lc_41 (Inv : mm_M → mm_M → Prop) (n : Nat) (HA : mm_All Inv n) {V : mm_V2} {l : Launch} {b0 b1 : Nat} {D : va_G} {tA : Nat → ClassId} {aK aV : Nat → Nat} {b L : Nat} {xs : Nat → Int32} (C : mm_C2 V l (b0, mm_kx, D, tA, aK, aV) (b1, mm_km, D, tA, aK, aV) b L xs) {x : Int32} (σ τ : mm_M) (hI : Inv σ τ) (h0 : vp_in x L) (h1 : vp_in (x + 1) L) (h2 : vp_in (x + 2) L) (h3 : vp_in (x + 3) L) (h4 : vp_in (x + 4) L) (h5 : vp_in (x + 5) L) (hbr : ∀ σ1 τ1, Inv σ1 τ1 → V σ1 τ1 [(3, .int x), (2, .ref (mm_ad (b1, mm_km, D, tA, aK, aV) 0)), (1, .ref (mm_ad (b0, mm_kx, D, tA, aK, aV) 0)), (0, .ref b)] [] 1748) : V σ τ [(3, .int x), (2, .ref (mm_ad (b1, mm_km, D, tA, aK, aV) 0)), (1, .ref (mm_ad (b0, mm_kx, D, tA, aK, aV) 0)), (0, .ref b)] [] 1585 := by
  obtain ⟨r, σ1, τ1, hx1, hm1, hI1⟩ := HA.2.2.2.2.2.2.2.2.2.2.2.2.2.2.2.2.2.2.2.2.2.2.2.2.2.2.2.2.2.2.2.2.2.2.2.2.2.2.2.2.2.1   σ τ hI
  refine k2_aload_n (pc := 1585) C dL_law_1585 2 rfl rfl ?_
  refine k2_xi (pc := 1586) (As := []) C mv_L_191 (c_X11_whose (b0, mm_kx, D, tA, aK, aV) n 576 σ 0 rfl (by decide) ) hx1 rfl ⟨_, rfl, rfl⟩ rfl rfl (Nat.le_of_ble_eq_true rfl) (by decide) (by decide) dL_law_1586 ?_
  refine k2_aload_n (pc := 1589) C dL_law_1589 1 rfl rfl ?_
  refine k2_mi (pc := 1590) (As := []) C mv_L_194 (c_X12_whose (b1, mm_km, D, tA, aK, aV) n 20 τ 0 rfl (by decide) ) hm1 rfl ⟨_, rfl, rfl⟩ rfl rfl (Nat.le_of_ble_eq_true rfl) (by decide) (by decide) dL_law_1590 ?_
  refine k2_same (pc := 1593) (tgt := 1748) C dL_law_1593 (by decide) ?_
  exact hbr σ1 τ1 hI1
set_option maxRecDepth 100000 in
set_option maxHeartbeats 4000000 in
theorem lc_42 (Inv : mm_M → mm_M → Prop) (n : Nat) (HA : mm_All Inv n) {V : mm_V2} {l : Launch} {b0 b1 : Nat} {D : va_G} {tA : Nat → ClassId} {aK aV : Nat → Nat} {b L : Nat} {xs : Nat → Int32} (C : mm_C2 V l (b0, mm_kx, D, tA, aK, aV) (b1, mm_km, D, tA, aK, aV) b L xs) {x : Int32} (σ τ : mm_M) (hI : Inv σ τ) (h0 : vp_in x L) (h1 : vp_in (x + 1) L) (h2 : vp_in (x + 2) L) (h3 : vp_in (x + 3) L) (h4 : vp_in (x + 4) L) (h5 : vp_in (x + 5) L) (hbr : ∀ σ1 τ1, Inv σ1 τ1 → V σ1 τ1 [(3, .int x), (2, .ref (mm_ad (b1, mm_km, D, tA, aK, aV) 0)), (1, .ref (mm_ad (b0, mm_kx, D, tA, aK, aV) 0)), (0, .ref b)] [] 1748) : V σ τ [(3, .int x), (2, .ref (mm_ad (b1, mm_km, D, tA, aK, aV) 0)), (1, .ref (mm_ad (b0, mm_kx, D, tA, aK, aV) 0)), (0, .ref b)] [] 1598 := by
  obtain ⟨r, σ1, τ1, hx1, hm1, hI1⟩ := HA.2.2.2.2.2.2.2.2.2.2.2.2.2.2.2.2.2.2.2.2.2.2.2.2.2.2.2.2.2.2.2.2.2.2.2.2.2.2.2.2.2.2.1   σ τ hI
  refine k2_aload_n (pc := 1598) C dL_law_1598 2 rfl rfl ?_
  refine k2_xi (pc := 1599) (As := []) C mv_L_195 (c_X11_saddest (b0, mm_kx, D, tA, aK, aV) n 576 σ 0 rfl (by decide) ) hx1 rfl ⟨_, rfl, rfl⟩ rfl rfl (Nat.le_of_ble_eq_true rfl) (by decide) (by decide) dL_law_1599 ?_
  refine k2_aload_n (pc := 1602) C dL_law_1602 1 rfl rfl ?_
  refine k2_mi (pc := 1603) (As := []) C mv_L_198 (c_X12_saddest (b1, mm_km, D, tA, aK, aV) n 20 τ 0 rfl (by decide) ) hm1 rfl ⟨_, rfl, rfl⟩ rfl rfl (Nat.le_of_ble_eq_true rfl) (by decide) (by decide) dL_law_1603 ?_
  refine k2_same (pc := 1606) (tgt := 1748) C dL_law_1606 (by decide) ?_
  exact hbr σ1 τ1 hI1
set_option maxRecDepth 100000 in
set_option maxHeartbeats 4000000 in
theorem lc_43 (Inv : mm_M → mm_M → Prop) (n : Nat) (HA : mm_All Inv n) {V : mm_V2} {l : Launch} {b0 b1 : Nat} {D : va_G} {tA : Nat → ClassId} {aK aV : Nat → Nat} {b L : Nat} {xs : Nat → Int32} (C : mm_C2 V l (b0, mm_kx, D, tA, aK, aV) (b1, mm_km, D, tA, aK, aV) b L xs) {x : Int32} (σ τ : mm_M) (hI : Inv σ τ) (h0 : vp_in x L) (h1 : vp_in (x + 1) L) (h2 : vp_in (x + 2) L) (h3 : vp_in (x + 3) L) (h4 : vp_in (x + 4) L) (h5 : vp_in (x + 5) L) (hbr : ∀ σ1 τ1, Inv σ1 τ1 → V σ1 τ1 [(3, .int x), (2, .ref (mm_ad (b1, mm_km, D, tA, aK, aV) 0)), (1, .ref (mm_ad (b0, mm_kx, D, tA, aK, aV) 0)), (0, .ref b)] [] 1748) : V σ τ [(3, .int x), (2, .ref (mm_ad (b1, mm_km, D, tA, aK, aV) 0)), (1, .ref (mm_ad (b0, mm_kx, D, tA, aK, aV) 0)), (0, .ref b)] [] 1611 := by
  obtain ⟨r, σ1, τ1, hx1, hm1, hI1⟩ := HA.2.2.2.2.2.2.2.2.2.2.2.2.2.2.2.2.2.2.2.2.2.2.2.2.2.2.2.2.2.2.2.2.2.2.2.2.2.2.2.2.2.2.2.1   σ τ hI
  refine k2_aload_n (pc := 1611) C dL_law_1611 2 rfl rfl ?_
  refine k2_xi (pc := 1612) (As := []) C mv_L_199 (c_X11_plain (b0, mm_kx, D, tA, aK, aV) n 576 σ 0 rfl (by decide) ) hx1 rfl ⟨_, rfl, rfl⟩ rfl rfl (Nat.le_of_ble_eq_true rfl) (by decide) (by decide) dL_law_1612 ?_
  refine k2_aload_n (pc := 1615) C dL_law_1615 1 rfl rfl ?_
  refine k2_mi (pc := 1616) (As := []) C mv_L_202 (c_X12_plain (b1, mm_km, D, tA, aK, aV) n 20 τ 0 rfl (by decide) ) hm1 rfl ⟨_, rfl, rfl⟩ rfl rfl (Nat.le_of_ble_eq_true rfl) (by decide) (by decide) dL_law_1616 ?_
  refine k2_same (pc := 1619) (tgt := 1748) C dL_law_1619 (by decide) ?_
  exact hbr σ1 τ1 hI1
set_option maxRecDepth 100000 in
set_option maxHeartbeats 4000000 in
theorem lc_44 (Inv : mm_M → mm_M → Prop) (n : Nat) (HA : mm_All Inv n) {V : mm_V2} {l : Launch} {b0 b1 : Nat} {D : va_G} {tA : Nat → ClassId} {aK aV : Nat → Nat} {b L : Nat} {xs : Nat → Int32} (C : mm_C2 V l (b0, mm_kx, D, tA, aK, aV) (b1, mm_km, D, tA, aK, aV) b L xs) {x : Int32} (σ τ : mm_M) (hI : Inv σ τ) (h0 : vp_in x L) (h1 : vp_in (x + 1) L) (h2 : vp_in (x + 2) L) (h3 : vp_in (x + 3) L) (h4 : vp_in (x + 4) L) (h5 : vp_in (x + 5) L) (hbr : ∀ σ1 τ1, Inv σ1 τ1 → V σ1 τ1 [(3, .int x), (2, .ref (mm_ad (b1, mm_km, D, tA, aK, aV) 0)), (1, .ref (mm_ad (b0, mm_kx, D, tA, aK, aV) 0)), (0, .ref b)] [] 1748) : V σ τ [(3, .int x), (2, .ref (mm_ad (b1, mm_km, D, tA, aK, aV) 0)), (1, .ref (mm_ad (b0, mm_kx, D, tA, aK, aV) 0)), (0, .ref b)] [] 1624 := by
  obtain ⟨r, σ1, τ1, hx1, hm1, hI1⟩ := HA.2.2.2.2.2.2.2.2.2.2.2.2.2.2.2.2.2.2.2.2.2.2.2.2.2.2.2.2.2.2.2.2.2.2.2.2.2.2.2.2.2.2.2.2.1   σ τ hI
  refine k2_aload_n (pc := 1624) C dL_law_1624 2 rfl rfl ?_
  refine k2_xi (pc := 1625) (As := []) C mv_L_203 (c_X11_loose (b0, mm_kx, D, tA, aK, aV) n 576 σ 0 rfl (by decide) ) hx1 rfl ⟨_, rfl, rfl⟩ rfl rfl (Nat.le_of_ble_eq_true rfl) (by decide) (by decide) dL_law_1625 ?_
  refine k2_aload_n (pc := 1628) C dL_law_1628 1 rfl rfl ?_
  refine k2_mi (pc := 1629) (As := []) C mv_L_206 (c_X12_loose (b1, mm_km, D, tA, aK, aV) n 20 τ 0 rfl (by decide) ) hm1 rfl ⟨_, rfl, rfl⟩ rfl rfl (Nat.le_of_ble_eq_true rfl) (by decide) (by decide) dL_law_1629 ?_
  refine k2_same (pc := 1632) (tgt := 1748) C dL_law_1632 (by decide) ?_
  exact hbr σ1 τ1 hI1
set_option maxRecDepth 100000 in
set_option maxHeartbeats 4000000 in
theorem lc_45 (Inv : mm_M → mm_M → Prop) (n : Nat) (HA : mm_All Inv n) {V : mm_V2} {l : Launch} {b0 b1 : Nat} {D : va_G} {tA : Nat → ClassId} {aK aV : Nat → Nat} {b L : Nat} {xs : Nat → Int32} (C : mm_C2 V l (b0, mm_kx, D, tA, aK, aV) (b1, mm_km, D, tA, aK, aV) b L xs) {x : Int32} (σ τ : mm_M) (hI : Inv σ τ) (h0 : vp_in x L) (h1 : vp_in (x + 1) L) (h2 : vp_in (x + 2) L) (h3 : vp_in (x + 3) L) (h4 : vp_in (x + 4) L) (h5 : vp_in (x + 5) L) (hbr : ∀ σ1 τ1, Inv σ1 τ1 → V σ1 τ1 [(3, .int x), (2, .ref (mm_ad (b1, mm_km, D, tA, aK, aV) 0)), (1, .ref (mm_ad (b0, mm_kx, D, tA, aK, aV) 0)), (0, .ref b)] [] 1748) : V σ τ [(3, .int x), (2, .ref (mm_ad (b1, mm_km, D, tA, aK, aV) 0)), (1, .ref (mm_ad (b0, mm_kx, D, tA, aK, aV) 0)), (0, .ref b)] [] 1637 := by
  obtain ⟨r, σ1, τ1, hx1, hm1, hI1⟩ := HA.2.2.2.2.2.2.2.2.2.2.2.2.2.2.2.2.2.2.2.2.2.2.2.2.2.2.2.2.2.2.2.2.2.2.2.2.2.2.2.2.2.2.2.2.2.1 (xs (x + 1).toNatClampNeg)  σ τ hI
  refine k2_aload_n (pc := 1637) C dL_law_1637 2 rfl rfl ?_
  refine k2_aload_n (pc := 1638) C dL_law_1638 3 rfl rfl ?_
  refine k2_iload_n (pc := 1639) C dL_law_1639 0 rfl rfl ?_
  refine k2_iconst (pc := 1640) (v := 1) C dL_law_1640 (by decide) ?_
  refine k2_iadd (pc := 1641) C dL_law_1641 ?_
  refine k2_sld (pc := 1642) C dL_law_1642 h1 ?_
  refine k2_xi (pc := 1643) (As := [.int (xs (x + 1).toNatClampNeg)]) C mv_L_207 (c_X11_above (b0, mm_kx, D, tA, aK, aV) n 576 σ 0 rfl (by decide) (xs (x + 1).toNatClampNeg)) hx1 rfl ⟨_, rfl, rfl⟩ rfl rfl (Nat.le_of_ble_eq_true rfl) (by decide) (by decide) dL_law_1643 ?_
  refine k2_aload_n (pc := 1646) C dL_law_1646 1 rfl rfl ?_
  refine k2_aload_n (pc := 1647) C dL_law_1647 3 rfl rfl ?_
  refine k2_iload_n (pc := 1648) C dL_law_1648 0 rfl rfl ?_
  refine k2_iconst (pc := 1649) (v := 1) C dL_law_1649 (by decide) ?_
  refine k2_iadd (pc := 1650) C dL_law_1650 ?_
  refine k2_sld (pc := 1651) C dL_law_1651 h1 ?_
  refine k2_mi (pc := 1652) (As := [.int (xs (x + 1).toNatClampNeg)]) C mv_L_210 (c_X12_above (b1, mm_km, D, tA, aK, aV) n 20 τ 0 rfl (by decide) (xs (x + 1).toNatClampNeg)) hm1 rfl ⟨_, rfl, rfl⟩ rfl rfl (Nat.le_of_ble_eq_true rfl) (by decide) (by decide) dL_law_1652 ?_
  refine k2_same (pc := 1655) (tgt := 1748) C dL_law_1655 (by decide) ?_
  exact hbr σ1 τ1 hI1
set_option maxRecDepth 100000 in
set_option maxHeartbeats 4000000 in
theorem lc_46 (Inv : mm_M → mm_M → Prop) (n : Nat) (HA : mm_All Inv n) {V : mm_V2} {l : Launch} {b0 b1 : Nat} {D : va_G} {tA : Nat → ClassId} {aK aV : Nat → Nat} {b L : Nat} {xs : Nat → Int32} (C : mm_C2 V l (b0, mm_kx, D, tA, aK, aV) (b1, mm_km, D, tA, aK, aV) b L xs) {x : Int32} (σ τ : mm_M) (hI : Inv σ τ) (h0 : vp_in x L) (h1 : vp_in (x + 1) L) (h2 : vp_in (x + 2) L) (h3 : vp_in (x + 3) L) (h4 : vp_in (x + 4) L) (h5 : vp_in (x + 5) L) (hbr : ∀ σ1 τ1, Inv σ1 τ1 → V σ1 τ1 [(3, .int x), (2, .ref (mm_ad (b1, mm_km, D, tA, aK, aV) 0)), (1, .ref (mm_ad (b0, mm_kx, D, tA, aK, aV) 0)), (0, .ref b)] [] 1748) : V σ τ [(3, .int x), (2, .ref (mm_ad (b1, mm_km, D, tA, aK, aV) 0)), (1, .ref (mm_ad (b0, mm_kx, D, tA, aK, aV) 0)), (0, .ref b)] [] 1660 := by
  obtain ⟨r, σ1, τ1, hx1, hm1, hI1⟩ := HA.2.2.2.2.2.2.2.2.2.2.2.2.2.2.2.2.2.2.2.2.2.2.2.2.2.2.2.2.2.2.2.2.2.2.2.2.2.2.2.2.2.2.2.2.2.2.1 (mm_nz (xs (x + 1).toNatClampNeg)) (mm_nz_z _) σ τ hI
  refine k2_aload_n (pc := 1660) C dL_law_1660 2 rfl rfl ?_
  refine k2_aload_n (pc := 1661) C dL_law_1661 3 rfl rfl ?_
  refine k2_iload_n (pc := 1662) C dL_law_1662 0 rfl rfl ?_
  refine k2_iconst (pc := 1663) (v := 1) C dL_law_1663 (by decide) ?_
  refine k2_iadd (pc := 1664) C dL_law_1664 ?_
  refine k2_sld (pc := 1665) C dL_law_1665 h1 ?_
  refine k2_nz (pc := 1666) (p1 := 1669) (p2 := 1670) (p3 := 1673) (p4 := 1674) C dL_law_1666 (by decide) (by decide) dL_law_1669 (by decide) dL_law_1670 (by decide) dL_law_1673 (by decide) ?_
  refine k2_xi (pc := 1674) (As := [.int (mm_nz (xs (x + 1).toNatClampNeg))]) C mv_L_211 (c_X11_ledger (b0, mm_kx, D, tA, aK, aV) n 576 σ 0 rfl (by decide) (mm_nz (xs (x + 1).toNatClampNeg))) hx1 rfl ⟨_, rfl, rfl⟩ rfl rfl (Nat.le_of_ble_eq_true rfl) (by decide) (by decide) dL_law_1674 ?_
  refine k2_aload_n (pc := 1677) C dL_law_1677 1 rfl rfl ?_
  refine k2_aload_n (pc := 1678) C dL_law_1678 3 rfl rfl ?_
  refine k2_iload_n (pc := 1679) C dL_law_1679 0 rfl rfl ?_
  refine k2_iconst (pc := 1680) (v := 1) C dL_law_1680 (by decide) ?_
  refine k2_iadd (pc := 1681) C dL_law_1681 ?_
  refine k2_sld (pc := 1682) C dL_law_1682 h1 ?_
  refine k2_nz (pc := 1683) (p1 := 1686) (p2 := 1687) (p3 := 1690) (p4 := 1691) C dL_law_1683 (by decide) (by decide) dL_law_1686 (by decide) dL_law_1687 (by decide) dL_law_1690 (by decide) ?_
  refine k2_mi (pc := 1691) (As := [.int (mm_nz (xs (x + 1).toNatClampNeg))]) C mv_L_214 (c_X12_ledger (b1, mm_km, D, tA, aK, aV) n 20 τ 0 rfl (by decide) (mm_nz (xs (x + 1).toNatClampNeg))) hm1 rfl ⟨_, rfl, rfl⟩ rfl rfl (Nat.le_of_ble_eq_true rfl) (by decide) (by decide) dL_law_1691 ?_
  refine k2_same (pc := 1694) (tgt := 1748) C dL_law_1694 (by decide) ?_
  exact hbr σ1 τ1 hI1
set_option maxRecDepth 100000 in
set_option maxHeartbeats 4000000 in
theorem lc_47 (Inv : mm_M → mm_M → Prop) (n : Nat) (HA : mm_All Inv n) {V : mm_V2} {l : Launch} {b0 b1 : Nat} {D : va_G} {tA : Nat → ClassId} {aK aV : Nat → Nat} {b L : Nat} {xs : Nat → Int32} (C : mm_C2 V l (b0, mm_kx, D, tA, aK, aV) (b1, mm_km, D, tA, aK, aV) b L xs) {x : Int32} (σ τ : mm_M) (hI : Inv σ τ) (h0 : vp_in x L) (h1 : vp_in (x + 1) L) (h2 : vp_in (x + 2) L) (h3 : vp_in (x + 3) L) (h4 : vp_in (x + 4) L) (h5 : vp_in (x + 5) L) (hbr : ∀ σ1 τ1, Inv σ1 τ1 → V σ1 τ1 [(3, .int x), (2, .ref (mm_ad (b1, mm_km, D, tA, aK, aV) 0)), (1, .ref (mm_ad (b0, mm_kx, D, tA, aK, aV) 0)), (0, .ref b)] [] 1748) : V σ τ [(3, .int x), (2, .ref (mm_ad (b1, mm_km, D, tA, aK, aV) 0)), (1, .ref (mm_ad (b0, mm_kx, D, tA, aK, aV) 0)), (0, .ref b)] [] 1699 := by
  obtain ⟨r, σ1, τ1, hx1, hm1, hI1⟩ := HA.2.2.2.2.2.2.2.2.2.2.2.2.2.2.2.2.2.2.2.2.2.2.2.2.2.2.2.2.2.2.2.2.2.2.2.2.2.2.2.2.2.2.2.2.2.2.2.1   σ τ hI
  refine k2_aload_n (pc := 1699) C dL_law_1699 2 rfl rfl ?_
  refine k2_xi (pc := 1700) (As := []) C mv_L_215 (c_X11_image (b0, mm_kx, D, tA, aK, aV) n 576 σ 0 rfl (by decide) ) hx1 rfl ⟨_, rfl, rfl⟩ rfl rfl (Nat.le_of_ble_eq_true rfl) (by decide) (by decide) dL_law_1700 ?_
  refine k2_aload_n (pc := 1703) C dL_law_1703 1 rfl rfl ?_
  refine k2_mi (pc := 1704) (As := []) C mv_L_218 (c_X12_image (b1, mm_km, D, tA, aK, aV) n 20 τ 0 rfl (by decide) ) hm1 rfl ⟨_, rfl, rfl⟩ rfl rfl (Nat.le_of_ble_eq_true rfl) (by decide) (by decide) dL_law_1704 ?_
  refine k2_same (pc := 1707) (tgt := 1748) C dL_law_1707 (by decide) ?_
  exact hbr σ1 τ1 hI1
set_option maxRecDepth 100000 in
set_option maxHeartbeats 4000000 in
theorem lc_48 (Inv : mm_M → mm_M → Prop) (n : Nat) (HA : mm_All Inv n) {V : mm_V2} {l : Launch} {b0 b1 : Nat} {D : va_G} {tA : Nat → ClassId} {aK aV : Nat → Nat} {b L : Nat} {xs : Nat → Int32} (C : mm_C2 V l (b0, mm_kx, D, tA, aK, aV) (b1, mm_km, D, tA, aK, aV) b L xs) {x : Int32} (σ τ : mm_M) (hI : Inv σ τ) (h0 : vp_in x L) (h1 : vp_in (x + 1) L) (h2 : vp_in (x + 2) L) (h3 : vp_in (x + 3) L) (h4 : vp_in (x + 4) L) (h5 : vp_in (x + 5) L) (hbr : ∀ σ1 τ1, Inv σ1 τ1 → V σ1 τ1 [(3, .int x), (2, .ref (mm_ad (b1, mm_km, D, tA, aK, aV) 0)), (1, .ref (mm_ad (b0, mm_kx, D, tA, aK, aV) 0)), (0, .ref b)] [] 1748) : V σ τ [(3, .int x), (2, .ref (mm_ad (b1, mm_km, D, tA, aK, aV) 0)), (1, .ref (mm_ad (b0, mm_kx, D, tA, aK, aV) 0)), (0, .ref b)] [] 1712 := by
  obtain ⟨r, σ1, τ1, hx1, hm1, hI1⟩ := HA.2.2.2.2.2.2.2.2.2.2.2.2.2.2.2.2.2.2.2.2.2.2.2.2.2.2.2.2.2.2.2.2.2.2.2.2.2.2.2.2.2.2.2.2.2.2.2.2.1   σ τ hI
  refine k2_aload_n (pc := 1712) C dL_law_1712 2 rfl rfl ?_
  refine k2_xi (pc := 1713) (As := []) C mv_L_219 (c_X11_back (b0, mm_kx, D, tA, aK, aV) n 576 σ 0 rfl (by decide) ) hx1 rfl ⟨_, rfl, rfl⟩ rfl rfl (Nat.le_of_ble_eq_true rfl) (by decide) (by decide) dL_law_1713 ?_
  refine k2_aload_n (pc := 1716) C dL_law_1716 1 rfl rfl ?_
  refine k2_mi (pc := 1717) (As := []) C mv_L_222 (c_X12_back (b1, mm_km, D, tA, aK, aV) n 20 τ 0 rfl (by decide) ) hm1 rfl ⟨_, rfl, rfl⟩ rfl rfl (Nat.le_of_ble_eq_true rfl) (by decide) (by decide) dL_law_1717 ?_
  refine k2_same (pc := 1720) (tgt := 1748) C dL_law_1720 (by decide) ?_
  exact hbr σ1 τ1 hI1
set_option maxRecDepth 100000 in
set_option maxHeartbeats 4000000 in
theorem lc_49 (Inv : mm_M → mm_M → Prop) (n : Nat) (HA : mm_All Inv n) {V : mm_V2} {l : Launch} {b0 b1 : Nat} {D : va_G} {tA : Nat → ClassId} {aK aV : Nat → Nat} {b L : Nat} {xs : Nat → Int32} (C : mm_C2 V l (b0, mm_kx, D, tA, aK, aV) (b1, mm_km, D, tA, aK, aV) b L xs) {x : Int32} (σ τ : mm_M) (hI : Inv σ τ) (h0 : vp_in x L) (h1 : vp_in (x + 1) L) (h2 : vp_in (x + 2) L) (h3 : vp_in (x + 3) L) (h4 : vp_in (x + 4) L) (h5 : vp_in (x + 5) L) (hbr : ∀ σ1 τ1, Inv σ1 τ1 → V σ1 τ1 [(3, .int x), (2, .ref (mm_ad (b1, mm_km, D, tA, aK, aV) 0)), (1, .ref (mm_ad (b0, mm_kx, D, tA, aK, aV) 0)), (0, .ref b)] [] 1748) : V σ τ [(3, .int x), (2, .ref (mm_ad (b1, mm_km, D, tA, aK, aV) 0)), (1, .ref (mm_ad (b0, mm_kx, D, tA, aK, aV) 0)), (0, .ref b)] [] 1725 := by
  obtain ⟨r, σ1, τ1, hx1, hm1, hI1⟩ := HA.2.2.2.2.2.2.2.2.2.2.2.2.2.2.2.2.2.2.2.2.2.2.2.2.2.2.2.2.2.2.2.2.2.2.2.2.2.2.2.2.2.2.2.2.2.2.2.2.2 (xs (x + 1).toNatClampNeg)  σ τ hI
  refine k2_aload_n (pc := 1725) C dL_law_1725 2 rfl rfl ?_
  refine k2_aload_n (pc := 1726) C dL_law_1726 3 rfl rfl ?_
  refine k2_iload_n (pc := 1727) C dL_law_1727 0 rfl rfl ?_
  refine k2_iconst (pc := 1728) (v := 1) C dL_law_1728 (by decide) ?_
  refine k2_iadd (pc := 1729) C dL_law_1729 ?_
  refine k2_sld (pc := 1730) C dL_law_1730 h1 ?_
  refine k2_xi (pc := 1731) (As := [.int (xs (x + 1).toNatClampNeg)]) C mv_L_223 (c_X11_about (b0, mm_kx, D, tA, aK, aV) n 576 σ 0 rfl (by decide) (xs (x + 1).toNatClampNeg)) hx1 rfl ⟨_, rfl, rfl⟩ rfl rfl (Nat.le_of_ble_eq_true rfl) (by decide) (by decide) dL_law_1731 ?_
  refine k2_aload_n (pc := 1734) C dL_law_1734 1 rfl rfl ?_
  refine k2_aload_n (pc := 1735) C dL_law_1735 3 rfl rfl ?_
  refine k2_iload_n (pc := 1736) C dL_law_1736 0 rfl rfl ?_
  refine k2_iconst (pc := 1737) (v := 1) C dL_law_1737 (by decide) ?_
  refine k2_iadd (pc := 1738) C dL_law_1738 ?_
  refine k2_sld (pc := 1739) C dL_law_1739 h1 ?_
  refine k2_mi (pc := 1740) (As := [.int (xs (x + 1).toNatClampNeg)]) C mv_L_226 (c_X12_about (b1, mm_km, D, tA, aK, aV) n 20 τ 0 rfl (by decide) (xs (x + 1).toNatClampNeg)) hm1 rfl ⟨_, rfl, rfl⟩ rfl rfl (Nat.le_of_ble_eq_true rfl) (by decide) (by decide) dL_law_1740 ?_
  refine k2_same (pc := 1743) (tgt := 1748) C dL_law_1743 (by decide) ?_
  exact hbr σ1 τ1 hI1
