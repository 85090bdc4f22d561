theorem ki_m1 : Int32.ofInt (-1) = (-1) := by decide
theorem ki_0 : Int32.ofInt (0) = nI 0 := by decide
theorem ki_1 : Int32.ofInt (1) = nI 1 := by decide
theorem ki_2 : Int32.ofInt (2) = nI 2 := by decide
theorem ki_3 : Int32.ofInt (3) = nI 3 := by decide
theorem ki_4 : Int32.ofInt (4) = nI 4 := by decide
theorem ki_5 : Int32.ofInt (5) = nI 5 := by decide
theorem kb_m4 : (Int8.ofInt (-4)).toInt32 = (-4) := by decide
theorem kb_m3 : (Int8.ofInt (-3)).toInt32 = (-3) := by decide
theorem kb_m2 : (Int8.ofInt (-2)).toInt32 = (-2) := by decide
theorem kb_6 : (Int8.ofInt (6)).toInt32 = nI 6 := by decide
theorem kb_7 : (Int8.ofInt (7)).toInt32 = nI 7 := by decide
theorem kb_8 : (Int8.ofInt (8)).toInt32 = nI 8 := by decide
theorem kb_9 : (Int8.ofInt (9)).toInt32 = nI 9 := by decide
theorem kb_10 : (Int8.ofInt (10)).toInt32 = nI 10 := by decide
theorem kb_16 : (Int8.ofInt (16)).toInt32 = nI 16 := by decide
theorem kb_25 : (Int8.ofInt (25)).toInt32 = nI 25 := by decide
theorem kb_30 : (Int8.ofInt (30)).toInt32 = nI 30 := by decide
theorem kb_47 : (Int8.ofInt (47)).toInt32 = nI 47 := by decide
theorem kb_48 : (Int8.ofInt (48)).toInt32 = nI 48 := by decide
theorem kb_50 : (Int8.ofInt (50)).toInt32 = nI 50 := by decide
theorem kb_99 : (Int8.ofInt (99)).toInt32 = nI 99 := by decide
theorem kb_100 : (Int8.ofInt (100)).toInt32 = nI 100 := by decide
theorem ks_m999 : (Int16.ofInt (-999)).toInt32 = (-999) := by decide
theorem ks_141 : (Int16.ofInt (141)).toInt32 = nI 141 := by decide
theorem ks_143 : (Int16.ofInt (143)).toInt32 = nI 143 := by decide
theorem ks_144 : (Int16.ofInt (144)).toInt32 = nI 144 := by decide
theorem ks_288 : (Int16.ofInt (288)).toInt32 = nI 288 := by decide
theorem ks_304 : (Int16.ofInt (304)).toInt32 = nI 304 := by decide
theorem ks_592 : (Int16.ofInt (592)).toInt32 = nI 592 := by decide
theorem ks_880 : (Int16.ofInt (880)).toInt32 = nI 880 := by decide
theorem ks_1000 : (Int16.ofInt (1000)).toInt32 = nI 1000 := by decide
theorem ks_1103 : (Int16.ofInt (1103)).toInt32 = nI 1103 := by decide
theorem ks_1168 : (Int16.ofInt (1168)).toInt32 = nI 1168 := by decide
theorem ks_1200 : (Int16.ofInt (1200)).toInt32 = nI 1200 := by decide
theorem ks_1456 : (Int16.ofInt (1456)).toInt32 = nI 1456 := by decide
theorem ks_1600 : (Int16.ofInt (1600)).toInt32 = nI 1600 := by decide
theorem ks_1648 : (Int16.ofInt (1648)).toInt32 = nI 1648 := by decide
theorem ks_1696 : (Int16.ofInt (1696)).toInt32 = nI 1696 := by decide
theorem ks_1786 : (Int16.ofInt (1786)).toInt32 = nI 1786 := by decide
theorem ks_3572 : (Int16.ofInt (3572)).toInt32 = nI 3572 := by decide
theorem ks_9999 : (Int16.ofInt (9999)).toInt32 = nI 9999 := by decide
theorem ks_12345 : (Int16.ofInt (12345)).toInt32 = nI 12345 := by decide
theorem kl_0 : Int64.ofNat ((0 : Fin 2) : Nat) = 0 := by decide
theorem kl_1 : Int64.ofNat ((1 : Fin 2) : Nat) = 1 := by decide
