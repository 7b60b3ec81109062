theorem cb_8 : (Int8.ofInt 8).toInt32 = nI 8 := by decide +kernel
theorem cb_16 : (Int8.ofInt 16).toInt32 = nI 16 := by decide +kernel
theorem cb_20 : (Int8.ofInt 20).toInt32 = nI 20 := by decide +kernel
theorem cb_32 : (Int8.ofInt 32).toInt32 = nI 32 := by decide +kernel
theorem cb_40 : (Int8.ofInt 40).toInt32 = nI 40 := by decide +kernel
theorem cb_127 : (Int8.ofInt 127).toInt32 = nI 127 := by decide +kernel
theorem ci_m1 : Int32.ofInt (-1) = (-1 : Int32) := by decide +kernel
theorem ci_0 : Int32.ofInt 0 = nI 0 := by decide +kernel
theorem ci_1 : Int32.ofInt 1 = nI 1 := by decide +kernel
theorem ci_2 : Int32.ofInt 2 = nI 2 := by decide +kernel
theorem ci_3 : Int32.ofInt 3 = nI 3 := by decide +kernel
theorem ci_4 : Int32.ofInt 4 = nI 4 := by decide +kernel
theorem cs_m5000 : (Int16.ofInt (-5000)).toInt32 = (-5000 : Int32) := by decide +kernel
theorem cs_2000 : (Int16.ofInt 2000).toInt32 = nI 2000 := by decide +kernel
