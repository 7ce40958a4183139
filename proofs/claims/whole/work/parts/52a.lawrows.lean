/-! EVERY ROW CHECKED: the law, buckets 0 to 15 -/
theorem code_okL0 : (nth2 [] (ct 343) 0).all (chkRow 343) = true := by decide +kernel
theorem code_okL1 : (nth2 [] (ct 343) 1).all (chkRow 343) = true := by decide +kernel
theorem code_okL2 : (nth2 [] (ct 343) 2).all (chkRow 343) = true := by decide +kernel
theorem code_okL3 : (nth2 [] (ct 343) 3).all (chkRow 343) = true := by decide +kernel
theorem code_okL4 : (nth2 [] (ct 343) 4).all (chkRow 343) = true := by decide +kernel
theorem code_okL5 : (nth2 [] (ct 343) 5).all (chkRow 343) = true := by decide +kernel
theorem code_okL6 : (nth2 [] (ct 343) 6).all (chkRow 343) = true := by decide +kernel
theorem code_okL7 : (nth2 [] (ct 343) 7).all (chkRow 343) = true := by decide +kernel
theorem code_okL8 : (nth2 [] (ct 343) 8).all (chkRow 343) = true := by decide +kernel
theorem code_okL9 : (nth2 [] (ct 343) 9).all (chkRow 343) = true := by decide +kernel
theorem code_okL10 : (nth2 [] (ct 343) 10).all (chkRow 343) = true := by decide +kernel
theorem code_okL11 : (nth2 [] (ct 343) 11).all (chkRow 343) = true := by decide +kernel
theorem code_okL12 : (nth2 [] (ct 343) 12).all (chkRow 343) = true := by decide +kernel
theorem code_okL13 : (nth2 [] (ct 343) 13).all (chkRow 343) = true := by decide +kernel
theorem code_okL14 : (nth2 [] (ct 343) 14).all (chkRow 343) = true := by decide +kernel
theorem code_okL15 : (nth2 [] (ct 343) 15).all (chkRow 343) = true := by decide +kernel
