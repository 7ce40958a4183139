/-! EVERY ROW CHECKED: the law, buckets 16 to 31 -/
theorem code_okL16 : (nth2 [] (ct 343) 16).all (chkRow 343) = true := by decide +kernel
theorem code_okL17 : (nth2 [] (ct 343) 17).all (chkRow 343) = true := by decide +kernel
theorem code_okL18 : (nth2 [] (ct 343) 18).all (chkRow 343) = true := by decide +kernel
theorem code_okL19 : (nth2 [] (ct 343) 19).all (chkRow 343) = true := by decide +kernel
theorem code_okL20 : (nth2 [] (ct 343) 20).all (chkRow 343) = true := by decide +kernel
theorem code_okL21 : (nth2 [] (ct 343) 21).all (chkRow 343) = true := by decide +kernel
theorem code_okL22 : (nth2 [] (ct 343) 22).all (chkRow 343) = true := by decide +kernel
theorem code_okL23 : (nth2 [] (ct 343) 23).all (chkRow 343) = true := by decide +kernel
theorem code_okL24 : (nth2 [] (ct 343) 24).all (chkRow 343) = true := by decide +kernel
theorem code_okL25 : (nth2 [] (ct 343) 25).all (chkRow 343) = true := by decide +kernel
theorem code_okL26 : (nth2 [] (ct 343) 26).all (chkRow 343) = true := by decide +kernel
theorem code_okL27 : (nth2 [] (ct 343) 27).all (chkRow 343) = true := by decide +kernel
theorem code_okL28 : (nth2 [] (ct 343) 28).all (chkRow 343) = true := by decide +kernel
theorem code_okL29 : (nth2 [] (ct 343) 29).all (chkRow 343) = true := by decide +kernel
theorem code_okL30 : (nth2 [] (ct 343) 30).all (chkRow 343) = true := by decide +kernel
theorem code_okL31 : (nth2 [] (ct 343) 31).all (chkRow 343) = true := by decide +kernel
