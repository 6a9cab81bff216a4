set_option maxRecDepth 100000 in
theorem oL_30 : x_okL mL_law 900 ((mL_law.2.2.2.2.drop 900).take 30) = true := by decide +kernel
set_option maxRecDepth 100000 in
theorem oL_31 : x_okL mL_law 930 ((mL_law.2.2.2.2.drop 930).take 30) = true := by decide +kernel
set_option maxRecDepth 100000 in
theorem oL_32 : x_okL mL_law 960 ((mL_law.2.2.2.2.drop 960).take 30) = true := by decide +kernel
set_option maxRecDepth 100000 in
theorem oL_33 : x_okL mL_law 990 ((mL_law.2.2.2.2.drop 990).take 30) = true := by decide +kernel
set_option maxRecDepth 100000 in
theorem oL_34 : x_okL mL_law 1020 ((mL_law.2.2.2.2.drop 1020).take 30) = true := by decide +kernel
set_option maxRecDepth 100000 in
theorem oL_35 : x_okL mL_law 1050 ((mL_law.2.2.2.2.drop 1050).take 30) = true := by decide +kernel
set_option maxRecDepth 100000 in
theorem oL_36 : x_okL mL_law 1080 ((mL_law.2.2.2.2.drop 1080).take 30) = true := by decide +kernel
set_option maxRecDepth 100000 in
theorem oL_37 : x_okL mL_law 1110 ((mL_law.2.2.2.2.drop 1110).take 30) = true := by decide +kernel
set_option maxRecDepth 100000 in
theorem oL_38 : x_okL mL_law 1140 ((mL_law.2.2.2.2.drop 1140).take 30) = true := by decide +kernel
set_option maxRecDepth 100000 in
theorem oL_39 : x_okL mL_law 1170 ((mL_law.2.2.2.2.drop 1170).take 30) = true := by decide +kernel
