set_option maxRecDepth 100000 in
theorem oL_0 : x_okL mL_law 0 ((mL_law.2.2.2.2.drop 0).take 30) = true := by decide +kernel
set_option maxRecDepth 100000 in
theorem oL_1 : x_okL mL_law 30 ((mL_law.2.2.2.2.drop 30).take 30) = true := by decide +kernel
set_option maxRecDepth 100000 in
theorem oL_2 : x_okL mL_law 60 ((mL_law.2.2.2.2.drop 60).take 30) = true := by decide +kernel
set_option maxRecDepth 100000 in
theorem oL_3 : x_okL mL_law 90 ((mL_law.2.2.2.2.drop 90).take 30) = true := by decide +kernel
set_option maxRecDepth 100000 in
theorem oL_4 : x_okL mL_law 120 ((mL_law.2.2.2.2.drop 120).take 30) = true := by decide +kernel
set_option maxRecDepth 100000 in
theorem oL_5 : x_okL mL_law 150 ((mL_law.2.2.2.2.drop 150).take 30) = true := by decide +kernel
set_option maxRecDepth 100000 in
theorem oL_6 : x_okL mL_law 180 ((mL_law.2.2.2.2.drop 180).take 30) = true := by decide +kernel
set_option maxRecDepth 100000 in
theorem oL_7 : x_okL mL_law 210 ((mL_law.2.2.2.2.drop 210).take 30) = true := by decide +kernel
set_option maxRecDepth 100000 in
theorem oL_8 : x_okL mL_law 240 ((mL_law.2.2.2.2.drop 240).take 30) = true := by decide +kernel
set_option maxRecDepth 100000 in
theorem oL_9 : x_okL mL_law 270 ((mL_law.2.2.2.2.drop 270).take 30) = true := by decide +kernel
