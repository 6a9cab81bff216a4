set_option maxRecDepth 100000 in
theorem oL_10 : x_okL mL_law 300 ((mL_law.2.2.2.2.drop 300).take 30) = true := by decide +kernel
set_option maxRecDepth 100000 in
theorem oL_11 : x_okL mL_law 330 ((mL_law.2.2.2.2.drop 330).take 30) = true := by decide +kernel
set_option maxRecDepth 100000 in
theorem oL_12 : x_okL mL_law 360 ((mL_law.2.2.2.2.drop 360).take 30) = true := by decide +kernel
set_option maxRecDepth 100000 in
theorem oL_13 : x_okL mL_law 390 ((mL_law.2.2.2.2.drop 390).take 30) = true := by decide +kernel
set_option maxRecDepth 100000 in
theorem oL_14 : x_okL mL_law 420 ((mL_law.2.2.2.2.drop 420).take 30) = true := by decide +kernel
set_option maxRecDepth 100000 in
theorem oL_15 : x_okL mL_law 450 ((mL_law.2.2.2.2.drop 450).take 30) = true := by decide +kernel
set_option maxRecDepth 100000 in
theorem oL_16 : x_okL mL_law 480 ((mL_law.2.2.2.2.drop 480).take 30) = true := by decide +kernel
set_option maxRecDepth 100000 in
theorem oL_17 : x_okL mL_law 510 ((mL_law.2.2.2.2.drop 510).take 30) = true := by decide +kernel
set_option maxRecDepth 100000 in
theorem oL_18 : x_okL mL_law 540 ((mL_law.2.2.2.2.drop 540).take 30) = true := by decide +kernel
set_option maxRecDepth 100000 in
theorem oL_19 : x_okL mL_law 570 ((mL_law.2.2.2.2.drop 570).take 30) = true := by decide +kernel
