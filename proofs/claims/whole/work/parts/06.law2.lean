set_option maxRecDepth 100000 in
theorem oL_20 : x_okL mL_law 600 ((mL_law.2.2.2.2.drop 600).take 30) = true := by decide +kernel
set_option maxRecDepth 100000 in
theorem oL_21 : x_okL mL_law 630 ((mL_law.2.2.2.2.drop 630).take 30) = true := by decide +kernel
set_option maxRecDepth 100000 in
theorem oL_22 : x_okL mL_law 660 ((mL_law.2.2.2.2.drop 660).take 30) = true := by decide +kernel
set_option maxRecDepth 100000 in
theorem oL_23 : x_okL mL_law 690 ((mL_law.2.2.2.2.drop 690).take 30) = true := by decide +kernel
set_option maxRecDepth 100000 in
theorem oL_24 : x_okL mL_law 720 ((mL_law.2.2.2.2.drop 720).take 30) = true := by decide +kernel
set_option maxRecDepth 100000 in
theorem oL_25 : x_okL mL_law 750 ((mL_law.2.2.2.2.drop 750).take 30) = true := by decide +kernel
set_option maxRecDepth 100000 in
theorem oL_26 : x_okL mL_law 780 ((mL_law.2.2.2.2.drop 780).take 30) = true := by decide +kernel
set_option maxRecDepth 100000 in
theorem oL_27 : x_okL mL_law 810 ((mL_law.2.2.2.2.drop 810).take 30) = true := by decide +kernel
set_option maxRecDepth 100000 in
theorem oL_28 : x_okL mL_law 840 ((mL_law.2.2.2.2.drop 840).take 30) = true := by decide +kernel
set_option maxRecDepth 100000 in
theorem oL_29 : x_okL mL_law 870 ((mL_law.2.2.2.2.drop 870).take 30) = true := by decide +kernel
