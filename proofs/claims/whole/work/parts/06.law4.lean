set_option maxRecDepth 100000 in
theorem oL_40 : x_okL mL_law 1200 ((mL_law.2.2.2.2.drop 1200).take 30) = true := by decide +kernel
set_option maxRecDepth 100000 in
theorem oL_41 : x_okL mL_law 1230 ((mL_law.2.2.2.2.drop 1230).take 30) = true := by decide +kernel
set_option maxRecDepth 100000 in
theorem oL_42 : x_okL mL_law 1260 ((mL_law.2.2.2.2.drop 1260).take 30) = true := by decide +kernel
set_option maxRecDepth 100000 in
theorem oL_43 : x_okL mL_law 1290 ((mL_law.2.2.2.2.drop 1290).take 30) = true := by decide +kernel
set_option maxRecDepth 100000 in
theorem oL_44 : x_okL mL_law 1320 ((mL_law.2.2.2.2.drop 1320).take 30) = true := by decide +kernel
set_option maxRecDepth 100000 in
theorem oL_45 : x_okL mL_law 1350 ((mL_law.2.2.2.2.drop 1350).take 30) = true := by decide +kernel
set_option maxRecDepth 100000 in
theorem oL_46 : x_okL mL_law 1380 ((mL_law.2.2.2.2.drop 1380).take 30) = true := by decide +kernel
set_option maxRecDepth 100000 in
theorem oL_47 : x_okL mL_law 1410 ((mL_law.2.2.2.2.drop 1410).take 30) = true := by decide +kernel
set_option maxRecDepth 100000 in
theorem oL_48 : x_okL mL_law 1440 ((mL_law.2.2.2.2.drop 1440).take 30) = true := by decide +kernel
