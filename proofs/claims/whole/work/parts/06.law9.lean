set_option maxRecDepth 100000 in
theorem oL_len : mL_law.2.2.2.2.length = 1470 := by decide +kernel
set_option maxRecDepth 100000 in
theorem oL_at {pc : Nat} {e : XE} (h : mL_law.2.2.2.2[pc]? = some e) : x_okE mL_law pc e = true := by
  have hl : pc < 1470 := by rw [← oL_len]; exact (List.getElem?_eq_some_iff.mp h).1
  have key : ∀ j i : Nat, pc = 30 * j + i → i < 30 → x_okL mL_law (30 * j) ((mL_law.2.2.2.2.drop (30 * j)).take 30) = true → x_okE mL_law pc e = true := by
    intro j i hp hi ho
    have h2 := x_okL_at _ (30 * j) i e ho (by rw [List.getElem?_take_of_lt hi, List.getElem?_drop, ← hp]; exact h)
    rw [← hp] at h2
    exact h2
  by_cases h0 : pc < 30
  · exact key 0 (pc - 0) (by omega) (by omega) oL_0
  by_cases h1 : pc < 60
  · exact key 1 (pc - 30) (by omega) (by omega) oL_1
  by_cases h2 : pc < 90
  · exact key 2 (pc - 60) (by omega) (by omega) oL_2
  by_cases h3 : pc < 120
  · exact key 3 (pc - 90) (by omega) (by omega) oL_3
  by_cases h4 : pc < 150
  · exact key 4 (pc - 120) (by omega) (by omega) oL_4
  by_cases h5 : pc < 180
  · exact key 5 (pc - 150) (by omega) (by omega) oL_5
  by_cases h6 : pc < 210
  · exact key 6 (pc - 180) (by omega) (by omega) oL_6
  by_cases h7 : pc < 240
  · exact key 7 (pc - 210) (by omega) (by omega) oL_7
  by_cases h8 : pc < 270
  · exact key 8 (pc - 240) (by omega) (by omega) oL_8
  by_cases h9 : pc < 300
  · exact key 9 (pc - 270) (by omega) (by omega) oL_9
  by_cases h10 : pc < 330
  · exact key 10 (pc - 300) (by omega) (by omega) oL_10
  by_cases h11 : pc < 360
  · exact key 11 (pc - 330) (by omega) (by omega) oL_11
  by_cases h12 : pc < 390
  · exact key 12 (pc - 360) (by omega) (by omega) oL_12
  by_cases h13 : pc < 420
  · exact key 13 (pc - 390) (by omega) (by omega) oL_13
  by_cases h14 : pc < 450
  · exact key 14 (pc - 420) (by omega) (by omega) oL_14
  by_cases h15 : pc < 480
  · exact key 15 (pc - 450) (by omega) (by omega) oL_15
  by_cases h16 : pc < 510
  · exact key 16 (pc - 480) (by omega) (by omega) oL_16
  by_cases h17 : pc < 540
  · exact key 17 (pc - 510) (by omega) (by omega) oL_17
  by_cases h18 : pc < 570
  · exact key 18 (pc - 540) (by omega) (by omega) oL_18
  by_cases h19 : pc < 600
  · exact key 19 (pc - 570) (by omega) (by omega) oL_19
  by_cases h20 : pc < 630
  · exact key 20 (pc - 600) (by omega) (by omega) oL_20
  by_cases h21 : pc < 660
  · exact key 21 (pc - 630) (by omega) (by omega) oL_21
  by_cases h22 : pc < 690
  · exact key 22 (pc - 660) (by omega) (by omega) oL_22
  by_cases h23 : pc < 720
  · exact key 23 (pc - 690) (by omega) (by omega) oL_23
  by_cases h24 : pc < 750
  · exact key 24 (pc - 720) (by omega) (by omega) oL_24
  by_cases h25 : pc < 780
  · exact key 25 (pc - 750) (by omega) (by omega) oL_25
  by_cases h26 : pc < 810
  · exact key 26 (pc - 780) (by omega) (by omega) oL_26
  by_cases h27 : pc < 840
  · exact key 27 (pc - 810) (by omega) (by omega) oL_27
  by_cases h28 : pc < 870
  · exact key 28 (pc - 840) (by omega) (by omega) oL_28
  by_cases h29 : pc < 900
  · exact key 29 (pc - 870) (by omega) (by omega) oL_29
  by_cases h30 : pc < 930
  · exact key 30 (pc - 900) (by omega) (by omega) oL_30
  by_cases h31 : pc < 960
  · exact key 31 (pc - 930) (by omega) (by omega) oL_31
  by_cases h32 : pc < 990
  · exact key 32 (pc - 960) (by omega) (by omega) oL_32
  by_cases h33 : pc < 1020
  · exact key 33 (pc - 990) (by omega) (by omega) oL_33
  by_cases h34 : pc < 1050
  · exact key 34 (pc - 1020) (by omega) (by omega) oL_34
  by_cases h35 : pc < 1080
  · exact key 35 (pc - 1050) (by omega) (by omega) oL_35
  by_cases h36 : pc < 1110
  · exact key 36 (pc - 1080) (by omega) (by omega) oL_36
  by_cases h37 : pc < 1140
  · exact key 37 (pc - 1110) (by omega) (by omega) oL_37
  by_cases h38 : pc < 1170
  · exact key 38 (pc - 1140) (by omega) (by omega) oL_38
  by_cases h39 : pc < 1200
  · exact key 39 (pc - 1170) (by omega) (by omega) oL_39
  by_cases h40 : pc < 1230
  · exact key 40 (pc - 1200) (by omega) (by omega) oL_40
  by_cases h41 : pc < 1260
  · exact key 41 (pc - 1230) (by omega) (by omega) oL_41
  by_cases h42 : pc < 1290
  · exact key 42 (pc - 1260) (by omega) (by omega) oL_42
  by_cases h43 : pc < 1320
  · exact key 43 (pc - 1290) (by omega) (by omega) oL_43
  by_cases h44 : pc < 1350
  · exact key 44 (pc - 1320) (by omega) (by omega) oL_44
  by_cases h45 : pc < 1380
  · exact key 45 (pc - 1350) (by omega) (by omega) oL_45
  by_cases h46 : pc < 1410
  · exact key 46 (pc - 1380) (by omega) (by omega) oL_46
  by_cases h47 : pc < 1440
  · exact key 47 (pc - 1410) (by omega) (by omega) oL_47
  by_cases h48 : pc < 1470
  · exact key 48 (pc - 1440) (by omega) (by omega) oL_48
  exact absurd hl (by omega)
