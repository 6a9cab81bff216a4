/-! the law's loop -/
theorem hx_len {I A : Nat → Nat → Int32} {J B : Nat → Nat → Int64} {F : Nat → Nat} : (HX I A J B F).length ≤ 600000 := by
  simp [HX]
theorem hx_ss {I A : Nat → Nat → Int32} {J B : Nat → Nat → Int64} {F : Nat → Nat} : x_ss (HX I A J B F) ≤ 7302250 := by
  simp [x_ss, HX, x_sse]
set_option maxRecDepth 100000 in
set_option maxHeartbeats 4000000 in
theorem law_loop {X : XX} {R : XR} (hL : X.1 ≤ 384) (ops : OpsAll X R) : ∀ (n i : Nat) (I A : Nat → Nat → Int32) (J B : Nat → Nat → Int64) (F : Nat → Nat), i ≤ 390 → X.1 + 6 ≤ i + 6 * n → R I A J B F → Wp X xT 8 mL_law 18 [some (.ref 1000), some (.ref 0), some (.ref 51), some (.int (nI i))] [] (HX I A J B F) (fun r h' => r = some (.int 1) ∧ h'.length ≤ 600000 ∧ x_ss h' ≤ 7302250) := by
  intro n
  induction n with
  | zero =>
    intro i I A J B F hi hn hr
    refine q_iload_n rfl rfl ?_
    refine q_aload_n rfl rfl ?_
    refine q_alen_s rfl ?_
    refine q_bipush (v := 6) rfl rfl ?_
    refine q_isub rfl ?_
    refine q_icmp_gt rfl (fun hc24 => ?_) (fun hc24 => ?_)
    · refine q_iconst (v := 1) rfl rfl ?_
      refine q_zret rfl rfl (by decide) ?_
      exact ⟨rfl, hx_len, hx_ss⟩
    · exact absurd (lw_cut hL hi hc24) (by omega)
  | succ n ih =>
    intro i I A J B F hi hn hr
    refine q_iload_n rfl rfl ?_
    refine q_aload_n rfl rfl ?_
    refine q_alen_s rfl ?_
    refine q_bipush (v := 6) rfl rfl ?_
    refine q_isub rfl ?_
    refine q_icmp_gt rfl (fun hc24 => ?_) (fun hc24 => ?_)
    · refine q_iconst (v := 1) rfl rfl ?_
      refine q_zret rfl rfl (by decide) ?_
      exact ⟨rfl, hx_len, hx_ss⟩
    · refine q_aload_n rfl rfl ?_
      refine q_iload_n rfl rfl ?_
      refine q_iaload_s rfl (f_ixk (show i < X.1 by have := lw_cut hL hi hc24; omega) (by omega)) ?_
      refine q_bipush (v := 63) rfl rfl ?_
      refine q_iand rfl ?_
      have hi6 := lw_cut hL hi hc24
      have next : ∀ I A J B F, R I A J B F → Wp X xT 8 mL_law 1462 [some (.ref 1000), some (.ref 0), some (.ref 51), some (.int (nI i))] [] (HX I A J B F) (fun r h' => r = some (.int 1) ∧ h'.length ≤ 600000 ∧ x_ss h' ≤ 7302250) := by
        intro I A J B F hr
        refine q_iinc (v := nI (i + 6)) (L' := [_, _, _, _]) rfl rfl (nI_add i 6) rfl ?_
        refine q_goto rfl ?_
        exact ih (i + 6) I A J B F (by omega) (by omega) hr
      obtain ⟨j, hj, ej⟩ := pk_andE (X.2 (nI i).toNatClampNeg) (m := 63) 6 (by decide)
      have ex : (X.2 (nI i).toNatClampNeg &&& 63).toInt = (j : Int) := by rw [ej]; exact nI_toInt (by omega)
      obtain ⟨o0, o1, o2, o3, o4, o5, o6, o7, o8, o9, o10, o11, o12, o13, o14, o15, o16, o17, o18, o19, o20, o21, o22, o23, o24, o25, o26, o27, o28, o29, o30, o31, o32, o33, o34, o35, o36, o37, o38, o39, o40, o41, o42⟩ := ops
      by_cases h0 : j = 0
      · subst h0
        exact q_tsw (t := 220) rfl ((x_sw_i ex).trans (by decide +kernel)) (law_0 hL hi6 o0 hr next)
      by_cases h1 : j = 1
      · subst h1
        exact q_tsw (t := 253) rfl ((x_sw_i ex).trans (by decide +kernel)) (law_1 hL hi6 o1 hr next)
      by_cases h2 : j = 2
      · subst h2
        exact q_tsw (t := 296) rfl ((x_sw_i ex).trans (by decide +kernel)) (law_2 hL hi6 o2 hr next)
      by_cases h3 : j = 3
      · subst h3
        exact q_tsw (t := 329) rfl ((x_sw_i ex).trans (by decide +kernel)) (law_3 hL hi6 o3 hr next)
      by_cases h4 : j = 4
      · subst h4
        exact q_tsw (t := 352) rfl ((x_sw_i ex).trans (by decide +kernel)) (law_4 hL hi6 o4 hr next)
      by_cases h5 : j = 5
      · subst h5
        exact q_tsw (t := 415) rfl ((x_sw_i ex).trans (by decide +kernel)) (law_5 hL hi6 o5 hr next)
      by_cases h6 : j = 6
      · subst h6
        exact q_tsw (t := 438) rfl ((x_sw_i ex).trans (by decide +kernel)) (law_6 hL hi6 o6 hr next)
      by_cases h7 : j = 7
      · subst h7
        exact q_tsw (t := 471) rfl ((x_sw_i ex).trans (by decide +kernel)) (law_7 hL hi6 o7 hr next)
      by_cases h8 : j = 8
      · subst h8
        exact q_tsw (t := 514) rfl ((x_sw_i ex).trans (by decide +kernel)) (law_8 hL hi6 o8 hr next)
      by_cases h9 : j = 9
      · subst h9
        exact q_tsw (t := 537) rfl ((x_sw_i ex).trans (by decide +kernel)) (law_9 hL hi6 o9 hr next)
      by_cases h10 : j = 10
      · subst h10
        exact q_tsw (t := 560) rfl ((x_sw_i ex).trans (by decide +kernel)) (law_10 hL hi6 o10 hr next)
      by_cases h11 : j = 11
      · subst h11
        exact q_tsw (t := 593) rfl ((x_sw_i ex).trans (by decide +kernel)) (law_11 hL hi6 o11 hr next)
      by_cases h12 : j = 12
      · subst h12
        exact q_tsw (t := 626) rfl ((x_sw_i ex).trans (by decide +kernel)) (law_12 hL hi6 o12 hr next)
      by_cases h13 : j = 13
      · subst h13
        exact q_tsw (t := 639) rfl ((x_sw_i ex).trans (by decide +kernel)) (law_13 hL hi6 o13 hr next)
      by_cases h14 : j = 14
      · subst h14
        exact q_tsw (t := 662) rfl ((x_sw_i ex).trans (by decide +kernel)) (law_14 hL hi6 o14 hr next)
      by_cases h15 : j = 15
      · subst h15
        exact q_tsw (t := 685) rfl ((x_sw_i ex).trans (by decide +kernel)) (law_15 hL hi6 o15 hr next)
      by_cases h16 : j = 16
      · subst h16
        exact q_tsw (t := 708) rfl ((x_sw_i ex).trans (by decide +kernel)) (law_16 hL hi6 o16 hr next)
      by_cases h17 : j = 17
      · subst h17
        exact q_tsw (t := 731) rfl ((x_sw_i ex).trans (by decide +kernel)) (law_17 hL hi6 o17 hr next)
      by_cases h18 : j = 18
      · subst h18
        exact q_tsw (t := 764) rfl ((x_sw_i ex).trans (by decide +kernel)) (law_18 hL hi6 o18 hr next)
      by_cases h19 : j = 19
      · subst h19
        exact q_tsw (t := 797) rfl ((x_sw_i ex).trans (by decide +kernel)) (law_19 hL hi6 o19 hr next)
      by_cases h20 : j = 20
      · subst h20
        exact q_tsw (t := 820) rfl ((x_sw_i ex).trans (by decide +kernel)) (law_20 hL hi6 o20 hr next)
      by_cases h21 : j = 21
      · subst h21
        exact q_tsw (t := 843) rfl ((x_sw_i ex).trans (by decide +kernel)) (law_21 hL hi6 o21 hr next)
      by_cases h22 : j = 22
      · subst h22
        exact q_tsw (t := 866) rfl ((x_sw_i ex).trans (by decide +kernel)) (law_22 hL hi6 o22 hr next)
      by_cases h23 : j = 23
      · subst h23
        exact q_tsw (t := 889) rfl ((x_sw_i ex).trans (by decide +kernel)) (law_23 hL hi6 o23 hr next)
      by_cases h24 : j = 24
      · subst h24
        exact q_tsw (t := 932) rfl ((x_sw_i ex).trans (by decide +kernel)) (law_24 hL hi6 o24 hr next)
      by_cases h25 : j = 25
      · subst h25
        exact q_tsw (t := 965) rfl ((x_sw_i ex).trans (by decide +kernel)) (law_25 hL hi6 o25 hr next)
      by_cases h26 : j = 26
      · subst h26
        exact q_tsw (t := 1008) rfl ((x_sw_i ex).trans (by decide +kernel)) (law_26 hL hi6 o26 hr next)
      by_cases h27 : j = 27
      · subst h27
        exact q_tsw (t := 1041) rfl ((x_sw_i ex).trans (by decide +kernel)) (law_27 hL hi6 o27 hr next)
      by_cases h28 : j = 28
      · subst h28
        exact q_tsw (t := 1064) rfl ((x_sw_i ex).trans (by decide +kernel)) (law_28 hL hi6 o28 hr next)
      by_cases h29 : j = 29
      · subst h29
        exact q_tsw (t := 1097) rfl ((x_sw_i ex).trans (by decide +kernel)) (law_29 hL hi6 o29 hr next)
      by_cases h30 : j = 30
      · subst h30
        exact q_tsw (t := 1130) rfl ((x_sw_i ex).trans (by decide +kernel)) (law_30 hL hi6 o30 hr next)
      by_cases h31 : j = 31
      · subst h31
        exact q_tsw (t := 1163) rfl ((x_sw_i ex).trans (by decide +kernel)) (law_31 hL hi6 o31 hr next)
      by_cases h32 : j = 32
      · subst h32
        exact q_tsw (t := 1196) rfl ((x_sw_i ex).trans (by decide +kernel)) (law_32 hL hi6 o32 hr next)
      by_cases h33 : j = 33
      · subst h33
        exact q_tsw (t := 1229) rfl ((x_sw_i ex).trans (by decide +kernel)) (law_33 hL hi6 o33 hr next)
      by_cases h34 : j = 34
      · subst h34
        exact q_tsw (t := 1272) rfl ((x_sw_i ex).trans (by decide +kernel)) (law_34 hL hi6 o34 hr next)
      by_cases h35 : j = 35
      · subst h35
        exact q_tsw (t := 1315) rfl ((x_sw_i ex).trans (by decide +kernel)) (law_35 hL hi6 o35 hr next)
      by_cases h36 : j = 36
      · subst h36
        exact q_tsw (t := 1348) rfl ((x_sw_i ex).trans (by decide +kernel)) (law_36 hL hi6 o36 hr next)
      by_cases h37 : j = 37
      · subst h37
        exact q_tsw (t := 1361) rfl ((x_sw_i ex).trans (by decide +kernel)) (law_37 hL hi6 o37 hr next)
      by_cases h38 : j = 38
      · subst h38
        exact q_tsw (t := 1375) rfl ((x_sw_i ex).trans (by decide +kernel)) (law_38 hL hi6 o38 hr next)
      by_cases h39 : j = 39
      · subst h39
        exact q_tsw (t := 1389) rfl ((x_sw_i ex).trans (by decide +kernel)) (law_39 hL hi6 o39 hr next)
      by_cases h40 : j = 40
      · subst h40
        exact q_tsw (t := 1412) rfl ((x_sw_i ex).trans (by decide +kernel)) (law_40 hL hi6 o40 hr next)
      by_cases h41 : j = 41
      · subst h41
        exact q_tsw (t := 1425) rfl ((x_sw_i ex).trans (by decide +kernel)) (law_41 hL hi6 o41 hr next)
      by_cases h42 : j = 42
      · subst h42
        exact q_tsw (t := 1448) rfl ((x_sw_i ex).trans (by decide +kernel)) (law_42 hL hi6 o42 hr next)
      exact q_tsw (t := 1462) rfl (by rw [x_sw_i ex]; unfold x_swI; rw [if_pos (Or.inr (by omega))]; decide) (next _ _ _ _ _ hr)
theorem x_law_of {R : XR} (h0 : R x_I0 x_A0 x_J0 x_B0 x_F0) (ops : ∀ X : XX, OpsAll X R) : x_law := fun X hL => x_law_head (law_loop hL (ops X) 66 0 _ _ _ _ _ (by omega) (by omega) h0)
