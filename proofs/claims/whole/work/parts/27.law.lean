/-! the law, call by call -/
set_option maxRecDepth 100000 in
theorem law_0 {X : XX} {R : XR} {P : Option Value → XH → Prop} {i : Nat} (hL : X.1 ≤ 384) (hi : i + 6 ≤ X.1) (hop : Op_0 X R) {I A : Nat → Nat → Int32} {J B : Nat → Nat → Int64} {F : Nat → Nat} (hr : R I A J B F) (next : ∀ I A J B F, R I A J B F → Wp X xT 8 mL_law 1462 [some (.ref 1000), some (.ref 0), some (.ref 51), some (.int (nI i))] [] (HX I A J B F) P) : Wp X xT 8 mL_law 220 [some (.ref 1000), some (.ref 0), some (.ref 51), some (.int (nI i))] [] (HX I A J B F) P := by
  obtain ⟨r, I1, A1, J1, B1, F1, I2, A2, J2, B2, F2, e1, e2, hr2⟩ := hop (X.2 (nI i + 1).toNatClampNeg) (X.2 (nI i + 2).toNatClampNeg) _ _ _ _ _ hr
  refine q_aload_n rfl rfl ?_
  refine q_aload_n rfl rfl ?_
  refine q_iload_n rfl rfl ?_
  refine q_iconst (v := 1) rfl rfl ?_
  refine q_iadd rfl ?_
  refine q_iaload_s rfl (sc_ix (k := 1) (show i + 1 < X.1 by omega) hL) ?_
  refine q_aload_n rfl rfl ?_
  refine q_iload_n rfl rfl ?_
  refine q_iconst (v := 2) rfl rfl ?_
  refine q_iadd rfl ?_
  refine q_iaload_s rfl (sc_ix (k := 2) (show i + 2 < X.1 by omega) hL) ?_
  refine q_callV2 rfl hx_0 (Nat.le_of_ble_eq_true rfl) (Nat.le_of_ble_eq_true rfl) (e1) ?_
  refine q_aload_n rfl rfl ?_
  refine q_aload_n rfl rfl ?_
  refine q_iload_n rfl rfl ?_
  refine q_iconst (v := 1) rfl rfl ?_
  refine q_iadd rfl ?_
  refine q_iaload_s rfl (sc_ix (k := 1) (show i + 1 < X.1 by omega) hL) ?_
  refine q_aload_n rfl rfl ?_
  refine q_iload_n rfl rfl ?_
  refine q_iconst (v := 2) rfl rfl ?_
  refine q_iadd rfl ?_
  refine q_iaload_s rfl (sc_ix (k := 2) (show i + 2 < X.1 by omega) hL) ?_
  refine q_callV2 rfl hx_51 (Nat.le_of_ble_eq_true rfl) (Nat.le_of_ble_eq_true rfl) (e2) ?_
  refine q_icmp_eq rfl (fun hc248 => ?_) (fun hc248 => ?_)
  · exact next _ _ _ _ _ hr2
  · exact absurd rfl hc248
set_option maxRecDepth 100000 in
theorem law_1 {X : XX} {R : XR} {P : Option Value → XH → Prop} {i : Nat} (hL : X.1 ≤ 384) (hi : i + 6 ≤ X.1) (hop : Op_1 X R) {I A : Nat → Nat → Int32} {J B : Nat → Nat → Int64} {F : Nat → Nat} (hr : R I A J B F) (next : ∀ I A J B F, R I A J B F → Wp X xT 8 mL_law 1462 [some (.ref 1000), some (.ref 0), some (.ref 51), some (.int (nI i))] [] (HX I A J B F) P) : Wp X xT 8 mL_law 253 [some (.ref 1000), some (.ref 0), some (.ref 51), some (.int (nI i))] [] (HX I A J B F) P := by
  obtain ⟨r, I1, A1, J1, B1, F1, I2, A2, J2, B2, F2, e1, e2, hr2⟩ := hop (X.2 (nI i + 1).toNatClampNeg) (X.2 (nI i + 2).toNatClampNeg) (X.2 (nI i + 3).toNatClampNeg) _ _ _ _ _ hr
  refine q_aload_n rfl rfl ?_
  refine q_aload_n rfl rfl ?_
  refine q_iload_n rfl rfl ?_
  refine q_iconst (v := 1) rfl rfl ?_
  refine q_iadd rfl ?_
  refine q_iaload_s rfl (sc_ix (k := 1) (show i + 1 < X.1 by omega) hL) ?_
  refine q_aload_n rfl rfl ?_
  refine q_iload_n rfl rfl ?_
  refine q_iconst (v := 2) rfl rfl ?_
  refine q_iadd rfl ?_
  refine q_iaload_s rfl (sc_ix (k := 2) (show i + 2 < X.1 by omega) hL) ?_
  refine q_aload_n rfl rfl ?_
  refine q_iload_n rfl rfl ?_
  refine q_iconst (v := 3) rfl rfl ?_
  refine q_iadd rfl ?_
  refine q_iaload_s rfl (sc_ix (k := 3) (show i + 3 < X.1 by omega) hL) ?_
  refine q_callV3 rfl hx_0 (Nat.le_of_ble_eq_true rfl) (Nat.le_of_ble_eq_true rfl) (e1) ?_
  refine q_aload_n rfl rfl ?_
  refine q_aload_n rfl rfl ?_
  refine q_iload_n rfl rfl ?_
  refine q_iconst (v := 1) rfl rfl ?_
  refine q_iadd rfl ?_
  refine q_iaload_s rfl (sc_ix (k := 1) (show i + 1 < X.1 by omega) hL) ?_
  refine q_aload_n rfl rfl ?_
  refine q_iload_n rfl rfl ?_
  refine q_iconst (v := 2) rfl rfl ?_
  refine q_iadd rfl ?_
  refine q_iaload_s rfl (sc_ix (k := 2) (show i + 2 < X.1 by omega) hL) ?_
  refine q_aload_n rfl rfl ?_
  refine q_iload_n rfl rfl ?_
  refine q_iconst (v := 3) rfl rfl ?_
  refine q_iadd rfl ?_
  refine q_iaload_s rfl (sc_ix (k := 3) (show i + 3 < X.1 by omega) hL) ?_
  refine q_callV3 rfl hx_51 (Nat.le_of_ble_eq_true rfl) (Nat.le_of_ble_eq_true rfl) (e2) ?_
  refine q_icmp_eq rfl (fun hc291 => ?_) (fun hc291 => ?_)
  · exact next _ _ _ _ _ hr2
  · exact absurd rfl hc291
set_option maxRecDepth 100000 in
theorem law_2 {X : XX} {R : XR} {P : Option Value → XH → Prop} {i : Nat} (hL : X.1 ≤ 384) (hi : i + 6 ≤ X.1) (hop : Op_2 X R) {I A : Nat → Nat → Int32} {J B : Nat → Nat → Int64} {F : Nat → Nat} (hr : R I A J B F) (next : ∀ I A J B F, R I A J B F → Wp X xT 8 mL_law 1462 [some (.ref 1000), some (.ref 0), some (.ref 51), some (.int (nI i))] [] (HX I A J B F) P) : Wp X xT 8 mL_law 296 [some (.ref 1000), some (.ref 0), some (.ref 51), some (.int (nI i))] [] (HX I A J B F) P := by
  obtain ⟨r, I1, A1, J1, B1, F1, I2, A2, J2, B2, F2, e1, e2, hr2⟩ := hop (X.2 (nI i + 1).toNatClampNeg) (X.2 (nI i + 2).toNatClampNeg) _ _ _ _ _ hr
  refine q_aload_n rfl rfl ?_
  refine q_aload_n rfl rfl ?_
  refine q_iload_n rfl rfl ?_
  refine q_iconst (v := 1) rfl rfl ?_
  refine q_iadd rfl ?_
  refine q_iaload_s rfl (sc_ix (k := 1) (show i + 1 < X.1 by omega) hL) ?_
  refine q_aload_n rfl rfl ?_
  refine q_iload_n rfl rfl ?_
  refine q_iconst (v := 2) rfl rfl ?_
  refine q_iadd rfl ?_
  refine q_iaload_s rfl (sc_ix (k := 2) (show i + 2 < X.1 by omega) hL) ?_
  refine q_callV2 rfl hx_0 (Nat.le_of_ble_eq_true rfl) (Nat.le_of_ble_eq_true rfl) (e1) ?_
  refine q_aload_n rfl rfl ?_
  refine q_aload_n rfl rfl ?_
  refine q_iload_n rfl rfl ?_
  refine q_iconst (v := 1) rfl rfl ?_
  refine q_iadd rfl ?_
  refine q_iaload_s rfl (sc_ix (k := 1) (show i + 1 < X.1 by omega) hL) ?_
  refine q_aload_n rfl rfl ?_
  refine q_iload_n rfl rfl ?_
  refine q_iconst (v := 2) rfl rfl ?_
  refine q_iadd rfl ?_
  refine q_iaload_s rfl (sc_ix (k := 2) (show i + 2 < X.1 by omega) hL) ?_
  refine q_callV2 rfl hx_51 (Nat.le_of_ble_eq_true rfl) (Nat.le_of_ble_eq_true rfl) (e2) ?_
  refine q_icmp_eq rfl (fun hc324 => ?_) (fun hc324 => ?_)
  · exact next _ _ _ _ _ hr2
  · exact absurd rfl hc324
set_option maxRecDepth 100000 in
theorem law_3 {X : XX} {R : XR} {P : Option Value → XH → Prop} {i : Nat} (hL : X.1 ≤ 384) (hi : i + 6 ≤ X.1) (hop : Op_3 X R) {I A : Nat → Nat → Int32} {J B : Nat → Nat → Int64} {F : Nat → Nat} (hr : R I A J B F) (next : ∀ I A J B F, R I A J B F → Wp X xT 8 mL_law 1462 [some (.ref 1000), some (.ref 0), some (.ref 51), some (.int (nI i))] [] (HX I A J B F) P) : Wp X xT 8 mL_law 329 [some (.ref 1000), some (.ref 0), some (.ref 51), some (.int (nI i))] [] (HX I A J B F) P := by
  obtain ⟨r, I1, A1, J1, B1, F1, I2, A2, J2, B2, F2, e1, e2, hr2⟩ := hop (X.2 (nI i + 1).toNatClampNeg) _ _ _ _ _ hr
  refine q_aload_n rfl rfl ?_
  refine q_aload_n rfl rfl ?_
  refine q_iload_n rfl rfl ?_
  refine q_iconst (v := 1) rfl rfl ?_
  refine q_iadd rfl ?_
  refine q_iaload_s rfl (sc_ix (k := 1) (show i + 1 < X.1 by omega) hL) ?_
  refine q_callV1 rfl hx_0 (Nat.le_of_ble_eq_true rfl) (Nat.le_of_ble_eq_true rfl) (e1) ?_
  refine q_aload_n rfl rfl ?_
  refine q_aload_n rfl rfl ?_
  refine q_iload_n rfl rfl ?_
  refine q_iconst (v := 1) rfl rfl ?_
  refine q_iadd rfl ?_
  refine q_iaload_s rfl (sc_ix (k := 1) (show i + 1 < X.1 by omega) hL) ?_
  refine q_callV1 rfl hx_51 (Nat.le_of_ble_eq_true rfl) (Nat.le_of_ble_eq_true rfl) (e2) ?_
  refine q_icmp_eq rfl (fun hc347 => ?_) (fun hc347 => ?_)
  · exact next _ _ _ _ _ hr2
  · exact absurd rfl hc347
set_option maxRecDepth 100000 in
theorem law_4 {X : XX} {R : XR} {P : Option Value → XH → Prop} {i : Nat} (hL : X.1 ≤ 384) (hi : i + 6 ≤ X.1) (hop : Op_4 X R) {I A : Nat → Nat → Int32} {J B : Nat → Nat → Int64} {F : Nat → Nat} (hr : R I A J B F) (next : ∀ I A J B F, R I A J B F → Wp X xT 8 mL_law 1462 [some (.ref 1000), some (.ref 0), some (.ref 51), some (.int (nI i))] [] (HX I A J B F) P) : Wp X xT 8 mL_law 352 [some (.ref 1000), some (.ref 0), some (.ref 51), some (.int (nI i))] [] (HX I A J B F) P := by
  obtain ⟨r, I1, A1, J1, B1, F1, I2, A2, J2, B2, F2, e1, e2, hr2⟩ := hop (X.2 (nI i + 1).toNatClampNeg) (X.2 (nI i + 2).toNatClampNeg) (X.2 (nI i + 3).toNatClampNeg) (X.2 (nI i + 4).toNatClampNeg) (X.2 (nI i + 5).toNatClampNeg) _ _ _ _ _ hr
  refine q_aload_n rfl rfl ?_
  refine q_aload_n rfl rfl ?_
  refine q_iload_n rfl rfl ?_
  refine q_iconst (v := 1) rfl rfl ?_
  refine q_iadd rfl ?_
  refine q_iaload_s rfl (sc_ix (k := 1) (show i + 1 < X.1 by omega) hL) ?_
  refine q_aload_n rfl rfl ?_
  refine q_iload_n rfl rfl ?_
  refine q_iconst (v := 2) rfl rfl ?_
  refine q_iadd rfl ?_
  refine q_iaload_s rfl (sc_ix (k := 2) (show i + 2 < X.1 by omega) hL) ?_
  refine q_aload_n rfl rfl ?_
  refine q_iload_n rfl rfl ?_
  refine q_iconst (v := 3) rfl rfl ?_
  refine q_iadd rfl ?_
  refine q_iaload_s rfl (sc_ix (k := 3) (show i + 3 < X.1 by omega) hL) ?_
  refine q_aload_n rfl rfl ?_
  refine q_iload_n rfl rfl ?_
  refine q_iconst (v := 4) rfl rfl ?_
  refine q_iadd rfl ?_
  refine q_iaload_s rfl (sc_ix (k := 4) (show i + 4 < X.1 by omega) hL) ?_
  refine q_aload_n rfl rfl ?_
  refine q_iload_n rfl rfl ?_
  refine q_iconst (v := 5) rfl rfl ?_
  refine q_iadd rfl ?_
  refine q_iaload_s rfl (sc_ix (k := 5) (show i + 5 < X.1 by omega) hL) ?_
  refine q_callV5 rfl hx_0 (Nat.le_of_ble_eq_true rfl) (Nat.le_of_ble_eq_true rfl) (e1) ?_
  refine q_aload_n rfl rfl ?_
  refine q_aload_n rfl rfl ?_
  refine q_iload_n rfl rfl ?_
  refine q_iconst (v := 1) rfl rfl ?_
  refine q_iadd rfl ?_
  refine q_iaload_s rfl (sc_ix (k := 1) (show i + 1 < X.1 by omega) hL) ?_
  refine q_aload_n rfl rfl ?_
  refine q_iload_n rfl rfl ?_
  refine q_iconst (v := 2) rfl rfl ?_
  refine q_iadd rfl ?_
  refine q_iaload_s rfl (sc_ix (k := 2) (show i + 2 < X.1 by omega) hL) ?_
  refine q_aload_n rfl rfl ?_
  refine q_iload_n rfl rfl ?_
  refine q_iconst (v := 3) rfl rfl ?_
  refine q_iadd rfl ?_
  refine q_iaload_s rfl (sc_ix (k := 3) (show i + 3 < X.1 by omega) hL) ?_
  refine q_aload_n rfl rfl ?_
  refine q_iload_n rfl rfl ?_
  refine q_iconst (v := 4) rfl rfl ?_
  refine q_iadd rfl ?_
  refine q_iaload_s rfl (sc_ix (k := 4) (show i + 4 < X.1 by omega) hL) ?_
  refine q_aload_n rfl rfl ?_
  refine q_iload_n rfl rfl ?_
  refine q_iconst (v := 5) rfl rfl ?_
  refine q_iadd rfl ?_
  refine q_iaload_s rfl (sc_ix (k := 5) (show i + 5 < X.1 by omega) hL) ?_
  refine q_callV5 rfl hx_51 (Nat.le_of_ble_eq_true rfl) (Nat.le_of_ble_eq_true rfl) (e2) ?_
  refine q_icmp_eq rfl (fun hc410 => ?_) (fun hc410 => ?_)
  · exact next _ _ _ _ _ hr2
  · exact absurd rfl hc410
set_option maxRecDepth 100000 in
theorem law_5 {X : XX} {R : XR} {P : Option Value → XH → Prop} {i : Nat} (hL : X.1 ≤ 384) (hi : i + 6 ≤ X.1) (hop : Op_5 X R) {I A : Nat → Nat → Int32} {J B : Nat → Nat → Int64} {F : Nat → Nat} (hr : R I A J B F) (next : ∀ I A J B F, R I A J B F → Wp X xT 8 mL_law 1462 [some (.ref 1000), some (.ref 0), some (.ref 51), some (.int (nI i))] [] (HX I A J B F) P) : Wp X xT 8 mL_law 415 [some (.ref 1000), some (.ref 0), some (.ref 51), some (.int (nI i))] [] (HX I A J B F) P := by
  obtain ⟨r, I1, A1, J1, B1, F1, I2, A2, J2, B2, F2, e1, e2, hr2⟩ := hop (X.2 (nI i + 1).toNatClampNeg) _ _ _ _ _ hr
  refine q_aload_n rfl rfl ?_
  refine q_aload_n rfl rfl ?_
  refine q_iload_n rfl rfl ?_
  refine q_iconst (v := 1) rfl rfl ?_
  refine q_iadd rfl ?_
  refine q_iaload_s rfl (sc_ix (k := 1) (show i + 1 < X.1 by omega) hL) ?_
  refine q_callV1 rfl hx_0 (Nat.le_of_ble_eq_true rfl) (Nat.le_of_ble_eq_true rfl) (e1) ?_
  refine q_aload_n rfl rfl ?_
  refine q_aload_n rfl rfl ?_
  refine q_iload_n rfl rfl ?_
  refine q_iconst (v := 1) rfl rfl ?_
  refine q_iadd rfl ?_
  refine q_iaload_s rfl (sc_ix (k := 1) (show i + 1 < X.1 by omega) hL) ?_
  refine q_callV1 rfl hx_51 (Nat.le_of_ble_eq_true rfl) (Nat.le_of_ble_eq_true rfl) (e2) ?_
  refine q_icmp_eq rfl (fun hc433 => ?_) (fun hc433 => ?_)
  · exact next _ _ _ _ _ hr2
  · exact absurd rfl hc433
set_option maxRecDepth 100000 in
theorem law_6 {X : XX} {R : XR} {P : Option Value → XH → Prop} {i : Nat} (hL : X.1 ≤ 384) (hi : i + 6 ≤ X.1) (hop : Op_6 X R) {I A : Nat → Nat → Int32} {J B : Nat → Nat → Int64} {F : Nat → Nat} (hr : R I A J B F) (next : ∀ I A J B F, R I A J B F → Wp X xT 8 mL_law 1462 [some (.ref 1000), some (.ref 0), some (.ref 51), some (.int (nI i))] [] (HX I A J B F) P) : Wp X xT 8 mL_law 438 [some (.ref 1000), some (.ref 0), some (.ref 51), some (.int (nI i))] [] (HX I A J B F) P := by
  obtain ⟨r, I1, A1, J1, B1, F1, I2, A2, J2, B2, F2, e1, e2, hr2⟩ := hop (X.2 (nI i + 1).toNatClampNeg) (X.2 (nI i + 2).toNatClampNeg) _ _ _ _ _ hr
  refine q_aload_n rfl rfl ?_
  refine q_aload_n rfl rfl ?_
  refine q_iload_n rfl rfl ?_
  refine q_iconst (v := 1) rfl rfl ?_
  refine q_iadd rfl ?_
  refine q_iaload_s rfl (sc_ix (k := 1) (show i + 1 < X.1 by omega) hL) ?_
  refine q_aload_n rfl rfl ?_
  refine q_iload_n rfl rfl ?_
  refine q_iconst (v := 2) rfl rfl ?_
  refine q_iadd rfl ?_
  refine q_iaload_s rfl (sc_ix (k := 2) (show i + 2 < X.1 by omega) hL) ?_
  refine q_callV2 rfl hx_0 (Nat.le_of_ble_eq_true rfl) (Nat.le_of_ble_eq_true rfl) (e1) ?_
  refine q_aload_n rfl rfl ?_
  refine q_aload_n rfl rfl ?_
  refine q_iload_n rfl rfl ?_
  refine q_iconst (v := 1) rfl rfl ?_
  refine q_iadd rfl ?_
  refine q_iaload_s rfl (sc_ix (k := 1) (show i + 1 < X.1 by omega) hL) ?_
  refine q_aload_n rfl rfl ?_
  refine q_iload_n rfl rfl ?_
  refine q_iconst (v := 2) rfl rfl ?_
  refine q_iadd rfl ?_
  refine q_iaload_s rfl (sc_ix (k := 2) (show i + 2 < X.1 by omega) hL) ?_
  refine q_callV2 rfl hx_51 (Nat.le_of_ble_eq_true rfl) (Nat.le_of_ble_eq_true rfl) (e2) ?_
  refine q_icmp_eq rfl (fun hc466 => ?_) (fun hc466 => ?_)
  · exact next _ _ _ _ _ hr2
  · exact absurd rfl hc466
set_option maxRecDepth 100000 in
theorem law_7 {X : XX} {R : XR} {P : Option Value → XH → Prop} {i : Nat} (hL : X.1 ≤ 384) (hi : i + 6 ≤ X.1) (hop : Op_7 X R) {I A : Nat → Nat → Int32} {J B : Nat → Nat → Int64} {F : Nat → Nat} (hr : R I A J B F) (next : ∀ I A J B F, R I A J B F → Wp X xT 8 mL_law 1462 [some (.ref 1000), some (.ref 0), some (.ref 51), some (.int (nI i))] [] (HX I A J B F) P) : Wp X xT 8 mL_law 471 [some (.ref 1000), some (.ref 0), some (.ref 51), some (.int (nI i))] [] (HX I A J B F) P := by
  obtain ⟨r, I1, A1, J1, B1, F1, I2, A2, J2, B2, F2, e1, e2, hr2⟩ := hop (X.2 (nI i + 1).toNatClampNeg) (X.2 (nI i + 2).toNatClampNeg) (X.2 (nI i + 3).toNatClampNeg) _ _ _ _ _ hr
  refine q_aload_n rfl rfl ?_
  refine q_aload_n rfl rfl ?_
  refine q_iload_n rfl rfl ?_
  refine q_iconst (v := 1) rfl rfl ?_
  refine q_iadd rfl ?_
  refine q_iaload_s rfl (sc_ix (k := 1) (show i + 1 < X.1 by omega) hL) ?_
  refine q_aload_n rfl rfl ?_
  refine q_iload_n rfl rfl ?_
  refine q_iconst (v := 2) rfl rfl ?_
  refine q_iadd rfl ?_
  refine q_iaload_s rfl (sc_ix (k := 2) (show i + 2 < X.1 by omega) hL) ?_
  refine q_aload_n rfl rfl ?_
  refine q_iload_n rfl rfl ?_
  refine q_iconst (v := 3) rfl rfl ?_
  refine q_iadd rfl ?_
  refine q_iaload_s rfl (sc_ix (k := 3) (show i + 3 < X.1 by omega) hL) ?_
  refine q_callV3 rfl hx_0 (Nat.le_of_ble_eq_true rfl) (Nat.le_of_ble_eq_true rfl) (e1) ?_
  refine q_aload_n rfl rfl ?_
  refine q_aload_n rfl rfl ?_
  refine q_iload_n rfl rfl ?_
  refine q_iconst (v := 1) rfl rfl ?_
  refine q_iadd rfl ?_
  refine q_iaload_s rfl (sc_ix (k := 1) (show i + 1 < X.1 by omega) hL) ?_
  refine q_aload_n rfl rfl ?_
  refine q_iload_n rfl rfl ?_
  refine q_iconst (v := 2) rfl rfl ?_
  refine q_iadd rfl ?_
  refine q_iaload_s rfl (sc_ix (k := 2) (show i + 2 < X.1 by omega) hL) ?_
  refine q_aload_n rfl rfl ?_
  refine q_iload_n rfl rfl ?_
  refine q_iconst (v := 3) rfl rfl ?_
  refine q_iadd rfl ?_
  refine q_iaload_s rfl (sc_ix (k := 3) (show i + 3 < X.1 by omega) hL) ?_
  refine q_callV3 rfl hx_51 (Nat.le_of_ble_eq_true rfl) (Nat.le_of_ble_eq_true rfl) (e2) ?_
  refine q_icmp_eq rfl (fun hc509 => ?_) (fun hc509 => ?_)
  · exact next _ _ _ _ _ hr2
  · exact absurd rfl hc509
set_option maxRecDepth 100000 in
theorem law_8 {X : XX} {R : XR} {P : Option Value → XH → Prop} {i : Nat} (hL : X.1 ≤ 384) (hi : i + 6 ≤ X.1) (hop : Op_8 X R) {I A : Nat → Nat → Int32} {J B : Nat → Nat → Int64} {F : Nat → Nat} (hr : R I A J B F) (next : ∀ I A J B F, R I A J B F → Wp X xT 8 mL_law 1462 [some (.ref 1000), some (.ref 0), some (.ref 51), some (.int (nI i))] [] (HX I A J B F) P) : Wp X xT 8 mL_law 514 [some (.ref 1000), some (.ref 0), some (.ref 51), some (.int (nI i))] [] (HX I A J B F) P := by
  obtain ⟨r, I1, A1, J1, B1, F1, I2, A2, J2, B2, F2, e1, e2, hr2⟩ := hop (X.2 (nI i + 1).toNatClampNeg) _ _ _ _ _ hr
  refine q_aload_n rfl rfl ?_
  refine q_aload_n rfl rfl ?_
  refine q_iload_n rfl rfl ?_
  refine q_iconst (v := 1) rfl rfl ?_
  refine q_iadd rfl ?_
  refine q_iaload_s rfl (sc_ix (k := 1) (show i + 1 < X.1 by omega) hL) ?_
  refine q_callV1 rfl hx_0 (Nat.le_of_ble_eq_true rfl) (Nat.le_of_ble_eq_true rfl) (e1) ?_
  refine q_aload_n rfl rfl ?_
  refine q_aload_n rfl rfl ?_
  refine q_iload_n rfl rfl ?_
  refine q_iconst (v := 1) rfl rfl ?_
  refine q_iadd rfl ?_
  refine q_iaload_s rfl (sc_ix (k := 1) (show i + 1 < X.1 by omega) hL) ?_
  refine q_callV1 rfl hx_51 (Nat.le_of_ble_eq_true rfl) (Nat.le_of_ble_eq_true rfl) (e2) ?_
  refine q_icmp_eq rfl (fun hc532 => ?_) (fun hc532 => ?_)
  · exact next _ _ _ _ _ hr2
  · exact absurd rfl hc532
set_option maxRecDepth 100000 in
theorem law_9 {X : XX} {R : XR} {P : Option Value → XH → Prop} {i : Nat} (hL : X.1 ≤ 384) (hi : i + 6 ≤ X.1) (hop : Op_9 X R) {I A : Nat → Nat → Int32} {J B : Nat → Nat → Int64} {F : Nat → Nat} (hr : R I A J B F) (next : ∀ I A J B F, R I A J B F → Wp X xT 8 mL_law 1462 [some (.ref 1000), some (.ref 0), some (.ref 51), some (.int (nI i))] [] (HX I A J B F) P) : Wp X xT 8 mL_law 537 [some (.ref 1000), some (.ref 0), some (.ref 51), some (.int (nI i))] [] (HX I A J B F) P := by
  obtain ⟨r, I1, A1, J1, B1, F1, I2, A2, J2, B2, F2, e1, e2, hr2⟩ := hop (X.2 (nI i + 1).toNatClampNeg) _ _ _ _ _ hr
  refine q_aload_n rfl rfl ?_
  refine q_aload_n rfl rfl ?_
  refine q_iload_n rfl rfl ?_
  refine q_iconst (v := 1) rfl rfl ?_
  refine q_iadd rfl ?_
  refine q_iaload_s rfl (sc_ix (k := 1) (show i + 1 < X.1 by omega) hL) ?_
  refine q_callV1 rfl hx_0 (Nat.le_of_ble_eq_true rfl) (Nat.le_of_ble_eq_true rfl) (e1) ?_
  refine q_aload_n rfl rfl ?_
  refine q_aload_n rfl rfl ?_
  refine q_iload_n rfl rfl ?_
  refine q_iconst (v := 1) rfl rfl ?_
  refine q_iadd rfl ?_
  refine q_iaload_s rfl (sc_ix (k := 1) (show i + 1 < X.1 by omega) hL) ?_
  refine q_callV1 rfl hx_51 (Nat.le_of_ble_eq_true rfl) (Nat.le_of_ble_eq_true rfl) (e2) ?_
  refine q_icmp_eq rfl (fun hc555 => ?_) (fun hc555 => ?_)
  · exact next _ _ _ _ _ hr2
  · exact absurd rfl hc555
set_option maxRecDepth 100000 in
theorem law_10 {X : XX} {R : XR} {P : Option Value → XH → Prop} {i : Nat} (hL : X.1 ≤ 384) (hi : i + 6 ≤ X.1) (hop : Op_10 X R) {I A : Nat → Nat → Int32} {J B : Nat → Nat → Int64} {F : Nat → Nat} (hr : R I A J B F) (next : ∀ I A J B F, R I A J B F → Wp X xT 8 mL_law 1462 [some (.ref 1000), some (.ref 0), some (.ref 51), some (.int (nI i))] [] (HX I A J B F) P) : Wp X xT 8 mL_law 560 [some (.ref 1000), some (.ref 0), some (.ref 51), some (.int (nI i))] [] (HX I A J B F) P := by
  obtain ⟨r, I1, A1, J1, B1, F1, I2, A2, J2, B2, F2, e1, e2, hr2⟩ := hop (X.2 (nI i + 1).toNatClampNeg) (X.2 (nI i + 2).toNatClampNeg) _ _ _ _ _ hr
  refine q_aload_n rfl rfl ?_
  refine q_aload_n rfl rfl ?_
  refine q_iload_n rfl rfl ?_
  refine q_iconst (v := 1) rfl rfl ?_
  refine q_iadd rfl ?_
  refine q_iaload_s rfl (sc_ix (k := 1) (show i + 1 < X.1 by omega) hL) ?_
  refine q_aload_n rfl rfl ?_
  refine q_iload_n rfl rfl ?_
  refine q_iconst (v := 2) rfl rfl ?_
  refine q_iadd rfl ?_
  refine q_iaload_s rfl (sc_ix (k := 2) (show i + 2 < X.1 by omega) hL) ?_
  refine q_callV2 rfl hx_0 (Nat.le_of_ble_eq_true rfl) (Nat.le_of_ble_eq_true rfl) (e1) ?_
  refine q_aload_n rfl rfl ?_
  refine q_aload_n rfl rfl ?_
  refine q_iload_n rfl rfl ?_
  refine q_iconst (v := 1) rfl rfl ?_
  refine q_iadd rfl ?_
  refine q_iaload_s rfl (sc_ix (k := 1) (show i + 1 < X.1 by omega) hL) ?_
  refine q_aload_n rfl rfl ?_
  refine q_iload_n rfl rfl ?_
  refine q_iconst (v := 2) rfl rfl ?_
  refine q_iadd rfl ?_
  refine q_iaload_s rfl (sc_ix (k := 2) (show i + 2 < X.1 by omega) hL) ?_
  refine q_callV2 rfl hx_51 (Nat.le_of_ble_eq_true rfl) (Nat.le_of_ble_eq_true rfl) (e2) ?_
  refine q_icmp_eq rfl (fun hc588 => ?_) (fun hc588 => ?_)
  · exact next _ _ _ _ _ hr2
  · exact absurd rfl hc588
set_option maxRecDepth 100000 in
theorem law_11 {X : XX} {R : XR} {P : Option Value → XH → Prop} {i : Nat} (hL : X.1 ≤ 384) (hi : i + 6 ≤ X.1) (hop : Op_11 X R) {I A : Nat → Nat → Int32} {J B : Nat → Nat → Int64} {F : Nat → Nat} (hr : R I A J B F) (next : ∀ I A J B F, R I A J B F → Wp X xT 8 mL_law 1462 [some (.ref 1000), some (.ref 0), some (.ref 51), some (.int (nI i))] [] (HX I A J B F) P) : Wp X xT 8 mL_law 593 [some (.ref 1000), some (.ref 0), some (.ref 51), some (.int (nI i))] [] (HX I A J B F) P := by
  obtain ⟨r, I1, A1, J1, B1, F1, I2, A2, J2, B2, F2, e1, e2, hr2⟩ := hop (X.2 (nI i + 1).toNatClampNeg) (X.2 (nI i + 2).toNatClampNeg) _ _ _ _ _ hr
  refine q_aload_n rfl rfl ?_
  refine q_aload_n rfl rfl ?_
  refine q_iload_n rfl rfl ?_
  refine q_iconst (v := 1) rfl rfl ?_
  refine q_iadd rfl ?_
  refine q_iaload_s rfl (sc_ix (k := 1) (show i + 1 < X.1 by omega) hL) ?_
  refine q_aload_n rfl rfl ?_
  refine q_iload_n rfl rfl ?_
  refine q_iconst (v := 2) rfl rfl ?_
  refine q_iadd rfl ?_
  refine q_iaload_s rfl (sc_ix (k := 2) (show i + 2 < X.1 by omega) hL) ?_
  refine q_callV2 rfl hx_0 (Nat.le_of_ble_eq_true rfl) (Nat.le_of_ble_eq_true rfl) (e1) ?_
  refine q_aload_n rfl rfl ?_
  refine q_aload_n rfl rfl ?_
  refine q_iload_n rfl rfl ?_
  refine q_iconst (v := 1) rfl rfl ?_
  refine q_iadd rfl ?_
  refine q_iaload_s rfl (sc_ix (k := 1) (show i + 1 < X.1 by omega) hL) ?_
  refine q_aload_n rfl rfl ?_
  refine q_iload_n rfl rfl ?_
  refine q_iconst (v := 2) rfl rfl ?_
  refine q_iadd rfl ?_
  refine q_iaload_s rfl (sc_ix (k := 2) (show i + 2 < X.1 by omega) hL) ?_
  refine q_callV2 rfl hx_51 (Nat.le_of_ble_eq_true rfl) (Nat.le_of_ble_eq_true rfl) (e2) ?_
  refine q_icmp_eq rfl (fun hc621 => ?_) (fun hc621 => ?_)
  · exact next _ _ _ _ _ hr2
  · exact absurd rfl hc621
set_option maxRecDepth 100000 in
theorem law_12 {X : XX} {R : XR} {P : Option Value → XH → Prop} {i : Nat} (hL : X.1 ≤ 384) (hi : i + 6 ≤ X.1) (hop : Op_12 X R) {I A : Nat → Nat → Int32} {J B : Nat → Nat → Int64} {F : Nat → Nat} (hr : R I A J B F) (next : ∀ I A J B F, R I A J B F → Wp X xT 8 mL_law 1462 [some (.ref 1000), some (.ref 0), some (.ref 51), some (.int (nI i))] [] (HX I A J B F) P) : Wp X xT 8 mL_law 626 [some (.ref 1000), some (.ref 0), some (.ref 51), some (.int (nI i))] [] (HX I A J B F) P := by
  obtain ⟨r, I1, A1, J1, B1, F1, I2, A2, J2, B2, F2, e1, e2, hr2⟩ := hop  _ _ _ _ _ hr
  refine q_aload_n rfl rfl ?_
  refine q_callV0 rfl hx_0 (Nat.le_of_ble_eq_true rfl) (Nat.le_of_ble_eq_true rfl) (e1) ?_
  refine q_aload_n rfl rfl ?_
  refine q_callV0 rfl hx_51 (Nat.le_of_ble_eq_true rfl) (Nat.le_of_ble_eq_true rfl) (e2) ?_
  refine q_icmp_eq rfl (fun hc634 => ?_) (fun hc634 => ?_)
  · exact next _ _ _ _ _ hr2
  · exact absurd rfl hc634
set_option maxRecDepth 100000 in
theorem law_13 {X : XX} {R : XR} {P : Option Value → XH → Prop} {i : Nat} (hL : X.1 ≤ 384) (hi : i + 6 ≤ X.1) (hop : Op_13 X R) {I A : Nat → Nat → Int32} {J B : Nat → Nat → Int64} {F : Nat → Nat} (hr : R I A J B F) (next : ∀ I A J B F, R I A J B F → Wp X xT 8 mL_law 1462 [some (.ref 1000), some (.ref 0), some (.ref 51), some (.int (nI i))] [] (HX I A J B F) P) : Wp X xT 8 mL_law 639 [some (.ref 1000), some (.ref 0), some (.ref 51), some (.int (nI i))] [] (HX I A J B F) P := by
  obtain ⟨r, I1, A1, J1, B1, F1, I2, A2, J2, B2, F2, e1, e2, hr2⟩ := hop (X.2 (nI i + 1).toNatClampNeg) _ _ _ _ _ hr
  refine q_aload_n rfl rfl ?_
  refine q_aload_n rfl rfl ?_
  refine q_iload_n rfl rfl ?_
  refine q_iconst (v := 1) rfl rfl ?_
  refine q_iadd rfl ?_
  refine q_iaload_s rfl (sc_ix (k := 1) (show i + 1 < X.1 by omega) hL) ?_
  refine q_callV1 rfl hx_0 (Nat.le_of_ble_eq_true rfl) (Nat.le_of_ble_eq_true rfl) (e1) ?_
  refine q_aload_n rfl rfl ?_
  refine q_aload_n rfl rfl ?_
  refine q_iload_n rfl rfl ?_
  refine q_iconst (v := 1) rfl rfl ?_
  refine q_iadd rfl ?_
  refine q_iaload_s rfl (sc_ix (k := 1) (show i + 1 < X.1 by omega) hL) ?_
  refine q_callV1 rfl hx_51 (Nat.le_of_ble_eq_true rfl) (Nat.le_of_ble_eq_true rfl) (e2) ?_
  refine q_icmp_eq rfl (fun hc657 => ?_) (fun hc657 => ?_)
  · exact next _ _ _ _ _ hr2
  · exact absurd rfl hc657
set_option maxRecDepth 100000 in
theorem law_14 {X : XX} {R : XR} {P : Option Value → XH → Prop} {i : Nat} (hL : X.1 ≤ 384) (hi : i + 6 ≤ X.1) (hop : Op_14 X R) {I A : Nat → Nat → Int32} {J B : Nat → Nat → Int64} {F : Nat → Nat} (hr : R I A J B F) (next : ∀ I A J B F, R I A J B F → Wp X xT 8 mL_law 1462 [some (.ref 1000), some (.ref 0), some (.ref 51), some (.int (nI i))] [] (HX I A J B F) P) : Wp X xT 8 mL_law 662 [some (.ref 1000), some (.ref 0), some (.ref 51), some (.int (nI i))] [] (HX I A J B F) P := by
  obtain ⟨r, I1, A1, J1, B1, F1, I2, A2, J2, B2, F2, e1, e2, hr2⟩ := hop (X.2 (nI i + 1).toNatClampNeg) _ _ _ _ _ hr
  refine q_aload_n rfl rfl ?_
  refine q_aload_n rfl rfl ?_
  refine q_iload_n rfl rfl ?_
  refine q_iconst (v := 1) rfl rfl ?_
  refine q_iadd rfl ?_
  refine q_iaload_s rfl (sc_ix (k := 1) (show i + 1 < X.1 by omega) hL) ?_
  refine q_callV1 rfl hx_0 (Nat.le_of_ble_eq_true rfl) (Nat.le_of_ble_eq_true rfl) (e1) ?_
  refine q_aload_n rfl rfl ?_
  refine q_aload_n rfl rfl ?_
  refine q_iload_n rfl rfl ?_
  refine q_iconst (v := 1) rfl rfl ?_
  refine q_iadd rfl ?_
  refine q_iaload_s rfl (sc_ix (k := 1) (show i + 1 < X.1 by omega) hL) ?_
  refine q_callV1 rfl hx_51 (Nat.le_of_ble_eq_true rfl) (Nat.le_of_ble_eq_true rfl) (e2) ?_
  refine q_icmp_eq rfl (fun hc680 => ?_) (fun hc680 => ?_)
  · exact next _ _ _ _ _ hr2
  · exact absurd rfl hc680
set_option maxRecDepth 100000 in
theorem law_15 {X : XX} {R : XR} {P : Option Value → XH → Prop} {i : Nat} (hL : X.1 ≤ 384) (hi : i + 6 ≤ X.1) (hop : Op_15 X R) {I A : Nat → Nat → Int32} {J B : Nat → Nat → Int64} {F : Nat → Nat} (hr : R I A J B F) (next : ∀ I A J B F, R I A J B F → Wp X xT 8 mL_law 1462 [some (.ref 1000), some (.ref 0), some (.ref 51), some (.int (nI i))] [] (HX I A J B F) P) : Wp X xT 8 mL_law 685 [some (.ref 1000), some (.ref 0), some (.ref 51), some (.int (nI i))] [] (HX I A J B F) P := by
  obtain ⟨r, I1, A1, J1, B1, F1, I2, A2, J2, B2, F2, e1, e2, hr2⟩ := hop (X.2 (nI i + 1).toNatClampNeg) _ _ _ _ _ hr
  refine q_aload_n rfl rfl ?_
  refine q_aload_n rfl rfl ?_
  refine q_iload_n rfl rfl ?_
  refine q_iconst (v := 1) rfl rfl ?_
  refine q_iadd rfl ?_
  refine q_iaload_s rfl (sc_ix (k := 1) (show i + 1 < X.1 by omega) hL) ?_
  refine q_callV1 rfl hx_0 (Nat.le_of_ble_eq_true rfl) (Nat.le_of_ble_eq_true rfl) (e1) ?_
  refine q_aload_n rfl rfl ?_
  refine q_aload_n rfl rfl ?_
  refine q_iload_n rfl rfl ?_
  refine q_iconst (v := 1) rfl rfl ?_
  refine q_iadd rfl ?_
  refine q_iaload_s rfl (sc_ix (k := 1) (show i + 1 < X.1 by omega) hL) ?_
  refine q_callV1 rfl hx_51 (Nat.le_of_ble_eq_true rfl) (Nat.le_of_ble_eq_true rfl) (e2) ?_
  refine q_icmp_eq rfl (fun hc703 => ?_) (fun hc703 => ?_)
  · exact next _ _ _ _ _ hr2
  · exact absurd rfl hc703
set_option maxRecDepth 100000 in
theorem law_16 {X : XX} {R : XR} {P : Option Value → XH → Prop} {i : Nat} (hL : X.1 ≤ 384) (hi : i + 6 ≤ X.1) (hop : Op_16 X R) {I A : Nat → Nat → Int32} {J B : Nat → Nat → Int64} {F : Nat → Nat} (hr : R I A J B F) (next : ∀ I A J B F, R I A J B F → Wp X xT 8 mL_law 1462 [some (.ref 1000), some (.ref 0), some (.ref 51), some (.int (nI i))] [] (HX I A J B F) P) : Wp X xT 8 mL_law 708 [some (.ref 1000), some (.ref 0), some (.ref 51), some (.int (nI i))] [] (HX I A J B F) P := by
  obtain ⟨r, I1, A1, J1, B1, F1, I2, A2, J2, B2, F2, e1, e2, hr2⟩ := hop (X.2 (nI i + 1).toNatClampNeg) _ _ _ _ _ hr
  refine q_aload_n rfl rfl ?_
  refine q_aload_n rfl rfl ?_
  refine q_iload_n rfl rfl ?_
  refine q_iconst (v := 1) rfl rfl ?_
  refine q_iadd rfl ?_
  refine q_iaload_s rfl (sc_ix (k := 1) (show i + 1 < X.1 by omega) hL) ?_
  refine q_callV1 rfl hx_0 (Nat.le_of_ble_eq_true rfl) (Nat.le_of_ble_eq_true rfl) (e1) ?_
  refine q_aload_n rfl rfl ?_
  refine q_aload_n rfl rfl ?_
  refine q_iload_n rfl rfl ?_
  refine q_iconst (v := 1) rfl rfl ?_
  refine q_iadd rfl ?_
  refine q_iaload_s rfl (sc_ix (k := 1) (show i + 1 < X.1 by omega) hL) ?_
  refine q_callV1 rfl hx_51 (Nat.le_of_ble_eq_true rfl) (Nat.le_of_ble_eq_true rfl) (e2) ?_
  refine q_icmp_eq rfl (fun hc726 => ?_) (fun hc726 => ?_)
  · exact next _ _ _ _ _ hr2
  · exact absurd rfl hc726
set_option maxRecDepth 100000 in
theorem law_17 {X : XX} {R : XR} {P : Option Value → XH → Prop} {i : Nat} (hL : X.1 ≤ 384) (hi : i + 6 ≤ X.1) (hop : Op_17 X R) {I A : Nat → Nat → Int32} {J B : Nat → Nat → Int64} {F : Nat → Nat} (hr : R I A J B F) (next : ∀ I A J B F, R I A J B F → Wp X xT 8 mL_law 1462 [some (.ref 1000), some (.ref 0), some (.ref 51), some (.int (nI i))] [] (HX I A J B F) P) : Wp X xT 8 mL_law 731 [some (.ref 1000), some (.ref 0), some (.ref 51), some (.int (nI i))] [] (HX I A J B F) P := by
  obtain ⟨r, I1, A1, J1, B1, F1, I2, A2, J2, B2, F2, e1, e2, hr2⟩ := hop (X.2 (nI i + 1).toNatClampNeg) (X.2 (nI i + 2).toNatClampNeg) _ _ _ _ _ hr
  refine q_aload_n rfl rfl ?_
  refine q_aload_n rfl rfl ?_
  refine q_iload_n rfl rfl ?_
  refine q_iconst (v := 1) rfl rfl ?_
  refine q_iadd rfl ?_
  refine q_iaload_s rfl (sc_ix (k := 1) (show i + 1 < X.1 by omega) hL) ?_
  refine q_aload_n rfl rfl ?_
  refine q_iload_n rfl rfl ?_
  refine q_iconst (v := 2) rfl rfl ?_
  refine q_iadd rfl ?_
  refine q_iaload_s rfl (sc_ix (k := 2) (show i + 2 < X.1 by omega) hL) ?_
  refine q_callV2 rfl hx_0 (Nat.le_of_ble_eq_true rfl) (Nat.le_of_ble_eq_true rfl) (e1) ?_
  refine q_aload_n rfl rfl ?_
  refine q_aload_n rfl rfl ?_
  refine q_iload_n rfl rfl ?_
  refine q_iconst (v := 1) rfl rfl ?_
  refine q_iadd rfl ?_
  refine q_iaload_s rfl (sc_ix (k := 1) (show i + 1 < X.1 by omega) hL) ?_
  refine q_aload_n rfl rfl ?_
  refine q_iload_n rfl rfl ?_
  refine q_iconst (v := 2) rfl rfl ?_
  refine q_iadd rfl ?_
  refine q_iaload_s rfl (sc_ix (k := 2) (show i + 2 < X.1 by omega) hL) ?_
  refine q_callV2 rfl hx_51 (Nat.le_of_ble_eq_true rfl) (Nat.le_of_ble_eq_true rfl) (e2) ?_
  refine q_icmp_eq rfl (fun hc759 => ?_) (fun hc759 => ?_)
  · exact next _ _ _ _ _ hr2
  · exact absurd rfl hc759
set_option maxRecDepth 100000 in
theorem law_18 {X : XX} {R : XR} {P : Option Value → XH → Prop} {i : Nat} (hL : X.1 ≤ 384) (hi : i + 6 ≤ X.1) (hop : Op_18 X R) {I A : Nat → Nat → Int32} {J B : Nat → Nat → Int64} {F : Nat → Nat} (hr : R I A J B F) (next : ∀ I A J B F, R I A J B F → Wp X xT 8 mL_law 1462 [some (.ref 1000), some (.ref 0), some (.ref 51), some (.int (nI i))] [] (HX I A J B F) P) : Wp X xT 8 mL_law 764 [some (.ref 1000), some (.ref 0), some (.ref 51), some (.int (nI i))] [] (HX I A J B F) P := by
  obtain ⟨r, I1, A1, J1, B1, F1, I2, A2, J2, B2, F2, e1, e2, hr2⟩ := hop (X.2 (nI i + 1).toNatClampNeg) (X.2 (nI i + 2).toNatClampNeg) _ _ _ _ _ hr
  refine q_aload_n rfl rfl ?_
  refine q_aload_n rfl rfl ?_
  refine q_iload_n rfl rfl ?_
  refine q_iconst (v := 1) rfl rfl ?_
  refine q_iadd rfl ?_
  refine q_iaload_s rfl (sc_ix (k := 1) (show i + 1 < X.1 by omega) hL) ?_
  refine q_aload_n rfl rfl ?_
  refine q_iload_n rfl rfl ?_
  refine q_iconst (v := 2) rfl rfl ?_
  refine q_iadd rfl ?_
  refine q_iaload_s rfl (sc_ix (k := 2) (show i + 2 < X.1 by omega) hL) ?_
  refine q_callV2 rfl hx_0 (Nat.le_of_ble_eq_true rfl) (Nat.le_of_ble_eq_true rfl) (e1) ?_
  refine q_aload_n rfl rfl ?_
  refine q_aload_n rfl rfl ?_
  refine q_iload_n rfl rfl ?_
  refine q_iconst (v := 1) rfl rfl ?_
  refine q_iadd rfl ?_
  refine q_iaload_s rfl (sc_ix (k := 1) (show i + 1 < X.1 by omega) hL) ?_
  refine q_aload_n rfl rfl ?_
  refine q_iload_n rfl rfl ?_
  refine q_iconst (v := 2) rfl rfl ?_
  refine q_iadd rfl ?_
  refine q_iaload_s rfl (sc_ix (k := 2) (show i + 2 < X.1 by omega) hL) ?_
  refine q_callV2 rfl hx_51 (Nat.le_of_ble_eq_true rfl) (Nat.le_of_ble_eq_true rfl) (e2) ?_
  refine q_icmp_eq rfl (fun hc792 => ?_) (fun hc792 => ?_)
  · exact next _ _ _ _ _ hr2
  · exact absurd rfl hc792
set_option maxRecDepth 100000 in
theorem law_19 {X : XX} {R : XR} {P : Option Value → XH → Prop} {i : Nat} (hL : X.1 ≤ 384) (hi : i + 6 ≤ X.1) (hop : Op_19 X R) {I A : Nat → Nat → Int32} {J B : Nat → Nat → Int64} {F : Nat → Nat} (hr : R I A J B F) (next : ∀ I A J B F, R I A J B F → Wp X xT 8 mL_law 1462 [some (.ref 1000), some (.ref 0), some (.ref 51), some (.int (nI i))] [] (HX I A J B F) P) : Wp X xT 8 mL_law 797 [some (.ref 1000), some (.ref 0), some (.ref 51), some (.int (nI i))] [] (HX I A J B F) P := by
  obtain ⟨r, I1, A1, J1, B1, F1, I2, A2, J2, B2, F2, e1, e2, hr2⟩ := hop (X.2 (nI i + 1).toNatClampNeg) _ _ _ _ _ hr
  refine q_aload_n rfl rfl ?_
  refine q_aload_n rfl rfl ?_
  refine q_iload_n rfl rfl ?_
  refine q_iconst (v := 1) rfl rfl ?_
  refine q_iadd rfl ?_
  refine q_iaload_s rfl (sc_ix (k := 1) (show i + 1 < X.1 by omega) hL) ?_
  refine q_callV1 rfl hx_0 (Nat.le_of_ble_eq_true rfl) (Nat.le_of_ble_eq_true rfl) (e1) ?_
  refine q_aload_n rfl rfl ?_
  refine q_aload_n rfl rfl ?_
  refine q_iload_n rfl rfl ?_
  refine q_iconst (v := 1) rfl rfl ?_
  refine q_iadd rfl ?_
  refine q_iaload_s rfl (sc_ix (k := 1) (show i + 1 < X.1 by omega) hL) ?_
  refine q_callV1 rfl hx_51 (Nat.le_of_ble_eq_true rfl) (Nat.le_of_ble_eq_true rfl) (e2) ?_
  refine q_icmp_eq rfl (fun hc815 => ?_) (fun hc815 => ?_)
  · exact next _ _ _ _ _ hr2
  · exact absurd rfl hc815
set_option maxRecDepth 100000 in
theorem law_20 {X : XX} {R : XR} {P : Option Value → XH → Prop} {i : Nat} (hL : X.1 ≤ 384) (hi : i + 6 ≤ X.1) (hop : Op_20 X R) {I A : Nat → Nat → Int32} {J B : Nat → Nat → Int64} {F : Nat → Nat} (hr : R I A J B F) (next : ∀ I A J B F, R I A J B F → Wp X xT 8 mL_law 1462 [some (.ref 1000), some (.ref 0), some (.ref 51), some (.int (nI i))] [] (HX I A J B F) P) : Wp X xT 8 mL_law 820 [some (.ref 1000), some (.ref 0), some (.ref 51), some (.int (nI i))] [] (HX I A J B F) P := by
  obtain ⟨r, I1, A1, J1, B1, F1, I2, A2, J2, B2, F2, e1, e2, hr2⟩ := hop (X.2 (nI i + 1).toNatClampNeg) _ _ _ _ _ hr
  refine q_aload_n rfl rfl ?_
  refine q_aload_n rfl rfl ?_
  refine q_iload_n rfl rfl ?_
  refine q_iconst (v := 1) rfl rfl ?_
  refine q_iadd rfl ?_
  refine q_iaload_s rfl (sc_ix (k := 1) (show i + 1 < X.1 by omega) hL) ?_
  refine q_callV1 rfl hx_0 (Nat.le_of_ble_eq_true rfl) (Nat.le_of_ble_eq_true rfl) (e1) ?_
  refine q_aload_n rfl rfl ?_
  refine q_aload_n rfl rfl ?_
  refine q_iload_n rfl rfl ?_
  refine q_iconst (v := 1) rfl rfl ?_
  refine q_iadd rfl ?_
  refine q_iaload_s rfl (sc_ix (k := 1) (show i + 1 < X.1 by omega) hL) ?_
  refine q_callV1 rfl hx_51 (Nat.le_of_ble_eq_true rfl) (Nat.le_of_ble_eq_true rfl) (e2) ?_
  refine q_icmp_eq rfl (fun hc838 => ?_) (fun hc838 => ?_)
  · exact next _ _ _ _ _ hr2
  · exact absurd rfl hc838
set_option maxRecDepth 100000 in
theorem law_21 {X : XX} {R : XR} {P : Option Value → XH → Prop} {i : Nat} (hL : X.1 ≤ 384) (hi : i + 6 ≤ X.1) (hop : Op_21 X R) {I A : Nat → Nat → Int32} {J B : Nat → Nat → Int64} {F : Nat → Nat} (hr : R I A J B F) (next : ∀ I A J B F, R I A J B F → Wp X xT 8 mL_law 1462 [some (.ref 1000), some (.ref 0), some (.ref 51), some (.int (nI i))] [] (HX I A J B F) P) : Wp X xT 8 mL_law 843 [some (.ref 1000), some (.ref 0), some (.ref 51), some (.int (nI i))] [] (HX I A J B F) P := by
  obtain ⟨r, I1, A1, J1, B1, F1, I2, A2, J2, B2, F2, e1, e2, hr2⟩ := hop (X.2 (nI i + 1).toNatClampNeg) _ _ _ _ _ hr
  refine q_aload_n rfl rfl ?_
  refine q_aload_n rfl rfl ?_
  refine q_iload_n rfl rfl ?_
  refine q_iconst (v := 1) rfl rfl ?_
  refine q_iadd rfl ?_
  refine q_iaload_s rfl (sc_ix (k := 1) (show i + 1 < X.1 by omega) hL) ?_
  refine q_callV1 rfl hx_0 (Nat.le_of_ble_eq_true rfl) (Nat.le_of_ble_eq_true rfl) (e1) ?_
  refine q_aload_n rfl rfl ?_
  refine q_aload_n rfl rfl ?_
  refine q_iload_n rfl rfl ?_
  refine q_iconst (v := 1) rfl rfl ?_
  refine q_iadd rfl ?_
  refine q_iaload_s rfl (sc_ix (k := 1) (show i + 1 < X.1 by omega) hL) ?_
  refine q_callV1 rfl hx_51 (Nat.le_of_ble_eq_true rfl) (Nat.le_of_ble_eq_true rfl) (e2) ?_
  refine q_icmp_eq rfl (fun hc861 => ?_) (fun hc861 => ?_)
  · exact next _ _ _ _ _ hr2
  · exact absurd rfl hc861
set_option maxRecDepth 100000 in
theorem law_22 {X : XX} {R : XR} {P : Option Value → XH → Prop} {i : Nat} (hL : X.1 ≤ 384) (hi : i + 6 ≤ X.1) (hop : Op_22 X R) {I A : Nat → Nat → Int32} {J B : Nat → Nat → Int64} {F : Nat → Nat} (hr : R I A J B F) (next : ∀ I A J B F, R I A J B F → Wp X xT 8 mL_law 1462 [some (.ref 1000), some (.ref 0), some (.ref 51), some (.int (nI i))] [] (HX I A J B F) P) : Wp X xT 8 mL_law 866 [some (.ref 1000), some (.ref 0), some (.ref 51), some (.int (nI i))] [] (HX I A J B F) P := by
  obtain ⟨r, I1, A1, J1, B1, F1, I2, A2, J2, B2, F2, e1, e2, hr2⟩ := hop (X.2 (nI i + 1).toNatClampNeg) _ _ _ _ _ hr
  refine q_aload_n rfl rfl ?_
  refine q_aload_n rfl rfl ?_
  refine q_iload_n rfl rfl ?_
  refine q_iconst (v := 1) rfl rfl ?_
  refine q_iadd rfl ?_
  refine q_iaload_s rfl (sc_ix (k := 1) (show i + 1 < X.1 by omega) hL) ?_
  refine q_callV1 rfl hx_0 (Nat.le_of_ble_eq_true rfl) (Nat.le_of_ble_eq_true rfl) (e1) ?_
  refine q_aload_n rfl rfl ?_
  refine q_aload_n rfl rfl ?_
  refine q_iload_n rfl rfl ?_
  refine q_iconst (v := 1) rfl rfl ?_
  refine q_iadd rfl ?_
  refine q_iaload_s rfl (sc_ix (k := 1) (show i + 1 < X.1 by omega) hL) ?_
  refine q_callV1 rfl hx_51 (Nat.le_of_ble_eq_true rfl) (Nat.le_of_ble_eq_true rfl) (e2) ?_
  refine q_icmp_eq rfl (fun hc884 => ?_) (fun hc884 => ?_)
  · exact next _ _ _ _ _ hr2
  · exact absurd rfl hc884
set_option maxRecDepth 100000 in
theorem law_23 {X : XX} {R : XR} {P : Option Value → XH → Prop} {i : Nat} (hL : X.1 ≤ 384) (hi : i + 6 ≤ X.1) (hop : Op_23 X R) {I A : Nat → Nat → Int32} {J B : Nat → Nat → Int64} {F : Nat → Nat} (hr : R I A J B F) (next : ∀ I A J B F, R I A J B F → Wp X xT 8 mL_law 1462 [some (.ref 1000), some (.ref 0), some (.ref 51), some (.int (nI i))] [] (HX I A J B F) P) : Wp X xT 8 mL_law 889 [some (.ref 1000), some (.ref 0), some (.ref 51), some (.int (nI i))] [] (HX I A J B F) P := by
  obtain ⟨r, I1, A1, J1, B1, F1, I2, A2, J2, B2, F2, e1, e2, hr2⟩ := hop (X.2 (nI i + 1).toNatClampNeg) (X.2 (nI i + 2).toNatClampNeg) (X.2 (nI i + 3).toNatClampNeg) _ _ _ _ _ hr
  refine q_aload_n rfl rfl ?_
  refine q_aload_n rfl rfl ?_
  refine q_iload_n rfl rfl ?_
  refine q_iconst (v := 1) rfl rfl ?_
  refine q_iadd rfl ?_
  refine q_iaload_s rfl (sc_ix (k := 1) (show i + 1 < X.1 by omega) hL) ?_
  refine q_aload_n rfl rfl ?_
  refine q_iload_n rfl rfl ?_
  refine q_iconst (v := 2) rfl rfl ?_
  refine q_iadd rfl ?_
  refine q_iaload_s rfl (sc_ix (k := 2) (show i + 2 < X.1 by omega) hL) ?_
  refine q_aload_n rfl rfl ?_
  refine q_iload_n rfl rfl ?_
  refine q_iconst (v := 3) rfl rfl ?_
  refine q_iadd rfl ?_
  refine q_iaload_s rfl (sc_ix (k := 3) (show i + 3 < X.1 by omega) hL) ?_
  refine q_callV3 rfl hx_0 (Nat.le_of_ble_eq_true rfl) (Nat.le_of_ble_eq_true rfl) (e1) ?_
  refine q_aload_n rfl rfl ?_
  refine q_aload_n rfl rfl ?_
  refine q_iload_n rfl rfl ?_
  refine q_iconst (v := 1) rfl rfl ?_
  refine q_iadd rfl ?_
  refine q_iaload_s rfl (sc_ix (k := 1) (show i + 1 < X.1 by omega) hL) ?_
  refine q_aload_n rfl rfl ?_
  refine q_iload_n rfl rfl ?_
  refine q_iconst (v := 2) rfl rfl ?_
  refine q_iadd rfl ?_
  refine q_iaload_s rfl (sc_ix (k := 2) (show i + 2 < X.1 by omega) hL) ?_
  refine q_aload_n rfl rfl ?_
  refine q_iload_n rfl rfl ?_
  refine q_iconst (v := 3) rfl rfl ?_
  refine q_iadd rfl ?_
  refine q_iaload_s rfl (sc_ix (k := 3) (show i + 3 < X.1 by omega) hL) ?_
  refine q_callV3 rfl hx_51 (Nat.le_of_ble_eq_true rfl) (Nat.le_of_ble_eq_true rfl) (e2) ?_
  refine q_icmp_eq rfl (fun hc927 => ?_) (fun hc927 => ?_)
  · exact next _ _ _ _ _ hr2
  · exact absurd rfl hc927
set_option maxRecDepth 100000 in
theorem law_24 {X : XX} {R : XR} {P : Option Value → XH → Prop} {i : Nat} (hL : X.1 ≤ 384) (hi : i + 6 ≤ X.1) (hop : Op_24 X R) {I A : Nat → Nat → Int32} {J B : Nat → Nat → Int64} {F : Nat → Nat} (hr : R I A J B F) (next : ∀ I A J B F, R I A J B F → Wp X xT 8 mL_law 1462 [some (.ref 1000), some (.ref 0), some (.ref 51), some (.int (nI i))] [] (HX I A J B F) P) : Wp X xT 8 mL_law 932 [some (.ref 1000), some (.ref 0), some (.ref 51), some (.int (nI i))] [] (HX I A J B F) P := by
  obtain ⟨r, I1, A1, J1, B1, F1, I2, A2, J2, B2, F2, e1, e2, hr2⟩ := hop (X.2 (nI i + 1).toNatClampNeg) (X.2 (nI i + 2).toNatClampNeg) _ _ _ _ _ hr
  refine q_aload_n rfl rfl ?_
  refine q_aload_n rfl rfl ?_
  refine q_iload_n rfl rfl ?_
  refine q_iconst (v := 1) rfl rfl ?_
  refine q_iadd rfl ?_
  refine q_iaload_s rfl (sc_ix (k := 1) (show i + 1 < X.1 by omega) hL) ?_
  refine q_aload_n rfl rfl ?_
  refine q_iload_n rfl rfl ?_
  refine q_iconst (v := 2) rfl rfl ?_
  refine q_iadd rfl ?_
  refine q_iaload_s rfl (sc_ix (k := 2) (show i + 2 < X.1 by omega) hL) ?_
  refine q_callV2 rfl hx_0 (Nat.le_of_ble_eq_true rfl) (Nat.le_of_ble_eq_true rfl) (e1) ?_
  refine q_aload_n rfl rfl ?_
  refine q_aload_n rfl rfl ?_
  refine q_iload_n rfl rfl ?_
  refine q_iconst (v := 1) rfl rfl ?_
  refine q_iadd rfl ?_
  refine q_iaload_s rfl (sc_ix (k := 1) (show i + 1 < X.1 by omega) hL) ?_
  refine q_aload_n rfl rfl ?_
  refine q_iload_n rfl rfl ?_
  refine q_iconst (v := 2) rfl rfl ?_
  refine q_iadd rfl ?_
  refine q_iaload_s rfl (sc_ix (k := 2) (show i + 2 < X.1 by omega) hL) ?_
  refine q_callV2 rfl hx_51 (Nat.le_of_ble_eq_true rfl) (Nat.le_of_ble_eq_true rfl) (e2) ?_
  refine q_icmp_eq rfl (fun hc960 => ?_) (fun hc960 => ?_)
  · exact next _ _ _ _ _ hr2
  · exact absurd rfl hc960
set_option maxRecDepth 100000 in
theorem law_25 {X : XX} {R : XR} {P : Option Value → XH → Prop} {i : Nat} (hL : X.1 ≤ 384) (hi : i + 6 ≤ X.1) (hop : Op_25 X R) {I A : Nat → Nat → Int32} {J B : Nat → Nat → Int64} {F : Nat → Nat} (hr : R I A J B F) (next : ∀ I A J B F, R I A J B F → Wp X xT 8 mL_law 1462 [some (.ref 1000), some (.ref 0), some (.ref 51), some (.int (nI i))] [] (HX I A J B F) P) : Wp X xT 8 mL_law 965 [some (.ref 1000), some (.ref 0), some (.ref 51), some (.int (nI i))] [] (HX I A J B F) P := by
  obtain ⟨r, I1, A1, J1, B1, F1, I2, A2, J2, B2, F2, e1, e2, hr2⟩ := hop (X.2 (nI i + 1).toNatClampNeg) (X.2 (nI i + 2).toNatClampNeg) (X.2 (nI i + 3).toNatClampNeg) _ _ _ _ _ hr
  refine q_aload_n rfl rfl ?_
  refine q_aload_n rfl rfl ?_
  refine q_iload_n rfl rfl ?_
  refine q_iconst (v := 1) rfl rfl ?_
  refine q_iadd rfl ?_
  refine q_iaload_s rfl (sc_ix (k := 1) (show i + 1 < X.1 by omega) hL) ?_
  refine q_aload_n rfl rfl ?_
  refine q_iload_n rfl rfl ?_
  refine q_iconst (v := 2) rfl rfl ?_
  refine q_iadd rfl ?_
  refine q_iaload_s rfl (sc_ix (k := 2) (show i + 2 < X.1 by omega) hL) ?_
  refine q_aload_n rfl rfl ?_
  refine q_iload_n rfl rfl ?_
  refine q_iconst (v := 3) rfl rfl ?_
  refine q_iadd rfl ?_
  refine q_iaload_s rfl (sc_ix (k := 3) (show i + 3 < X.1 by omega) hL) ?_
  refine q_callV3 rfl hx_0 (Nat.le_of_ble_eq_true rfl) (Nat.le_of_ble_eq_true rfl) (e1) ?_
  refine q_aload_n rfl rfl ?_
  refine q_aload_n rfl rfl ?_
  refine q_iload_n rfl rfl ?_
  refine q_iconst (v := 1) rfl rfl ?_
  refine q_iadd rfl ?_
  refine q_iaload_s rfl (sc_ix (k := 1) (show i + 1 < X.1 by omega) hL) ?_
  refine q_aload_n rfl rfl ?_
  refine q_iload_n rfl rfl ?_
  refine q_iconst (v := 2) rfl rfl ?_
  refine q_iadd rfl ?_
  refine q_iaload_s rfl (sc_ix (k := 2) (show i + 2 < X.1 by omega) hL) ?_
  refine q_aload_n rfl rfl ?_
  refine q_iload_n rfl rfl ?_
  refine q_iconst (v := 3) rfl rfl ?_
  refine q_iadd rfl ?_
  refine q_iaload_s rfl (sc_ix (k := 3) (show i + 3 < X.1 by omega) hL) ?_
  refine q_callV3 rfl hx_51 (Nat.le_of_ble_eq_true rfl) (Nat.le_of_ble_eq_true rfl) (e2) ?_
  refine q_icmp_eq rfl (fun hc1003 => ?_) (fun hc1003 => ?_)
  · exact next _ _ _ _ _ hr2
  · exact absurd rfl hc1003
set_option maxRecDepth 100000 in
theorem law_26 {X : XX} {R : XR} {P : Option Value → XH → Prop} {i : Nat} (hL : X.1 ≤ 384) (hi : i + 6 ≤ X.1) (hop : Op_26 X R) {I A : Nat → Nat → Int32} {J B : Nat → Nat → Int64} {F : Nat → Nat} (hr : R I A J B F) (next : ∀ I A J B F, R I A J B F → Wp X xT 8 mL_law 1462 [some (.ref 1000), some (.ref 0), some (.ref 51), some (.int (nI i))] [] (HX I A J B F) P) : Wp X xT 8 mL_law 1008 [some (.ref 1000), some (.ref 0), some (.ref 51), some (.int (nI i))] [] (HX I A J B F) P := by
  obtain ⟨r, I1, A1, J1, B1, F1, I2, A2, J2, B2, F2, e1, e2, hr2⟩ := hop (X.2 (nI i + 1).toNatClampNeg) (X.2 (nI i + 2).toNatClampNeg) _ _ _ _ _ hr
  refine q_aload_n rfl rfl ?_
  refine q_aload_n rfl rfl ?_
  refine q_iload_n rfl rfl ?_
  refine q_iconst (v := 1) rfl rfl ?_
  refine q_iadd rfl ?_
  refine q_iaload_s rfl (sc_ix (k := 1) (show i + 1 < X.1 by omega) hL) ?_
  refine q_aload_n rfl rfl ?_
  refine q_iload_n rfl rfl ?_
  refine q_iconst (v := 2) rfl rfl ?_
  refine q_iadd rfl ?_
  refine q_iaload_s rfl (sc_ix (k := 2) (show i + 2 < X.1 by omega) hL) ?_
  refine q_callV2 rfl hx_0 (Nat.le_of_ble_eq_true rfl) (Nat.le_of_ble_eq_true rfl) (e1) ?_
  refine q_aload_n rfl rfl ?_
  refine q_aload_n rfl rfl ?_
  refine q_iload_n rfl rfl ?_
  refine q_iconst (v := 1) rfl rfl ?_
  refine q_iadd rfl ?_
  refine q_iaload_s rfl (sc_ix (k := 1) (show i + 1 < X.1 by omega) hL) ?_
  refine q_aload_n rfl rfl ?_
  refine q_iload_n rfl rfl ?_
  refine q_iconst (v := 2) rfl rfl ?_
  refine q_iadd rfl ?_
  refine q_iaload_s rfl (sc_ix (k := 2) (show i + 2 < X.1 by omega) hL) ?_
  refine q_callV2 rfl hx_51 (Nat.le_of_ble_eq_true rfl) (Nat.le_of_ble_eq_true rfl) (e2) ?_
  refine q_icmp_eq rfl (fun hc1036 => ?_) (fun hc1036 => ?_)
  · exact next _ _ _ _ _ hr2
  · exact absurd rfl hc1036
set_option maxRecDepth 100000 in
theorem law_27 {X : XX} {R : XR} {P : Option Value → XH → Prop} {i : Nat} (hL : X.1 ≤ 384) (hi : i + 6 ≤ X.1) (hop : Op_27 X R) {I A : Nat → Nat → Int32} {J B : Nat → Nat → Int64} {F : Nat → Nat} (hr : R I A J B F) (next : ∀ I A J B F, R I A J B F → Wp X xT 8 mL_law 1462 [some (.ref 1000), some (.ref 0), some (.ref 51), some (.int (nI i))] [] (HX I A J B F) P) : Wp X xT 8 mL_law 1041 [some (.ref 1000), some (.ref 0), some (.ref 51), some (.int (nI i))] [] (HX I A J B F) P := by
  obtain ⟨r, I1, A1, J1, B1, F1, I2, A2, J2, B2, F2, e1, e2, hr2⟩ := hop (X.2 (nI i + 1).toNatClampNeg) _ _ _ _ _ hr
  refine q_aload_n rfl rfl ?_
  refine q_aload_n rfl rfl ?_
  refine q_iload_n rfl rfl ?_
  refine q_iconst (v := 1) rfl rfl ?_
  refine q_iadd rfl ?_
  refine q_iaload_s rfl (sc_ix (k := 1) (show i + 1 < X.1 by omega) hL) ?_
  refine q_callV1 rfl hx_0 (Nat.le_of_ble_eq_true rfl) (Nat.le_of_ble_eq_true rfl) (e1) ?_
  refine q_aload_n rfl rfl ?_
  refine q_aload_n rfl rfl ?_
  refine q_iload_n rfl rfl ?_
  refine q_iconst (v := 1) rfl rfl ?_
  refine q_iadd rfl ?_
  refine q_iaload_s rfl (sc_ix (k := 1) (show i + 1 < X.1 by omega) hL) ?_
  refine q_callV1 rfl hx_51 (Nat.le_of_ble_eq_true rfl) (Nat.le_of_ble_eq_true rfl) (e2) ?_
  refine q_icmp_eq rfl (fun hc1059 => ?_) (fun hc1059 => ?_)
  · exact next _ _ _ _ _ hr2
  · exact absurd rfl hc1059
set_option maxRecDepth 100000 in
theorem law_28 {X : XX} {R : XR} {P : Option Value → XH → Prop} {i : Nat} (hL : X.1 ≤ 384) (hi : i + 6 ≤ X.1) (hop : Op_28 X R) {I A : Nat → Nat → Int32} {J B : Nat → Nat → Int64} {F : Nat → Nat} (hr : R I A J B F) (next : ∀ I A J B F, R I A J B F → Wp X xT 8 mL_law 1462 [some (.ref 1000), some (.ref 0), some (.ref 51), some (.int (nI i))] [] (HX I A J B F) P) : Wp X xT 8 mL_law 1064 [some (.ref 1000), some (.ref 0), some (.ref 51), some (.int (nI i))] [] (HX I A J B F) P := by
  obtain ⟨r, I1, A1, J1, B1, F1, I2, A2, J2, B2, F2, e1, e2, hr2⟩ := hop (X.2 (nI i + 1).toNatClampNeg) (X.2 (nI i + 2).toNatClampNeg) _ _ _ _ _ hr
  refine q_aload_n rfl rfl ?_
  refine q_aload_n rfl rfl ?_
  refine q_iload_n rfl rfl ?_
  refine q_iconst (v := 1) rfl rfl ?_
  refine q_iadd rfl ?_
  refine q_iaload_s rfl (sc_ix (k := 1) (show i + 1 < X.1 by omega) hL) ?_
  refine q_aload_n rfl rfl ?_
  refine q_iload_n rfl rfl ?_
  refine q_iconst (v := 2) rfl rfl ?_
  refine q_iadd rfl ?_
  refine q_iaload_s rfl (sc_ix (k := 2) (show i + 2 < X.1 by omega) hL) ?_
  refine q_callV2 rfl hx_0 (Nat.le_of_ble_eq_true rfl) (Nat.le_of_ble_eq_true rfl) (e1) ?_
  refine q_aload_n rfl rfl ?_
  refine q_aload_n rfl rfl ?_
  refine q_iload_n rfl rfl ?_
  refine q_iconst (v := 1) rfl rfl ?_
  refine q_iadd rfl ?_
  refine q_iaload_s rfl (sc_ix (k := 1) (show i + 1 < X.1 by omega) hL) ?_
  refine q_aload_n rfl rfl ?_
  refine q_iload_n rfl rfl ?_
  refine q_iconst (v := 2) rfl rfl ?_
  refine q_iadd rfl ?_
  refine q_iaload_s rfl (sc_ix (k := 2) (show i + 2 < X.1 by omega) hL) ?_
  refine q_callV2 rfl hx_51 (Nat.le_of_ble_eq_true rfl) (Nat.le_of_ble_eq_true rfl) (e2) ?_
  refine q_icmp_eq rfl (fun hc1092 => ?_) (fun hc1092 => ?_)
  · exact next _ _ _ _ _ hr2
  · exact absurd rfl hc1092
set_option maxRecDepth 100000 in
theorem law_29 {X : XX} {R : XR} {P : Option Value → XH → Prop} {i : Nat} (hL : X.1 ≤ 384) (hi : i + 6 ≤ X.1) (hop : Op_29 X R) {I A : Nat → Nat → Int32} {J B : Nat → Nat → Int64} {F : Nat → Nat} (hr : R I A J B F) (next : ∀ I A J B F, R I A J B F → Wp X xT 8 mL_law 1462 [some (.ref 1000), some (.ref 0), some (.ref 51), some (.int (nI i))] [] (HX I A J B F) P) : Wp X xT 8 mL_law 1097 [some (.ref 1000), some (.ref 0), some (.ref 51), some (.int (nI i))] [] (HX I A J B F) P := by
  obtain ⟨r, I1, A1, J1, B1, F1, I2, A2, J2, B2, F2, e1, e2, hr2⟩ := hop (X.2 (nI i + 1).toNatClampNeg) (X.2 (nI i + 2).toNatClampNeg) _ _ _ _ _ hr
  refine q_aload_n rfl rfl ?_
  refine q_aload_n rfl rfl ?_
  refine q_iload_n rfl rfl ?_
  refine q_iconst (v := 1) rfl rfl ?_
  refine q_iadd rfl ?_
  refine q_iaload_s rfl (sc_ix (k := 1) (show i + 1 < X.1 by omega) hL) ?_
  refine q_aload_n rfl rfl ?_
  refine q_iload_n rfl rfl ?_
  refine q_iconst (v := 2) rfl rfl ?_
  refine q_iadd rfl ?_
  refine q_iaload_s rfl (sc_ix (k := 2) (show i + 2 < X.1 by omega) hL) ?_
  refine q_callV2 rfl hx_0 (Nat.le_of_ble_eq_true rfl) (Nat.le_of_ble_eq_true rfl) (e1) ?_
  refine q_aload_n rfl rfl ?_
  refine q_aload_n rfl rfl ?_
  refine q_iload_n rfl rfl ?_
  refine q_iconst (v := 1) rfl rfl ?_
  refine q_iadd rfl ?_
  refine q_iaload_s rfl (sc_ix (k := 1) (show i + 1 < X.1 by omega) hL) ?_
  refine q_aload_n rfl rfl ?_
  refine q_iload_n rfl rfl ?_
  refine q_iconst (v := 2) rfl rfl ?_
  refine q_iadd rfl ?_
  refine q_iaload_s rfl (sc_ix (k := 2) (show i + 2 < X.1 by omega) hL) ?_
  refine q_callV2 rfl hx_51 (Nat.le_of_ble_eq_true rfl) (Nat.le_of_ble_eq_true rfl) (e2) ?_
  refine q_icmp_eq rfl (fun hc1125 => ?_) (fun hc1125 => ?_)
  · exact next _ _ _ _ _ hr2
  · exact absurd rfl hc1125
set_option maxRecDepth 100000 in
theorem law_30 {X : XX} {R : XR} {P : Option Value → XH → Prop} {i : Nat} (hL : X.1 ≤ 384) (hi : i + 6 ≤ X.1) (hop : Op_30 X R) {I A : Nat → Nat → Int32} {J B : Nat → Nat → Int64} {F : Nat → Nat} (hr : R I A J B F) (next : ∀ I A J B F, R I A J B F → Wp X xT 8 mL_law 1462 [some (.ref 1000), some (.ref 0), some (.ref 51), some (.int (nI i))] [] (HX I A J B F) P) : Wp X xT 8 mL_law 1130 [some (.ref 1000), some (.ref 0), some (.ref 51), some (.int (nI i))] [] (HX I A J B F) P := by
  obtain ⟨r, I1, A1, J1, B1, F1, I2, A2, J2, B2, F2, e1, e2, hr2⟩ := hop (X.2 (nI i + 1).toNatClampNeg) (X.2 (nI i + 2).toNatClampNeg) _ _ _ _ _ hr
  refine q_aload_n rfl rfl ?_
  refine q_aload_n rfl rfl ?_
  refine q_iload_n rfl rfl ?_
  refine q_iconst (v := 1) rfl rfl ?_
  refine q_iadd rfl ?_
  refine q_iaload_s rfl (sc_ix (k := 1) (show i + 1 < X.1 by omega) hL) ?_
  refine q_aload_n rfl rfl ?_
  refine q_iload_n rfl rfl ?_
  refine q_iconst (v := 2) rfl rfl ?_
  refine q_iadd rfl ?_
  refine q_iaload_s rfl (sc_ix (k := 2) (show i + 2 < X.1 by omega) hL) ?_
  refine q_callV2 rfl hx_0 (Nat.le_of_ble_eq_true rfl) (Nat.le_of_ble_eq_true rfl) (e1) ?_
  refine q_aload_n rfl rfl ?_
  refine q_aload_n rfl rfl ?_
  refine q_iload_n rfl rfl ?_
  refine q_iconst (v := 1) rfl rfl ?_
  refine q_iadd rfl ?_
  refine q_iaload_s rfl (sc_ix (k := 1) (show i + 1 < X.1 by omega) hL) ?_
  refine q_aload_n rfl rfl ?_
  refine q_iload_n rfl rfl ?_
  refine q_iconst (v := 2) rfl rfl ?_
  refine q_iadd rfl ?_
  refine q_iaload_s rfl (sc_ix (k := 2) (show i + 2 < X.1 by omega) hL) ?_
  refine q_callV2 rfl hx_51 (Nat.le_of_ble_eq_true rfl) (Nat.le_of_ble_eq_true rfl) (e2) ?_
  refine q_icmp_eq rfl (fun hc1158 => ?_) (fun hc1158 => ?_)
  · exact next _ _ _ _ _ hr2
  · exact absurd rfl hc1158
set_option maxRecDepth 100000 in
theorem law_31 {X : XX} {R : XR} {P : Option Value → XH → Prop} {i : Nat} (hL : X.1 ≤ 384) (hi : i + 6 ≤ X.1) (hop : Op_31 X R) {I A : Nat → Nat → Int32} {J B : Nat → Nat → Int64} {F : Nat → Nat} (hr : R I A J B F) (next : ∀ I A J B F, R I A J B F → Wp X xT 8 mL_law 1462 [some (.ref 1000), some (.ref 0), some (.ref 51), some (.int (nI i))] [] (HX I A J B F) P) : Wp X xT 8 mL_law 1163 [some (.ref 1000), some (.ref 0), some (.ref 51), some (.int (nI i))] [] (HX I A J B F) P := by
  obtain ⟨r, I1, A1, J1, B1, F1, I2, A2, J2, B2, F2, e1, e2, hr2⟩ := hop (X.2 (nI i + 1).toNatClampNeg) (X.2 (nI i + 2).toNatClampNeg) _ _ _ _ _ hr
  refine q_aload_n rfl rfl ?_
  refine q_aload_n rfl rfl ?_
  refine q_iload_n rfl rfl ?_
  refine q_iconst (v := 1) rfl rfl ?_
  refine q_iadd rfl ?_
  refine q_iaload_s rfl (sc_ix (k := 1) (show i + 1 < X.1 by omega) hL) ?_
  refine q_aload_n rfl rfl ?_
  refine q_iload_n rfl rfl ?_
  refine q_iconst (v := 2) rfl rfl ?_
  refine q_iadd rfl ?_
  refine q_iaload_s rfl (sc_ix (k := 2) (show i + 2 < X.1 by omega) hL) ?_
  refine q_callV2 rfl hx_0 (Nat.le_of_ble_eq_true rfl) (Nat.le_of_ble_eq_true rfl) (e1) ?_
  refine q_aload_n rfl rfl ?_
  refine q_aload_n rfl rfl ?_
  refine q_iload_n rfl rfl ?_
  refine q_iconst (v := 1) rfl rfl ?_
  refine q_iadd rfl ?_
  refine q_iaload_s rfl (sc_ix (k := 1) (show i + 1 < X.1 by omega) hL) ?_
  refine q_aload_n rfl rfl ?_
  refine q_iload_n rfl rfl ?_
  refine q_iconst (v := 2) rfl rfl ?_
  refine q_iadd rfl ?_
  refine q_iaload_s rfl (sc_ix (k := 2) (show i + 2 < X.1 by omega) hL) ?_
  refine q_callV2 rfl hx_51 (Nat.le_of_ble_eq_true rfl) (Nat.le_of_ble_eq_true rfl) (e2) ?_
  refine q_icmp_eq rfl (fun hc1191 => ?_) (fun hc1191 => ?_)
  · exact next _ _ _ _ _ hr2
  · exact absurd rfl hc1191
set_option maxRecDepth 100000 in
theorem law_32 {X : XX} {R : XR} {P : Option Value → XH → Prop} {i : Nat} (hL : X.1 ≤ 384) (hi : i + 6 ≤ X.1) (hop : Op_32 X R) {I A : Nat → Nat → Int32} {J B : Nat → Nat → Int64} {F : Nat → Nat} (hr : R I A J B F) (next : ∀ I A J B F, R I A J B F → Wp X xT 8 mL_law 1462 [some (.ref 1000), some (.ref 0), some (.ref 51), some (.int (nI i))] [] (HX I A J B F) P) : Wp X xT 8 mL_law 1196 [some (.ref 1000), some (.ref 0), some (.ref 51), some (.int (nI i))] [] (HX I A J B F) P := by
  obtain ⟨r, I1, A1, J1, B1, F1, I2, A2, J2, B2, F2, e1, e2, hr2⟩ := hop (X.2 (nI i + 1).toNatClampNeg) (X.2 (nI i + 2).toNatClampNeg) _ _ _ _ _ hr
  refine q_aload_n rfl rfl ?_
  refine q_aload_n rfl rfl ?_
  refine q_iload_n rfl rfl ?_
  refine q_iconst (v := 1) rfl rfl ?_
  refine q_iadd rfl ?_
  refine q_iaload_s rfl (sc_ix (k := 1) (show i + 1 < X.1 by omega) hL) ?_
  refine q_aload_n rfl rfl ?_
  refine q_iload_n rfl rfl ?_
  refine q_iconst (v := 2) rfl rfl ?_
  refine q_iadd rfl ?_
  refine q_iaload_s rfl (sc_ix (k := 2) (show i + 2 < X.1 by omega) hL) ?_
  refine q_callV2 rfl hx_0 (Nat.le_of_ble_eq_true rfl) (Nat.le_of_ble_eq_true rfl) (e1) ?_
  refine q_aload_n rfl rfl ?_
  refine q_aload_n rfl rfl ?_
  refine q_iload_n rfl rfl ?_
  refine q_iconst (v := 1) rfl rfl ?_
  refine q_iadd rfl ?_
  refine q_iaload_s rfl (sc_ix (k := 1) (show i + 1 < X.1 by omega) hL) ?_
  refine q_aload_n rfl rfl ?_
  refine q_iload_n rfl rfl ?_
  refine q_iconst (v := 2) rfl rfl ?_
  refine q_iadd rfl ?_
  refine q_iaload_s rfl (sc_ix (k := 2) (show i + 2 < X.1 by omega) hL) ?_
  refine q_callV2 rfl hx_51 (Nat.le_of_ble_eq_true rfl) (Nat.le_of_ble_eq_true rfl) (e2) ?_
  refine q_icmp_eq rfl (fun hc1224 => ?_) (fun hc1224 => ?_)
  · exact next _ _ _ _ _ hr2
  · exact absurd rfl hc1224
set_option maxRecDepth 100000 in
theorem law_33 {X : XX} {R : XR} {P : Option Value → XH → Prop} {i : Nat} (hL : X.1 ≤ 384) (hi : i + 6 ≤ X.1) (hop : Op_33 X R) {I A : Nat → Nat → Int32} {J B : Nat → Nat → Int64} {F : Nat → Nat} (hr : R I A J B F) (next : ∀ I A J B F, R I A J B F → Wp X xT 8 mL_law 1462 [some (.ref 1000), some (.ref 0), some (.ref 51), some (.int (nI i))] [] (HX I A J B F) P) : Wp X xT 8 mL_law 1229 [some (.ref 1000), some (.ref 0), some (.ref 51), some (.int (nI i))] [] (HX I A J B F) P := by
  obtain ⟨r, I1, A1, J1, B1, F1, I2, A2, J2, B2, F2, e1, e2, hr2⟩ := hop (X.2 (nI i + 1).toNatClampNeg) (X.2 (nI i + 2).toNatClampNeg) (X.2 (nI i + 3).toNatClampNeg) _ _ _ _ _ hr
  refine q_aload_n rfl rfl ?_
  refine q_aload_n rfl rfl ?_
  refine q_iload_n rfl rfl ?_
  refine q_iconst (v := 1) rfl rfl ?_
  refine q_iadd rfl ?_
  refine q_iaload_s rfl (sc_ix (k := 1) (show i + 1 < X.1 by omega) hL) ?_
  refine q_aload_n rfl rfl ?_
  refine q_iload_n rfl rfl ?_
  refine q_iconst (v := 2) rfl rfl ?_
  refine q_iadd rfl ?_
  refine q_iaload_s rfl (sc_ix (k := 2) (show i + 2 < X.1 by omega) hL) ?_
  refine q_aload_n rfl rfl ?_
  refine q_iload_n rfl rfl ?_
  refine q_iconst (v := 3) rfl rfl ?_
  refine q_iadd rfl ?_
  refine q_iaload_s rfl (sc_ix (k := 3) (show i + 3 < X.1 by omega) hL) ?_
  refine q_callV3 rfl hx_0 (Nat.le_of_ble_eq_true rfl) (Nat.le_of_ble_eq_true rfl) (e1) ?_
  refine q_aload_n rfl rfl ?_
  refine q_aload_n rfl rfl ?_
  refine q_iload_n rfl rfl ?_
  refine q_iconst (v := 1) rfl rfl ?_
  refine q_iadd rfl ?_
  refine q_iaload_s rfl (sc_ix (k := 1) (show i + 1 < X.1 by omega) hL) ?_
  refine q_aload_n rfl rfl ?_
  refine q_iload_n rfl rfl ?_
  refine q_iconst (v := 2) rfl rfl ?_
  refine q_iadd rfl ?_
  refine q_iaload_s rfl (sc_ix (k := 2) (show i + 2 < X.1 by omega) hL) ?_
  refine q_aload_n rfl rfl ?_
  refine q_iload_n rfl rfl ?_
  refine q_iconst (v := 3) rfl rfl ?_
  refine q_iadd rfl ?_
  refine q_iaload_s rfl (sc_ix (k := 3) (show i + 3 < X.1 by omega) hL) ?_
  refine q_callV3 rfl hx_51 (Nat.le_of_ble_eq_true rfl) (Nat.le_of_ble_eq_true rfl) (e2) ?_
  refine q_icmp_eq rfl (fun hc1267 => ?_) (fun hc1267 => ?_)
  · exact next _ _ _ _ _ hr2
  · exact absurd rfl hc1267
set_option maxRecDepth 100000 in
theorem law_34 {X : XX} {R : XR} {P : Option Value → XH → Prop} {i : Nat} (hL : X.1 ≤ 384) (hi : i + 6 ≤ X.1) (hop : Op_34 X R) {I A : Nat → Nat → Int32} {J B : Nat → Nat → Int64} {F : Nat → Nat} (hr : R I A J B F) (next : ∀ I A J B F, R I A J B F → Wp X xT 8 mL_law 1462 [some (.ref 1000), some (.ref 0), some (.ref 51), some (.int (nI i))] [] (HX I A J B F) P) : Wp X xT 8 mL_law 1272 [some (.ref 1000), some (.ref 0), some (.ref 51), some (.int (nI i))] [] (HX I A J B F) P := by
  obtain ⟨r, I1, A1, J1, B1, F1, I2, A2, J2, B2, F2, e1, e2, hr2⟩ := hop (X.2 (nI i + 1).toNatClampNeg) (X.2 (nI i + 2).toNatClampNeg) (X.2 (nI i + 3).toNatClampNeg) _ _ _ _ _ hr
  refine q_aload_n rfl rfl ?_
  refine q_aload_n rfl rfl ?_
  refine q_iload_n rfl rfl ?_
  refine q_iconst (v := 1) rfl rfl ?_
  refine q_iadd rfl ?_
  refine q_iaload_s rfl (sc_ix (k := 1) (show i + 1 < X.1 by omega) hL) ?_
  refine q_aload_n rfl rfl ?_
  refine q_iload_n rfl rfl ?_
  refine q_iconst (v := 2) rfl rfl ?_
  refine q_iadd rfl ?_
  refine q_iaload_s rfl (sc_ix (k := 2) (show i + 2 < X.1 by omega) hL) ?_
  refine q_aload_n rfl rfl ?_
  refine q_iload_n rfl rfl ?_
  refine q_iconst (v := 3) rfl rfl ?_
  refine q_iadd rfl ?_
  refine q_iaload_s rfl (sc_ix (k := 3) (show i + 3 < X.1 by omega) hL) ?_
  refine q_callV3 rfl hx_0 (Nat.le_of_ble_eq_true rfl) (Nat.le_of_ble_eq_true rfl) (e1) ?_
  refine q_aload_n rfl rfl ?_
  refine q_aload_n rfl rfl ?_
  refine q_iload_n rfl rfl ?_
  refine q_iconst (v := 1) rfl rfl ?_
  refine q_iadd rfl ?_
  refine q_iaload_s rfl (sc_ix (k := 1) (show i + 1 < X.1 by omega) hL) ?_
  refine q_aload_n rfl rfl ?_
  refine q_iload_n rfl rfl ?_
  refine q_iconst (v := 2) rfl rfl ?_
  refine q_iadd rfl ?_
  refine q_iaload_s rfl (sc_ix (k := 2) (show i + 2 < X.1 by omega) hL) ?_
  refine q_aload_n rfl rfl ?_
  refine q_iload_n rfl rfl ?_
  refine q_iconst (v := 3) rfl rfl ?_
  refine q_iadd rfl ?_
  refine q_iaload_s rfl (sc_ix (k := 3) (show i + 3 < X.1 by omega) hL) ?_
  refine q_callV3 rfl hx_51 (Nat.le_of_ble_eq_true rfl) (Nat.le_of_ble_eq_true rfl) (e2) ?_
  refine q_icmp_eq rfl (fun hc1310 => ?_) (fun hc1310 => ?_)
  · exact next _ _ _ _ _ hr2
  · exact absurd rfl hc1310
set_option maxRecDepth 100000 in
theorem law_35 {X : XX} {R : XR} {P : Option Value → XH → Prop} {i : Nat} (hL : X.1 ≤ 384) (hi : i + 6 ≤ X.1) (hop : Op_35 X R) {I A : Nat → Nat → Int32} {J B : Nat → Nat → Int64} {F : Nat → Nat} (hr : R I A J B F) (next : ∀ I A J B F, R I A J B F → Wp X xT 8 mL_law 1462 [some (.ref 1000), some (.ref 0), some (.ref 51), some (.int (nI i))] [] (HX I A J B F) P) : Wp X xT 8 mL_law 1315 [some (.ref 1000), some (.ref 0), some (.ref 51), some (.int (nI i))] [] (HX I A J B F) P := by
  obtain ⟨r, I1, A1, J1, B1, F1, I2, A2, J2, B2, F2, e1, e2, hr2⟩ := hop (X.2 (nI i + 1).toNatClampNeg) (X.2 (nI i + 2).toNatClampNeg) _ _ _ _ _ hr
  refine q_aload_n rfl rfl ?_
  refine q_aload_n rfl rfl ?_
  refine q_iload_n rfl rfl ?_
  refine q_iconst (v := 1) rfl rfl ?_
  refine q_iadd rfl ?_
  refine q_iaload_s rfl (sc_ix (k := 1) (show i + 1 < X.1 by omega) hL) ?_
  refine q_aload_n rfl rfl ?_
  refine q_iload_n rfl rfl ?_
  refine q_iconst (v := 2) rfl rfl ?_
  refine q_iadd rfl ?_
  refine q_iaload_s rfl (sc_ix (k := 2) (show i + 2 < X.1 by omega) hL) ?_
  refine q_callV2 rfl hx_0 (Nat.le_of_ble_eq_true rfl) (Nat.le_of_ble_eq_true rfl) (e1) ?_
  refine q_aload_n rfl rfl ?_
  refine q_aload_n rfl rfl ?_
  refine q_iload_n rfl rfl ?_
  refine q_iconst (v := 1) rfl rfl ?_
  refine q_iadd rfl ?_
  refine q_iaload_s rfl (sc_ix (k := 1) (show i + 1 < X.1 by omega) hL) ?_
  refine q_aload_n rfl rfl ?_
  refine q_iload_n rfl rfl ?_
  refine q_iconst (v := 2) rfl rfl ?_
  refine q_iadd rfl ?_
  refine q_iaload_s rfl (sc_ix (k := 2) (show i + 2 < X.1 by omega) hL) ?_
  refine q_callV2 rfl hx_51 (Nat.le_of_ble_eq_true rfl) (Nat.le_of_ble_eq_true rfl) (e2) ?_
  refine q_icmp_eq rfl (fun hc1343 => ?_) (fun hc1343 => ?_)
  · exact next _ _ _ _ _ hr2
  · exact absurd rfl hc1343
set_option maxRecDepth 100000 in
theorem law_36 {X : XX} {R : XR} {P : Option Value → XH → Prop} {i : Nat} (hL : X.1 ≤ 384) (hi : i + 6 ≤ X.1) (hop : Op_36 X R) {I A : Nat → Nat → Int32} {J B : Nat → Nat → Int64} {F : Nat → Nat} (hr : R I A J B F) (next : ∀ I A J B F, R I A J B F → Wp X xT 8 mL_law 1462 [some (.ref 1000), some (.ref 0), some (.ref 51), some (.int (nI i))] [] (HX I A J B F) P) : Wp X xT 8 mL_law 1348 [some (.ref 1000), some (.ref 0), some (.ref 51), some (.int (nI i))] [] (HX I A J B F) P := by
  obtain ⟨r, I1, A1, J1, B1, F1, I2, A2, J2, B2, F2, e1, e2, hr2⟩ := hop  _ _ _ _ _ hr
  refine q_aload_n rfl rfl ?_
  refine q_callV0 rfl hx_0 (Nat.le_of_ble_eq_true rfl) (Nat.le_of_ble_eq_true rfl) (e1) ?_
  refine q_aload_n rfl rfl ?_
  refine q_callV0 rfl hx_51 (Nat.le_of_ble_eq_true rfl) (Nat.le_of_ble_eq_true rfl) (e2) ?_
  refine q_icmp_eq rfl (fun hc1356 => ?_) (fun hc1356 => ?_)
  · exact next _ _ _ _ _ hr2
  · exact absurd rfl hc1356
set_option maxRecDepth 100000 in
theorem law_37 {X : XX} {R : XR} {P : Option Value → XH → Prop} {i : Nat} (hL : X.1 ≤ 384) (hi : i + 6 ≤ X.1) (hop : Op_37 X R) {I A : Nat → Nat → Int32} {J B : Nat → Nat → Int64} {F : Nat → Nat} (hr : R I A J B F) (next : ∀ I A J B F, R I A J B F → Wp X xT 8 mL_law 1462 [some (.ref 1000), some (.ref 0), some (.ref 51), some (.int (nI i))] [] (HX I A J B F) P) : Wp X xT 8 mL_law 1361 [some (.ref 1000), some (.ref 0), some (.ref 51), some (.int (nI i))] [] (HX I A J B F) P := by
  obtain ⟨r, I1, A1, J1, B1, F1, I2, A2, J2, B2, F2, e1, e2, hr2⟩ := hop  _ _ _ _ _ hr
  refine q_aload_n rfl rfl ?_
  refine q_callV0 rfl hx_0 (Nat.le_of_ble_eq_true rfl) (Nat.le_of_ble_eq_true rfl) (e1) ?_
  refine q_aload_n rfl rfl ?_
  refine q_callV0 rfl hx_51 (Nat.le_of_ble_eq_true rfl) (Nat.le_of_ble_eq_true rfl) (e2) ?_
  refine q_lcmp rfl ?_
  refine q_if_eq rfl (fun hc1370 => ?_) (fun hc1370 => ?_)
  · exact next _ _ _ _ _ hr2
  · exact absurd (by simp [lg_cmp]) hc1370
set_option maxRecDepth 100000 in
theorem law_38 {X : XX} {R : XR} {P : Option Value → XH → Prop} {i : Nat} (hL : X.1 ≤ 384) (hi : i + 6 ≤ X.1) (hop : Op_38 X R) {I A : Nat → Nat → Int32} {J B : Nat → Nat → Int64} {F : Nat → Nat} (hr : R I A J B F) (next : ∀ I A J B F, R I A J B F → Wp X xT 8 mL_law 1462 [some (.ref 1000), some (.ref 0), some (.ref 51), some (.int (nI i))] [] (HX I A J B F) P) : Wp X xT 8 mL_law 1375 [some (.ref 1000), some (.ref 0), some (.ref 51), some (.int (nI i))] [] (HX I A J B F) P := by
  obtain ⟨r, I1, A1, J1, B1, F1, I2, A2, J2, B2, F2, e1, e2, hr2⟩ := hop  _ _ _ _ _ hr
  refine q_aload_n rfl rfl ?_
  refine q_callV0 rfl hx_0 (Nat.le_of_ble_eq_true rfl) (Nat.le_of_ble_eq_true rfl) (e1) ?_
  refine q_aload_n rfl rfl ?_
  refine q_callV0 rfl hx_51 (Nat.le_of_ble_eq_true rfl) (Nat.le_of_ble_eq_true rfl) (e2) ?_
  refine q_lcmp rfl ?_
  refine q_if_eq rfl (fun hc1384 => ?_) (fun hc1384 => ?_)
  · exact next _ _ _ _ _ hr2
  · exact absurd (by simp [lg_cmp]) hc1384
set_option maxRecDepth 100000 in
theorem law_39 {X : XX} {R : XR} {P : Option Value → XH → Prop} {i : Nat} (hL : X.1 ≤ 384) (hi : i + 6 ≤ X.1) (hop : Op_39 X R) {I A : Nat → Nat → Int32} {J B : Nat → Nat → Int64} {F : Nat → Nat} (hr : R I A J B F) (next : ∀ I A J B F, R I A J B F → Wp X xT 8 mL_law 1462 [some (.ref 1000), some (.ref 0), some (.ref 51), some (.int (nI i))] [] (HX I A J B F) P) : Wp X xT 8 mL_law 1389 [some (.ref 1000), some (.ref 0), some (.ref 51), some (.int (nI i))] [] (HX I A J B F) P := by
  obtain ⟨r, I1, A1, J1, B1, F1, I2, A2, J2, B2, F2, e1, e2, hr2⟩ := hop (X.2 (nI i + 1).toNatClampNeg) _ _ _ _ _ hr
  refine q_aload_n rfl rfl ?_
  refine q_aload_n rfl rfl ?_
  refine q_iload_n rfl rfl ?_
  refine q_iconst (v := 1) rfl rfl ?_
  refine q_iadd rfl ?_
  refine q_iaload_s rfl (sc_ix (k := 1) (show i + 1 < X.1 by omega) hL) ?_
  refine q_callV1 rfl hx_0 (Nat.le_of_ble_eq_true rfl) (Nat.le_of_ble_eq_true rfl) (e1) ?_
  refine q_aload_n rfl rfl ?_
  refine q_aload_n rfl rfl ?_
  refine q_iload_n rfl rfl ?_
  refine q_iconst (v := 1) rfl rfl ?_
  refine q_iadd rfl ?_
  refine q_iaload_s rfl (sc_ix (k := 1) (show i + 1 < X.1 by omega) hL) ?_
  refine q_callV1 rfl hx_51 (Nat.le_of_ble_eq_true rfl) (Nat.le_of_ble_eq_true rfl) (e2) ?_
  refine q_icmp_eq rfl (fun hc1407 => ?_) (fun hc1407 => ?_)
  · exact next _ _ _ _ _ hr2
  · exact absurd rfl hc1407
set_option maxRecDepth 100000 in
theorem law_40 {X : XX} {R : XR} {P : Option Value → XH → Prop} {i : Nat} (hL : X.1 ≤ 384) (hi : i + 6 ≤ X.1) (hop : Op_40 X R) {I A : Nat → Nat → Int32} {J B : Nat → Nat → Int64} {F : Nat → Nat} (hr : R I A J B F) (next : ∀ I A J B F, R I A J B F → Wp X xT 8 mL_law 1462 [some (.ref 1000), some (.ref 0), some (.ref 51), some (.int (nI i))] [] (HX I A J B F) P) : Wp X xT 8 mL_law 1412 [some (.ref 1000), some (.ref 0), some (.ref 51), some (.int (nI i))] [] (HX I A J B F) P := by
  obtain ⟨r, I1, A1, J1, B1, F1, I2, A2, J2, B2, F2, e1, e2, hr2⟩ := hop  _ _ _ _ _ hr
  refine q_aload_n rfl rfl ?_
  refine q_callV0 rfl hx_0 (Nat.le_of_ble_eq_true rfl) (Nat.le_of_ble_eq_true rfl) (e1) ?_
  refine q_aload_n rfl rfl ?_
  refine q_callV0 rfl hx_51 (Nat.le_of_ble_eq_true rfl) (Nat.le_of_ble_eq_true rfl) (e2) ?_
  refine q_icmp_eq rfl (fun hc1420 => ?_) (fun hc1420 => ?_)
  · exact next _ _ _ _ _ hr2
  · exact absurd rfl hc1420
set_option maxRecDepth 100000 in
theorem law_41 {X : XX} {R : XR} {P : Option Value → XH → Prop} {i : Nat} (hL : X.1 ≤ 384) (hi : i + 6 ≤ X.1) (hop : Op_41 X R) {I A : Nat → Nat → Int32} {J B : Nat → Nat → Int64} {F : Nat → Nat} (hr : R I A J B F) (next : ∀ I A J B F, R I A J B F → Wp X xT 8 mL_law 1462 [some (.ref 1000), some (.ref 0), some (.ref 51), some (.int (nI i))] [] (HX I A J B F) P) : Wp X xT 8 mL_law 1425 [some (.ref 1000), some (.ref 0), some (.ref 51), some (.int (nI i))] [] (HX I A J B F) P := by
  obtain ⟨r, I1, A1, J1, B1, F1, I2, A2, J2, B2, F2, e1, e2, hr2⟩ := hop (X.2 (nI i + 1).toNatClampNeg) _ _ _ _ _ hr
  refine q_aload_n rfl rfl ?_
  refine q_aload_n rfl rfl ?_
  refine q_iload_n rfl rfl ?_
  refine q_iconst (v := 1) rfl rfl ?_
  refine q_iadd rfl ?_
  refine q_iaload_s rfl (sc_ix (k := 1) (show i + 1 < X.1 by omega) hL) ?_
  refine q_callV1 rfl hx_0 (Nat.le_of_ble_eq_true rfl) (Nat.le_of_ble_eq_true rfl) (e1) ?_
  refine q_aload_n rfl rfl ?_
  refine q_aload_n rfl rfl ?_
  refine q_iload_n rfl rfl ?_
  refine q_iconst (v := 1) rfl rfl ?_
  refine q_iadd rfl ?_
  refine q_iaload_s rfl (sc_ix (k := 1) (show i + 1 < X.1 by omega) hL) ?_
  refine q_callV1 rfl hx_51 (Nat.le_of_ble_eq_true rfl) (Nat.le_of_ble_eq_true rfl) (e2) ?_
  refine q_icmp_eq rfl (fun hc1443 => ?_) (fun hc1443 => ?_)
  · exact next _ _ _ _ _ hr2
  · exact absurd rfl hc1443
set_option maxRecDepth 100000 in
theorem law_42 {X : XX} {R : XR} {P : Option Value → XH → Prop} {i : Nat} (hL : X.1 ≤ 384) (hi : i + 6 ≤ X.1) (hop : Op_42 X R) {I A : Nat → Nat → Int32} {J B : Nat → Nat → Int64} {F : Nat → Nat} (hr : R I A J B F) (next : ∀ I A J B F, R I A J B F → Wp X xT 8 mL_law 1462 [some (.ref 1000), some (.ref 0), some (.ref 51), some (.int (nI i))] [] (HX I A J B F) P) : Wp X xT 8 mL_law 1448 [some (.ref 1000), some (.ref 0), some (.ref 51), some (.int (nI i))] [] (HX I A J B F) P := by
  obtain ⟨r, I1, A1, J1, B1, F1, I2, A2, J2, B2, F2, e1, e2, hr2⟩ := hop  _ _ _ _ _ hr
  refine q_aload_n rfl rfl ?_
  refine q_callV0 rfl hx_0 (Nat.le_of_ble_eq_true rfl) (Nat.le_of_ble_eq_true rfl) (e1) ?_
  refine q_aload_n rfl rfl ?_
  refine q_callV0 rfl hx_51 (Nat.le_of_ble_eq_true rfl) (Nat.le_of_ble_eq_true rfl) (e2) ?_
  refine q_lcmp rfl ?_
  refine q_if_eq rfl (fun hc1457 => ?_) (fun hc1457 => ?_)
  · exact next _ _ _ _ _ hr2
  · exact absurd (by simp [lg_cmp]) hc1457
def OpsAll (X : XX) (R : XR) : Prop := Op_0 X R ∧ Op_1 X R ∧ Op_2 X R ∧ Op_3 X R ∧ Op_4 X R ∧ Op_5 X R ∧ Op_6 X R ∧ Op_7 X R ∧ Op_8 X R ∧ Op_9 X R ∧ Op_10 X R ∧ Op_11 X R ∧ Op_12 X R ∧ Op_13 X R ∧ Op_14 X R ∧ Op_15 X R ∧ Op_16 X R ∧ Op_17 X R ∧ Op_18 X R ∧ Op_19 X R ∧ Op_20 X R ∧ Op_21 X R ∧ Op_22 X R ∧ Op_23 X R ∧ Op_24 X R ∧ Op_25 X R ∧ Op_26 X R ∧ Op_27 X R ∧ Op_28 X R ∧ Op_29 X R ∧ Op_30 X R ∧ Op_31 X R ∧ Op_32 X R ∧ Op_33 X R ∧ Op_34 X R ∧ Op_35 X R ∧ Op_36 X R ∧ Op_37 X R ∧ Op_38 X R ∧ Op_39 X R ∧ Op_40 X R ∧ Op_41 X R ∧ Op_42 X R
theorem lw_cut {i L : Nat} (hL : L ≤ 384) (hi : i ≤ 390) (h : ¬ nI L - 6 < nI i) : i + 6 ≤ L := by
  apply Classical.byContradiction
  intro hn
  apply h
  rw [Int32.lt_iff_toInt_lt, nI_toInt (by omega)]
  have e1 := pk_sub_toInt (a := L) (b := 6) (by omega) (by omega)
  have e2 : nI L - 6 = nI L - nI 6 := rfl
  rw [e2, e1]
  omega
