/-! THE LAW'S LOOP, over any relation that every pair of calls keeps -/
abbrev XR : Type := (Nat → Nat → Int32) → (Nat → Nat → Int32) → (Nat → Nat → Int64) → (Nat → Nat → Int64) → (Nat → Nat) → Prop
def OpI (X : XX) (R : XR) (μx μm : Nat) (as : List Value) : Prop := ∀ I A J B F, R I A J B F → ∃ (r : Int32) (I1 A1 : Nat → Nat → Int32) (J1 B1 : Nat → Nat → Int64) (F1 : Nat → Nat) (I2 A2 : Nat → Nat → Int32) (J2 B2 : Nat → Nat → Int64) (F2 : Nat → Nat), x_ev X xT 7 μx (.ref 0 :: as) (HX I A J B F) (some (.int r)) (HX I1 A1 J1 B1 F1) ∧ x_ev X xT 7 μm (.ref 51 :: as) (HX I1 A1 J1 B1 F1) (some (.int r)) (HX I2 A2 J2 B2 F2) ∧ R I2 A2 J2 B2 F2
def OpJ (X : XX) (R : XR) (μx μm : Nat) (as : List Value) : Prop := ∀ I A J B F, R I A J B F → ∃ (r : Int64) (I1 A1 : Nat → Nat → Int32) (J1 B1 : Nat → Nat → Int64) (F1 : Nat → Nat) (I2 A2 : Nat → Nat → Int32) (J2 B2 : Nat → Nat → Int64) (F2 : Nat → Nat), x_ev X xT 7 μx (.ref 0 :: as) (HX I A J B F) (some (.long r)) (HX I1 A1 J1 B1 F1) ∧ x_ev X xT 7 μm (.ref 51 :: as) (HX I1 A1 J1 B1 F1) (some (.long r)) (HX I2 A2 J2 B2 F2) ∧ R I2 A2 J2 B2 F2
theorem sc_ix {i k L : Nat} (hk : i + k < L) (hL : L ≤ 384) : ¬ (nI i + nI k < 0 ∨ L ≤ (nI i + nI k).toNatClampNeg) := by
  rw [nI_add]
  exact f_ixk hk (by omega)
def Op_0 (X : XX) (R : XR) : Prop := ∀ a1 a2 : Int32, OpI X R 80 155 [.int a1, .int a2]
def Op_1 (X : XX) (R : XR) : Prop := ∀ a1 a2 a3 : Int32, OpI X R 81 158 [.int a1, .int a2, .int a3]
def Op_2 (X : XX) (R : XR) : Prop := ∀ a1 a2 : Int32, OpI X R 82 159 [.int a1, .int a2]
def Op_3 (X : XX) (R : XR) : Prop := ∀ a1 : Int32, OpI X R 83 160 [.int a1]
def Op_4 (X : XX) (R : XR) : Prop := ∀ a1 a2 a3 a4 a5 : Int32, OpI X R 84 162 [.int a1, .int a2, .int a3, .int a4, .int a5]
def Op_5 (X : XX) (R : XR) : Prop := ∀ a1 : Int32, OpI X R 85 163 [.int a1]
def Op_6 (X : XX) (R : XR) : Prop := ∀ a1 a2 : Int32, OpI X R 86 164 [.int a1, .int a2]
def Op_7 (X : XX) (R : XR) : Prop := ∀ a1 a2 a3 : Int32, OpI X R 87 165 [.int a1, .int a2, .int a3]
def Op_8 (X : XX) (R : XR) : Prop := ∀ a1 : Int32, OpI X R 88 174 [.int a1]
def Op_9 (X : XX) (R : XR) : Prop := ∀ a1 : Int32, OpI X R 89 175 [.int a1]
def Op_10 (X : XX) (R : XR) : Prop := ∀ a1 a2 : Int32, OpI X R 90 187 [.int a1, .int a2]
def Op_11 (X : XX) (R : XR) : Prop := ∀ a1 a2 : Int32, OpI X R 91 193 [.int a1, .int a2]
def Op_12 (X : XX) (R : XR) : Prop := OpI X R 92 196 []
def Op_13 (X : XX) (R : XR) : Prop := ∀ a1 : Int32, OpI X R 93 199 [.int a1]
def Op_14 (X : XX) (R : XR) : Prop := ∀ a1 : Int32, OpI X R 94 200 [.int a1]
def Op_15 (X : XX) (R : XR) : Prop := ∀ a1 : Int32, OpI X R 95 202 [.int a1]
def Op_16 (X : XX) (R : XR) : Prop := ∀ a1 : Int32, OpI X R 96 203 [.int a1]
def Op_17 (X : XX) (R : XR) : Prop := ∀ a1 a2 : Int32, OpI X R 97 205 [.int a1, .int a2]
def Op_18 (X : XX) (R : XR) : Prop := ∀ a1 a2 : Int32, OpI X R 98 206 [.int a1, .int a2]
def Op_19 (X : XX) (R : XR) : Prop := ∀ a1 : Int32, OpI X R 99 207 [.int a1]
def Op_20 (X : XX) (R : XR) : Prop := ∀ a1 : Int32, OpI X R 100 208 [.int a1]
def Op_21 (X : XX) (R : XR) : Prop := ∀ a1 : Int32, OpI X R 101 210 [.int a1]
def Op_22 (X : XX) (R : XR) : Prop := ∀ a1 : Int32, OpI X R 102 211 [.int a1]
def Op_23 (X : XX) (R : XR) : Prop := ∀ a1 a2 a3 : Int32, OpI X R 103 216 [.int a1, .int a2, .int a3]
def Op_24 (X : XX) (R : XR) : Prop := ∀ a1 a2 : Int32, OpI X R 104 217 [.int a1, .int a2]
def Op_25 (X : XX) (R : XR) : Prop := ∀ a1 a2 a3 : Int32, OpI X R 105 218 [.int a1, .int a2, .int a3]
def Op_26 (X : XX) (R : XR) : Prop := ∀ a1 a2 : Int32, OpI X R 106 221 [.int a1, .int a2]
def Op_27 (X : XX) (R : XR) : Prop := ∀ a1 : Int32, OpI X R 107 224 [.int a1]
def Op_28 (X : XX) (R : XR) : Prop := ∀ a1 a2 : Int32, OpI X R 108 227 [.int a1, .int a2]
def Op_29 (X : XX) (R : XR) : Prop := ∀ a1 a2 : Int32, OpI X R 109 228 [.int a1, .int a2]
def Op_30 (X : XX) (R : XR) : Prop := ∀ a1 a2 : Int32, OpI X R 110 229 [.int a1, .int a2]
def Op_31 (X : XX) (R : XR) : Prop := ∀ a1 a2 : Int32, OpI X R 111 230 [.int a1, .int a2]
def Op_32 (X : XX) (R : XR) : Prop := ∀ a1 a2 : Int32, OpI X R 112 232 [.int a1, .int a2]
def Op_33 (X : XX) (R : XR) : Prop := ∀ a1 a2 a3 : Int32, OpI X R 113 237 [.int a1, .int a2, .int a3]
def Op_34 (X : XX) (R : XR) : Prop := ∀ a1 a2 a3 : Int32, OpI X R 114 238 [.int a1, .int a2, .int a3]
def Op_35 (X : XX) (R : XR) : Prop := ∀ a1 a2 : Int32, OpI X R 115 239 [.int a1, .int a2]
def Op_36 (X : XX) (R : XR) : Prop := OpI X R 116 240 []
def Op_37 (X : XX) (R : XR) : Prop := OpJ X R 117 241 []
def Op_38 (X : XX) (R : XR) : Prop := OpJ X R 118 242 []
def Op_39 (X : XX) (R : XR) : Prop := ∀ a1 : Int32, OpI X R 119 246 [.int a1]
def Op_40 (X : XX) (R : XR) : Prop := OpI X R 120 247 []
def Op_41 (X : XX) (R : XR) : Prop := ∀ a1 : Int32, OpI X R 121 248 [.int a1]
def Op_42 (X : XX) (R : XR) : Prop := OpJ X R 122 249 []
set_option maxRecDepth 100000 in
theorem law_0 {X : XX} {R : XR} {P : Option Value → XH → Prop} {i : Nat} (hL : X.1 ≤ 384) (hi : i + 6 ≤ X.1) (hop : Op_0 X R) {I A : Nat → Nat → Int32} {J B : Nat → Nat → Int64} {F : Nat → Nat} (hr : R I A J B F) (next : ∀ I A J B F, R I A J B F → Wp X xT 8 mL_law 1462 [some (.ref 1000), some (.ref 0), some (.ref 51), some (.int (nI i))] [] (HX I A J B F) P) : Wp X xT 8 mL_law 220 [some (.ref 1000), some (.ref 0), some (.ref 51), some (.int (nI i))] [] (HX I A J B F) P := by
  obtain ⟨r, I1, A1, J1, B1, F1, I2, A2, J2, B2, F2, e1, e2, hr2⟩ := hop (X.2 (nI i + 1).toNatClampNeg) (X.2 (nI i + 2).toNatClampNeg) _ _ _ _ _ hr
  refine q_aload_n rfl rfl ?_
  refine q_aload_n rfl rfl ?_
  refine q_iload_n rfl rfl ?_
  refine q_iconst (v := 1) rfl rfl ?_
  refine q_iadd rfl ?_
  refine q_iaload_s rfl (sc_ix (k := 1) (show i + 1 < X.1 by omega) hL) ?_
  refine q_aload_n rfl rfl ?_
  refine q_iload_n rfl rfl ?_
  refine q_iconst (v := 2) rfl rfl ?_
  refine q_iadd rfl ?_
  refine q_iaload_s rfl (sc_ix (k := 2) (show i + 2 < X.1 by omega) hL) ?_
  refine q_callV2 rfl hx_0 (Nat.le_of_ble_eq_true rfl) (Nat.le_of_ble_eq_true rfl) (e1) ?_
  refine q_aload_n rfl rfl ?_
  refine q_aload_n rfl rfl ?_
  refine q_iload_n rfl rfl ?_
  refine q_iconst (v := 1) rfl rfl ?_
  refine q_iadd rfl ?_
  refine q_iaload_s rfl (sc_ix (k := 1) (show i + 1 < X.1 by omega) hL) ?_
  refine q_aload_n rfl rfl ?_
  refine q_iload_n rfl rfl ?_
  refine q_iconst (v := 2) rfl rfl ?_
  refine q_iadd rfl ?_
  refine q_iaload_s rfl (sc_ix (k := 2) (show i + 2 < X.1 by omega) hL) ?_
  refine q_callV2 rfl hx_51 (Nat.le_of_ble_eq_true rfl) (Nat.le_of_ble_eq_true rfl) (e2) ?_
  refine q_icmp_eq rfl (fun hc248 => ?_) (fun hc248 => ?_)
  · exact next _ _ _ _ _ hr2
  · exact absurd rfl hc248
set_option maxRecDepth 100000 in
theorem law_1 {X : XX} {R : XR} {P : Option Value → XH → Prop} {i : Nat} (hL : X.1 ≤ 384) (hi : i + 6 ≤ X.1) (hop : Op_1 X R) {I A : Nat → Nat → Int32} {J B : Nat → Nat → Int64} {F : Nat → Nat} (hr : R I A J B F) (next : ∀ I A J B F, R I A J B F → Wp X xT 8 mL_law 1462 [some (.ref 1000), some (.ref 0), some (.ref 51), some (.int (nI i))] [] (HX I A J B F) P) : Wp X xT 8 mL_law 253 [some (.ref 1000), some (.ref 0), some (.ref 51), some (.int (nI i))] [] (HX I A J B F) P := by
  obtain ⟨r, I1, A1, J1, B1, F1, I2, A2, J2, B2, F2, e1, e2, hr2⟩ := hop (X.2 (nI i + 1).toNatClampNeg) (X.2 (nI i + 2).toNatClampNeg) (X.2 (nI i + 3).toNatClampNeg) _ _ _ _ _ hr
  refine q_aload_n rfl rfl ?_
  refine q_aload_n rfl rfl ?_
  refine q_iload_n rfl rfl ?_
  refine q_iconst (v := 1) rfl rfl ?_
  refine q_iadd rfl ?_
  refine q_iaload_s rfl (sc_ix (k := 1) (show i + 1 < X.1 by omega) hL) ?_
  refine q_aload_n rfl rfl ?_
  refine q_iload_n rfl rfl ?_
  refine q_iconst (v := 2) rfl rfl ?_
  refine q_iadd rfl ?_
  refine q_iaload_s rfl (sc_ix (k := 2) (show i + 2 < X.1 by omega) hL) ?_
  refine q_aload_n rfl rfl ?_
  refine q_iload_n rfl rfl ?_
  refine q_iconst (v := 3) rfl rfl ?_
  refine q_iadd rfl ?_
  refine q_iaload_s rfl (sc_ix (k := 3) (show i + 3 < X.1 by omega) hL) ?_
  refine q_callV3 rfl hx_0 (Nat.le_of_ble_eq_true rfl) (Nat.le_of_ble_eq_true rfl) (e1) ?_
  refine q_aload_n rfl rfl ?_
  refine q_aload_n rfl rfl ?_
  refine q_iload_n rfl rfl ?_
  refine q_iconst (v := 1) rfl rfl ?_
  refine q_iadd rfl ?_
  refine q_iaload_s rfl (sc_ix (k := 1) (show i + 1 < X.1 by omega) hL) ?_
  refine q_aload_n rfl rfl ?_
  refine q_iload_n rfl rfl ?_
  refine q_iconst (v := 2) rfl rfl ?_
  refine q_iadd rfl ?_
  refine q_iaload_s rfl (sc_ix (k := 2) (show i + 2 < X.1 by omega) hL) ?_
  refine q_aload_n rfl rfl ?_
  refine q_iload_n rfl rfl ?_
  refine q_iconst (v := 3) rfl rfl ?_
  refine q_iadd rfl ?_
  refine q_iaload_s rfl (sc_ix (k := 3) (show i + 3 < X.1 by omega) hL) ?_
  refine q_callV3 rfl hx_51 (Nat.le_of_ble_eq_true rfl) (Nat.le_of_ble_eq_true rfl) (e2) ?_
  refine q_icmp_eq rfl (fun hc291 => ?_) (fun hc291 => ?_)
  · exact next _ _ _ _ _ hr2
  · exact absurd rfl hc291
set_option maxRecDepth 100000 in
theorem law_2 {X : XX} {R : XR} {P : Option Value → XH → Prop} {i : Nat} (hL : X.1 ≤ 384) (hi : i + 6 ≤ X.1) (hop : Op_2 X R) {I A : Nat → Nat → Int32} {J B : Nat → Nat → Int64} {F : Nat → Nat} (hr : R I A J B F) (next : ∀ I A J B F, R I A J B F → Wp X xT 8 mL_law 1462 [some (.ref 1000), some (.ref 0), some (.ref 51), some (.int (nI i))] [] (HX I A J B F) P) : Wp X xT 8 mL_law 296 [some (.ref 1000), some (.ref 0), some (.ref 51), some (.int (nI i))] [] (HX I A J B F) P := by
  obtain ⟨r, I1, A1, J1, B1, F1, I2, A2, J2, B2, F2, e1, e2, hr2⟩ := hop (X.2 (nI i + 1).toNatClampNeg) (X.2 (nI i + 2).toNatClampNeg) _ _ _ _ _ hr
  refine q_aload_n rfl rfl ?_
  refine q_aload_n rfl rfl ?_
  refine q_iload_n rfl rfl ?_
  refine q_iconst (v := 1) rfl rfl ?_
  refine q_iadd rfl ?_
  refine q_iaload_s rfl (sc_ix (k := 1) (show i + 1 < X.1 by omega) hL) ?_
  refine q_aload_n rfl rfl ?_
  refine q_iload_n rfl rfl ?_
  refine q_iconst (v := 2) rfl rfl ?_
  refine q_iadd rfl ?_
  refine q_iaload_s rfl (sc_ix (k := 2) (show i + 2 < X.1 by omega) hL) ?_
  refine q_callV2 rfl hx_0 (Nat.le_of_ble_eq_true rfl) (Nat.le_of_ble_eq_true rfl) (e1) ?_
  refine q_aload_n rfl rfl ?_
  refine q_aload_n rfl rfl ?_
  refine q_iload_n rfl rfl ?_
  refine q_iconst (v := 1) rfl rfl ?_
  refine q_iadd rfl ?_
  refine q_iaload_s rfl (sc_ix (k := 1) (show i + 1 < X.1 by omega) hL) ?_
  refine q_aload_n rfl rfl ?_
  refine q_iload_n rfl rfl ?_
  refine q_iconst (v := 2) rfl rfl ?_
  refine q_iadd rfl ?_
  refine q_iaload_s rfl (sc_ix (k := 2) (show i + 2 < X.1 by omega) hL) ?_
  refine q_callV2 rfl hx_51 (Nat.le_of_ble_eq_true rfl) (Nat.le_of_ble_eq_true rfl) (e2) ?_
  refine q_icmp_eq rfl (fun hc324 => ?_) (fun hc324 => ?_)
  · exact next _ _ _ _ _ hr2
  · exact absurd rfl hc324
set_option maxRecDepth 100000 in
theorem law_3 {X : XX} {R : XR} {P : Option Value → XH → Prop} {i : Nat} (hL : X.1 ≤ 384) (hi : i + 6 ≤ X.1) (hop : Op_3 X R) {I A : Nat → Nat → Int32} {J B : Nat → Nat → Int64} {F : Nat → Nat} (hr : R I A J B F) (next : ∀ I A J B F, R I A J B F → Wp X xT 8 mL_law 1462 [some (.ref 1000), some (.ref 0), some (.ref 51), some (.int (nI i))] [] (HX I A J B F) P) : Wp X xT 8 mL_law 329 [some (.ref 1000), some (.ref 0), some (.ref 51), some (.int (nI i))] [] (HX I A J B F) P := by
  obtain ⟨r, I1, A1, J1, B1, F1, I2, A2, J2, B2, F2, e1, e2, hr2⟩ := hop (X.2 (nI i + 1).toNatClampNeg) _ _ _ _ _ hr
  refine q_aload_n rfl rfl ?_
  refine q_aload_n rfl rfl ?_
  refine q_iload_n rfl rfl ?_
  refine q_iconst (v := 1) rfl rfl ?_
  refine q_iadd rfl ?_
  refine q_iaload_s rfl (sc_ix (k := 1) (show i + 1 < X.1 by omega) hL) ?_
  refine q_callV1 rfl hx_0 (Nat.le_of_ble_eq_true rfl) (Nat.le_of_ble_eq_true rfl) (e1) ?_
  refine q_aload_n rfl rfl ?_
  refine q_aload_n rfl rfl ?_
  refine q_iload_n rfl rfl ?_
  refine q_iconst (v := 1) rfl rfl ?_
  refine q_iadd rfl ?_
  refine q_iaload_s rfl (sc_ix (k := 1) (show i + 1 < X.1 by omega) hL) ?_
  refine q_callV1 rfl hx_51 (Nat.le_of_ble_eq_true rfl) (Nat.le_of_ble_eq_true rfl) (e2) ?_
  refine q_icmp_eq rfl (fun hc347 => ?_) (fun hc347 => ?_)
  · exact next _ _ _ _ _ hr2
  · exact absurd rfl hc347
set_option maxRecDepth 100000 in
theorem law_4 {X : XX} {R : XR} {P : Option Value → XH → Prop} {i : Nat} (hL : X.1 ≤ 384) (hi : i + 6 ≤ X.1) (hop : Op_4 X R) {I A : Nat → Nat → Int32} {J B : Nat → Nat → Int64} {F : Nat → Nat} (hr : R I A J B F) (next : ∀ I A J B F, R I A J B F → Wp X xT 8 mL_law 1462 [some (.ref 1000), some (.ref 0), some (.ref 51), some (.int (nI i))] [] (HX I A J B F) P) : Wp X xT 8 mL_law 352 [some (.ref 1000), some (.ref 0), some (.ref 51), some (.int (nI i))] [] (HX I A J B F) P := by
  obtain ⟨r, I1, A1, J1, B1, F1, I2, A2, J2, B2, F2, e1, e2, hr2⟩ := hop (X.2 (nI i + 1).toNatClampNeg) (X.2 (nI i + 2).toNatClampNeg) (X.2 (nI i + 3).toNatClampNeg) (X.2 (nI i + 4).toNatClampNeg) (X.2 (nI i + 5).toNatClampNeg) _ _ _ _ _ hr
  refine q_aload_n rfl rfl ?_
  refine q_aload_n rfl rfl ?_
  refine q_iload_n rfl rfl ?_
  refine q_iconst (v := 1) rfl rfl ?_
  refine q_iadd rfl ?_
  refine q_iaload_s rfl (sc_ix (k := 1) (show i + 1 < X.1 by omega) hL) ?_
  refine q_aload_n rfl rfl ?_
  refine q_iload_n rfl rfl ?_
  refine q_iconst (v := 2) rfl rfl ?_
  refine q_iadd rfl ?_
  refine q_iaload_s rfl (sc_ix (k := 2) (show i + 2 < X.1 by omega) hL) ?_
  refine q_aload_n rfl rfl ?_
  refine q_iload_n rfl rfl ?_
  refine q_iconst (v := 3) rfl rfl ?_
  refine q_iadd rfl ?_
  refine q_iaload_s rfl (sc_ix (k := 3) (show i + 3 < X.1 by omega) hL) ?_
  refine q_aload_n rfl rfl ?_
  refine q_iload_n rfl rfl ?_
  refine q_iconst (v := 4) rfl rfl ?_
  refine q_iadd rfl ?_
  refine q_iaload_s rfl (sc_ix (k := 4) (show i + 4 < X.1 by omega) hL) ?_
  refine q_aload_n rfl rfl ?_
  refine q_iload_n rfl rfl ?_
  refine q_iconst (v := 5) rfl rfl ?_
  refine q_iadd rfl ?_
  refine q_iaload_s rfl (sc_ix (k := 5) (show i + 5 < X.1 by omega) hL) ?_
  refine q_callV5 rfl hx_0 (Nat.le_of_ble_eq_true rfl) (Nat.le_of_ble_eq_true rfl) (e1) ?_
  refine q_aload_n rfl rfl ?_
  refine q_aload_n rfl rfl ?_
  refine q_iload_n rfl rfl ?_
  refine q_iconst (v := 1) rfl rfl ?_
  refine q_iadd rfl ?_
  refine q_iaload_s rfl (sc_ix (k := 1) (show i + 1 < X.1 by omega) hL) ?_
  refine q_aload_n rfl rfl ?_
  refine q_iload_n rfl rfl ?_
  refine q_iconst (v := 2) rfl rfl ?_
  refine q_iadd rfl ?_
  refine q_iaload_s rfl (sc_ix (k := 2) (show i + 2 < X.1 by omega) hL) ?_
  refine q_aload_n rfl rfl ?_
  refine q_iload_n rfl rfl ?_
  refine q_iconst (v := 3) rfl rfl ?_
  refine q_iadd rfl ?_
  refine q_iaload_s rfl (sc_ix (k := 3) (show i + 3 < X.1 by omega) hL) ?_
  refine q_aload_n rfl rfl ?_
  refine q_iload_n rfl rfl ?_
  refine q_iconst (v := 4) rfl rfl ?_
  refine q_iadd rfl ?_
  refine q_iaload_s rfl (sc_ix (k := 4) (show i + 4 < X.1 by omega) hL) ?_
  refine q_aload_n rfl rfl ?_
  refine q_iload_n rfl rfl ?_
  refine q_iconst (v := 5) rfl rfl ?_
  refine q_iadd rfl ?_
  refine q_iaload_s rfl (sc_ix (k := 5) (show i + 5 < X.1 by omega) hL) ?_
  refine q_callV5 rfl hx_51 (Nat.le_of_ble_eq_true rfl) (Nat.le_of_ble_eq_true rfl) (e2) ?_
  refine q_icmp_eq rfl (fun hc410 => ?_) (fun hc410 => ?_)
  · exact next _ _ _ _ _ hr2
  · exact absurd rfl hc410
set_option maxRecDepth 100000 in
theorem law_5 {X : XX} {R : XR} {P : Option Value → XH → Prop} {i : Nat} (hL : X.1 ≤ 384) (hi : i + 6 ≤ X.1) (hop : Op_5 X R) {I A : Nat → Nat → Int32} {J B : Nat → Nat → Int64} {F : Nat → Nat} (hr : R I A J B F) (next : ∀ I A J B F, R I A J B F → Wp X xT 8 mL_law 1462 [some (.ref 1000), some (.ref 0), some (.ref 51), some (.int (nI i))] [] (HX I A J B F) P) : Wp X xT 8 mL_law 415 [some (.ref 1000), some (.ref 0), some (.ref 51), some (.int (nI i))] [] (HX I A J B F) P := by
  obtain ⟨r, I1, A1, J1, B1, F1, I2, A2, J2, B2, F2, e1, e2, hr2⟩ := hop (X.2 (nI i + 1).toNatClampNeg) _ _ _ _ _ hr
  refine q_aload_n rfl rfl ?_
  refine q_aload_n rfl rfl ?_
  refine q_iload_n rfl rfl ?_
  refine q_iconst (v := 1) rfl rfl ?_
  refine q_iadd rfl ?_
  refine q_iaload_s rfl (sc_ix (k := 1) (show i + 1 < X.1 by omega) hL) ?_
  refine q_callV1 rfl hx_0 (Nat.le_of_ble_eq_true rfl) (Nat.le_of_ble_eq_true rfl) (e1) ?_
  refine q_aload_n rfl rfl ?_
  refine q_aload_n rfl rfl ?_
  refine q_iload_n rfl rfl ?_
  refine q_iconst (v := 1) rfl rfl ?_
  refine q_iadd rfl ?_
  refine q_iaload_s rfl (sc_ix (k := 1) (show i + 1 < X.1 by omega) hL) ?_
  refine q_callV1 rfl hx_51 (Nat.le_of_ble_eq_true rfl) (Nat.le_of_ble_eq_true rfl) (e2) ?_
  refine q_icmp_eq rfl (fun hc433 => ?_) (fun hc433 => ?_)
  · exact next _ _ _ _ _ hr2
  · exact absurd rfl hc433
set_option maxRecDepth 100000 in
theorem law_6 {X : XX} {R : XR} {P : Option Value → XH → Prop} {i : Nat} (hL : X.1 ≤ 384) (hi : i + 6 ≤ X.1) (hop : Op_6 X R) {I A : Nat → Nat → Int32} {J B : Nat → Nat → Int64} {F : Nat → Nat} (hr : R I A J B F) (next : ∀ I A J B F, R I A J B F → Wp X xT 8 mL_law 1462 [some (.ref 1000), some (.ref 0), some (.ref 51), some (.int (nI i))] [] (HX I A J B F) P) : Wp X xT 8 mL_law 438 [some (.ref 1000), some (.ref 0), some (.ref 51), some (.int (nI i))] [] (HX I A J B F) P := by
  obtain ⟨r, I1, A1, J1, B1, F1, I2, A2, J2, B2, F2, e1, e2, hr2⟩ := hop (X.2 (nI i + 1).toNatClampNeg) (X.2 (nI i + 2).toNatClampNeg) _ _ _ _ _ hr
  refine q_aload_n rfl rfl ?_
  refine q_aload_n rfl rfl ?_
  refine q_iload_n rfl rfl ?_
  refine q_iconst (v := 1) rfl rfl ?_
  refine q_iadd rfl ?_
  refine q_iaload_s rfl (sc_ix (k := 1) (show i + 1 < X.1 by omega) hL) ?_
  refine q_aload_n rfl rfl ?_
  refine q_iload_n rfl rfl ?_
  refine q_iconst (v := 2) rfl rfl ?_
  refine q_iadd rfl ?_
  refine q_iaload_s rfl (sc_ix (k := 2) (show i + 2 < X.1 by omega) hL) ?_
  refine q_callV2 rfl hx_0 (Nat.le_of_ble_eq_true rfl) (Nat.le_of_ble_eq_true rfl) (e1) ?_
  refine q_aload_n rfl rfl ?_
  refine q_aload_n rfl rfl ?_
  refine q_iload_n rfl rfl ?_
  refine q_iconst (v := 1) rfl rfl ?_
  refine q_iadd rfl ?_
  refine q_iaload_s rfl (sc_ix (k := 1) (show i + 1 < X.1 by omega) hL) ?_
  refine q_aload_n rfl rfl ?_
  refine q_iload_n rfl rfl ?_
  refine q_iconst (v := 2) rfl rfl ?_
  refine q_iadd rfl ?_
  refine q_iaload_s rfl (sc_ix (k := 2) (show i + 2 < X.1 by omega) hL) ?_
  refine q_callV2 rfl hx_51 (Nat.le_of_ble_eq_true rfl) (Nat.le_of_ble_eq_true rfl) (e2) ?_
  refine q_icmp_eq rfl (fun hc466 => ?_) (fun hc466 => ?_)
  · exact next _ _ _ _ _ hr2
  · exact absurd rfl hc466
set_option maxRecDepth 100000 in
theorem law_7 {X : XX} {R : XR} {P : Option Value → XH → Prop} {i : Nat} (hL : X.1 ≤ 384) (hi : i + 6 ≤ X.1) (hop : Op_7 X R) {I A : Nat → Nat → Int32} {J B : Nat → Nat → Int64} {F : Nat → Nat} (hr : R I A J B F) (next : ∀ I A J B F, R I A J B F → Wp X xT 8 mL_law 1462 [some (.ref 1000), some (.ref 0), some (.ref 51), some (.int (nI i))] [] (HX I A J B F) P) : Wp X xT 8 mL_law 471 [some (.ref 1000), some (.ref 0), some (.ref 51), some (.int (nI i))] [] (HX I A J B F) P := by
  obtain ⟨r, I1, A1, J1, B1, F1, I2, A2, J2, B2, F2, e1, e2, hr2⟩ := hop (X.2 (nI i + 1).toNatClampNeg) (X.2 (nI i + 2).toNatClampNeg) (X.2 (nI i + 3).toNatClampNeg) _ _ _ _ _ hr
  refine q_aload_n rfl rfl ?_
  refine q_aload_n rfl rfl ?_
  refine q_iload_n rfl rfl ?_
  refine q_iconst (v := 1) rfl rfl ?_
  refine q_iadd rfl ?_
  refine q_iaload_s rfl (sc_ix (k := 1) (show i + 1 < X.1 by omega) hL) ?_
  refine q_aload_n rfl rfl ?_
  refine q_iload_n rfl rfl ?_
  refine q_iconst (v := 2) rfl rfl ?_
  refine q_iadd rfl ?_
  refine q_iaload_s rfl (sc_ix (k := 2) (show i + 2 < X.1 by omega) hL) ?_
  refine q_aload_n rfl rfl ?_
  refine q_iload_n rfl rfl ?_
  refine q_iconst (v := 3) rfl rfl ?_
  refine q_iadd rfl ?_
  refine q_iaload_s rfl (sc_ix (k := 3) (show i + 3 < X.1 by omega) hL) ?_
  refine q_callV3 rfl hx_0 (Nat.le_of_ble_eq_true rfl) (Nat.le_of_ble_eq_true rfl) (e1) ?_
  refine q_aload_n rfl rfl ?_
  refine q_aload_n rfl rfl ?_
  refine q_iload_n rfl rfl ?_
  refine q_iconst (v := 1) rfl rfl ?_
  refine q_iadd rfl ?_
  refine q_iaload_s rfl (sc_ix (k := 1) (show i + 1 < X.1 by omega) hL) ?_
  refine q_aload_n rfl rfl ?_
  refine q_iload_n rfl rfl ?_
  refine q_iconst (v := 2) rfl rfl ?_
  refine q_iadd rfl ?_
  refine q_iaload_s rfl (sc_ix (k := 2) (show i + 2 < X.1 by omega) hL) ?_
  refine q_aload_n rfl rfl ?_
  refine q_iload_n rfl rfl ?_
  refine q_iconst (v := 3) rfl rfl ?_
  refine q_iadd rfl ?_
  refine q_iaload_s rfl (sc_ix (k := 3) (show i + 3 < X.1 by omega) hL) ?_
  refine q_callV3 rfl hx_51 (Nat.le_of_ble_eq_true rfl) (Nat.le_of_ble_eq_true rfl) (e2) ?_
  refine q_icmp_eq rfl (fun hc509 => ?_) (fun hc509 => ?_)
  · exact next _ _ _ _ _ hr2
  · exact absurd rfl hc509
set_option maxRecDepth 100000 in
theorem law_8 {X : XX} {R : XR} {P : Option Value → XH → Prop} {i : Nat} (hL : X.1 ≤ 384) (hi : i + 6 ≤ X.1) (hop : Op_8 X R) {I A : Nat → Nat → Int32} {J B : Nat → Nat → Int64} {F : Nat → Nat} (hr : R I A J B F) (next : ∀ I A J B F, R I A J B F → Wp X xT 8 mL_law 1462 [some (.ref 1000), some (.ref 0), some (.ref 51), some (.int (nI i))] [] (HX I A J B F) P) : Wp X xT 8 mL_law 514 [some (.ref 1000), some (.ref 0), some (.ref 51), some (.int (nI i))] [] (HX I A J B F) P := by
  obtain ⟨r, I1, A1, J1, B1, F1, I2, A2, J2, B2, F2, e1, e2, hr2⟩ := hop (X.2 (nI i + 1).toNatClampNeg) _ _ _ _ _ hr
  refine q_aload_n rfl rfl ?_
  refine q_aload_n rfl rfl ?_
  refine q_iload_n rfl rfl ?_
  refine q_iconst (v := 1) rfl rfl ?_
  refine q_iadd rfl ?_
  refine q_iaload_s rfl (sc_ix (k := 1) (show i + 1 < X.1 by omega) hL) ?_
  refine q_callV1 rfl hx_0 (Nat.le_of_ble_eq_true rfl) (Nat.le_of_ble_eq_true rfl) (e1) ?_
  refine q_aload_n rfl rfl ?_
  refine q_aload_n rfl rfl ?_
  refine q_iload_n rfl rfl ?_
  refine q_iconst (v := 1) rfl rfl ?_
  refine q_iadd rfl ?_
  refine q_iaload_s rfl (sc_ix (k := 1) (show i + 1 < X.1 by omega) hL) ?_
  refine q_callV1 rfl hx_51 (Nat.le_of_ble_eq_true rfl) (Nat.le_of_ble_eq_true rfl) (e2) ?_
  refine q_icmp_eq rfl (fun hc532 => ?_) (fun hc532 => ?_)
  · exact next _ _ _ _ _ hr2
  · exact absurd rfl hc532
set_option maxRecDepth 100000 in
theorem law_9 {X : XX} {R : XR} {P : Option Value → XH → Prop} {i : Nat} (hL : X.1 ≤ 384) (hi : i + 6 ≤ X.1) (hop : Op_9 X R) {I A : Nat → Nat → Int32} {J B : Nat → Nat → Int64} {F : Nat → Nat} (hr : R I A J B F) (next : ∀ I A J B F, R I A J B F → Wp X xT 8 mL_law 1462 [some (.ref 1000), some (.ref 0), some (.ref 51), some (.int (nI i))] [] (HX I A J B F) P) : Wp X xT 8 mL_law 537 [some (.ref 1000), some (.ref 0), some (.ref 51), some (.int (nI i))] [] (HX I A J B F) P := by
  obtain ⟨r, I1, A1, J1, B1, F1, I2, A2, J2, B2, F2, e1, e2, hr2⟩ := hop (X.2 (nI i + 1).toNatClampNeg) _ _ _ _ _ hr
  refine q_aload_n rfl rfl ?_
  refine q_aload_n rfl rfl ?_
  refine q_iload_n rfl rfl ?_
  refine q_iconst (v := 1) rfl rfl ?_
  refine q_iadd rfl ?_
  refine q_iaload_s rfl (sc_ix (k := 1) (show i + 1 < X.1 by omega) hL) ?_
  refine q_callV1 rfl hx_0 (Nat.le_of_ble_eq_true rfl) (Nat.le_of_ble_eq_true rfl) (e1) ?_
  refine q_aload_n rfl rfl ?_
  refine q_aload_n rfl rfl ?_
  refine q_iload_n rfl rfl ?_
  refine q_iconst (v := 1) rfl rfl ?_
  refine q_iadd rfl ?_
  refine q_iaload_s rfl (sc_ix (k := 1) (show i + 1 < X.1 by omega) hL) ?_
  refine q_callV1 rfl hx_51 (Nat.le_of_ble_eq_true rfl) (Nat.le_of_ble_eq_true rfl) (e2) ?_
  refine q_icmp_eq rfl (fun hc555 => ?_) (fun hc555 => ?_)
  · exact next _ _ _ _ _ hr2
  · exact absurd rfl hc555
set_option maxRecDepth 100000 in
theorem law_10 {X : XX} {R : XR} {P : Option Value → XH → Prop} {i : Nat} (hL : X.1 ≤ 384) (hi : i + 6 ≤ X.1) (hop : Op_10 X R) {I A : Nat → Nat → Int32} {J B : Nat → Nat → Int64} {F : Nat → Nat} (hr : R I A J B F) (next : ∀ I A J B F, R I A J B F → Wp X xT 8 mL_law 1462 [some (.ref 1000), some (.ref 0), some (.ref 51), some (.int (nI i))] [] (HX I A J B F) P) : Wp X xT 8 mL_law 560 [some (.ref 1000), some (.ref 0), some (.ref 51), some (.int (nI i))] [] (HX I A J B F) P := by
  obtain ⟨r, I1, A1, J1, B1, F1, I2, A2, J2, B2, F2, e1, e2, hr2⟩ := hop (X.2 (nI i + 1).toNatClampNeg) (X.2 (nI i + 2).toNatClampNeg) _ _ _ _ _ hr
  refine q_aload_n rfl rfl ?_
  refine q_aload_n rfl rfl ?_
  refine q_iload_n rfl rfl ?_
  refine q_iconst (v := 1) rfl rfl ?_
  refine q_iadd rfl ?_
  refine q_iaload_s rfl (sc_ix (k := 1) (show i + 1 < X.1 by omega) hL) ?_
  refine q_aload_n rfl rfl ?_
  refine q_iload_n rfl rfl ?_
  refine q_iconst (v := 2) rfl rfl ?_
  refine q_iadd rfl ?_
  refine q_iaload_s rfl (sc_ix (k := 2) (show i + 2 < X.1 by omega) hL) ?_
  refine q_callV2 rfl hx_0 (Nat.le_of_ble_eq_true rfl) (Nat.le_of_ble_eq_true rfl) (e1) ?_
  refine q_aload_n rfl rfl ?_
  refine q_aload_n rfl rfl ?_
  refine q_iload_n rfl rfl ?_
  refine q_iconst (v := 1) rfl rfl ?_
  refine q_iadd rfl ?_
  refine q_iaload_s rfl (sc_ix (k := 1) (show i + 1 < X.1 by omega) hL) ?_
  refine q_aload_n rfl rfl ?_
  refine q_iload_n rfl rfl ?_
  refine q_iconst (v := 2) rfl rfl ?_
  refine q_iadd rfl ?_
  refine q_iaload_s rfl (sc_ix (k := 2) (show i + 2 < X.1 by omega) hL) ?_
  refine q_callV2 rfl hx_51 (Nat.le_of_ble_eq_true rfl) (Nat.le_of_ble_eq_true rfl) (e2) ?_
  refine q_icmp_eq rfl (fun hc588 => ?_) (fun hc588 => ?_)
  · exact next _ _ _ _ _ hr2
  · exact absurd rfl hc588
set_option maxRecDepth 100000 in
theorem law_11 {X : XX} {R : XR} {P : Option Value → XH → Prop} {i : Nat} (hL : X.1 ≤ 384) (hi : i + 6 ≤ X.1) (hop : Op_11 X R) {I A : Nat → Nat → Int32} {J B : Nat → Nat → Int64} {F : Nat → Nat} (hr : R I A J B F) (next : ∀ I A J B F, R I A J B F → Wp X xT 8 mL_law 1462 [some (.ref 1000), some (.ref 0), some (.ref 51), some (.int (nI i))] [] (HX I A J B F) P) : Wp X xT 8 mL_law 593 [some (.ref 1000), some (.ref 0), some (.ref 51), some (.int (nI i))] [] (HX I A J B F) P := by
  obtain ⟨r, I1, A1, J1, B1, F1, I2, A2, J2, B2, F2, e1, e2, hr2⟩ := hop (X.2 (nI i + 1).toNatClampNeg) (X.2 (nI i + 2).toNatClampNeg) _ _ _ _ _ hr
  refine q_aload_n rfl rfl ?_
  refine q_aload_n rfl rfl ?_
  refine q_iload_n rfl rfl ?_
  refine q_iconst (v := 1) rfl rfl ?_
  refine q_iadd rfl ?_
  refine q_iaload_s rfl (sc_ix (k := 1) (show i + 1 < X.1 by omega) hL) ?_
  refine q_aload_n rfl rfl ?_
  refine q_iload_n rfl rfl ?_
  refine q_iconst (v := 2) rfl rfl ?_
  refine q_iadd rfl ?_
  refine q_iaload_s rfl (sc_ix (k := 2) (show i + 2 < X.1 by omega) hL) ?_
  refine q_callV2 rfl hx_0 (Nat.le_of_ble_eq_true rfl) (Nat.le_of_ble_eq_true rfl) (e1) ?_
  refine q_aload_n rfl rfl ?_
  refine q_aload_n rfl rfl ?_
  refine q_iload_n rfl rfl ?_
  refine q_iconst (v := 1) rfl rfl ?_
  refine q_iadd rfl ?_
  refine q_iaload_s rfl (sc_ix (k := 1) (show i + 1 < X.1 by omega) hL) ?_
  refine q_aload_n rfl rfl ?_
  refine q_iload_n rfl rfl ?_
  refine q_iconst (v := 2) rfl rfl ?_
  refine q_iadd rfl ?_
  refine q_iaload_s rfl (sc_ix (k := 2) (show i + 2 < X.1 by omega) hL) ?_
  refine q_callV2 rfl hx_51 (Nat.le_of_ble_eq_true rfl) (Nat.le_of_ble_eq_true rfl) (e2) ?_
  refine q_icmp_eq rfl (fun hc621 => ?_) (fun hc621 => ?_)
  · exact next _ _ _ _ _ hr2
  · exact absurd rfl hc621
set_option maxRecDepth 100000 in
theorem law_12 {X : XX} {R : XR} {P : Option Value → XH → Prop} {i : Nat} (hL : X.1 ≤ 384) (hi : i + 6 ≤ X.1) (hop : Op_12 X R) {I A : Nat → Nat → Int32} {J B : Nat → Nat → Int64} {F : Nat → Nat} (hr : R I A J B F) (next : ∀ I A J B F, R I A J B F → Wp X xT 8 mL_law 1462 [some (.ref 1000), some (.ref 0), some (.ref 51), some (.int (nI i))] [] (HX I A J B F) P) : Wp X xT 8 mL_law 626 [some (.ref 1000), some (.ref 0), some (.ref 51), some (.int (nI i))] [] (HX I A J B F) P := by
  obtain ⟨r, I1, A1, J1, B1, F1, I2, A2, J2, B2, F2, e1, e2, hr2⟩ := hop  _ _ _ _ _ hr
  refine q_aload_n rfl rfl ?_
  refine q_callV0 rfl hx_0 (Nat.le_of_ble_eq_true rfl) (Nat.le_of_ble_eq_true rfl) (e1) ?_
  refine q_aload_n rfl rfl ?_
  refine q_callV0 rfl hx_51 (Nat.le_of_ble_eq_true rfl) (Nat.le_of_ble_eq_true rfl) (e2) ?_
  refine q_icmp_eq rfl (fun hc634 => ?_) (fun hc634 => ?_)
  · exact next _ _ _ _ _ hr2
  · exact absurd rfl hc634
set_option maxRecDepth 100000 in
theorem law_13 {X : XX} {R : XR} {P : Option Value → XH → Prop} {i : Nat} (hL : X.1 ≤ 384) (hi : i + 6 ≤ X.1) (hop : Op_13 X R) {I A : Nat → Nat → Int32} {J B : Nat → Nat → Int64} {F : Nat → Nat} (hr : R I A J B F) (next : ∀ I A J B F, R I A J B F → Wp X xT 8 mL_law 1462 [some (.ref 1000), some (.ref 0), some (.ref 51), some (.int (nI i))] [] (HX I A J B F) P) : Wp X xT 8 mL_law 639 [some (.ref 1000), some (.ref 0), some (.ref 51), some (.int (nI i))] [] (HX I A J B F) P := by
  obtain ⟨r, I1, A1, J1, B1, F1, I2, A2, J2, B2, F2, e1, e2, hr2⟩ := hop (X.2 (nI i + 1).toNatClampNeg) _ _ _ _ _ hr
  refine q_aload_n rfl rfl ?_
  refine q_aload_n rfl rfl ?_
  refine q_iload_n rfl rfl ?_
  refine q_iconst (v := 1) rfl rfl ?_
  refine q_iadd rfl ?_
  refine q_iaload_s rfl (sc_ix (k := 1) (show i + 1 < X.1 by omega) hL) ?_
  refine q_callV1 rfl hx_0 (Nat.le_of_ble_eq_true rfl) (Nat.le_of_ble_eq_true rfl) (e1) ?_
  refine q_aload_n rfl rfl ?_
  refine q_aload_n rfl rfl ?_
  refine q_iload_n rfl rfl ?_
  refine q_iconst (v := 1) rfl rfl ?_
  refine q_iadd rfl ?_
  refine q_iaload_s rfl (sc_ix (k := 1) (show i + 1 < X.1 by omega) hL) ?_
  refine q_callV1 rfl hx_51 (Nat.le_of_ble_eq_true rfl) (Nat.le_of_ble_eq_true rfl) (e2) ?_
  refine q_icmp_eq rfl (fun hc657 => ?_) (fun hc657 => ?_)
  · exact next _ _ _ _ _ hr2
  · exact absurd rfl hc657
set_option maxRecDepth 100000 in
theorem law_14 {X : XX} {R : XR} {P : Option Value → XH → Prop} {i : Nat} (hL : X.1 ≤ 384) (hi : i + 6 ≤ X.1) (hop : Op_14 X R) {I A : Nat → Nat → Int32} {J B : Nat → Nat → Int64} {F : Nat → Nat} (hr : R I A J B F) (next : ∀ I A J B F, R I A J B F → Wp X xT 8 mL_law 1462 [some (.ref 1000), some (.ref 0), some (.ref 51), some (.int (nI i))] [] (HX I A J B F) P) : Wp X xT 8 mL_law 662 [some (.ref 1000), some (.ref 0), some (.ref 51), some (.int (nI i))] [] (HX I A J B F) P := by
  obtain ⟨r, I1, A1, J1, B1, F1, I2, A2, J2, B2, F2, e1, e2, hr2⟩ := hop (X.2 (nI i + 1).toNatClampNeg) _ _ _ _ _ hr
  refine q_aload_n rfl rfl ?_
  refine q_aload_n rfl rfl ?_
  refine q_iload_n rfl rfl ?_
  refine q_iconst (v := 1) rfl rfl ?_
  refine q_iadd rfl ?_
  refine q_iaload_s rfl (sc_ix (k := 1) (show i + 1 < X.1 by omega) hL) ?_
  refine q_callV1 rfl hx_0 (Nat.le_of_ble_eq_true rfl) (Nat.le_of_ble_eq_true rfl) (e1) ?_
  refine q_aload_n rfl rfl ?_
  refine q_aload_n rfl rfl ?_
  refine q_iload_n rfl rfl ?_
  refine q_iconst (v := 1) rfl rfl ?_
  refine q_iadd rfl ?_
  refine q_iaload_s rfl (sc_ix (k := 1) (show i + 1 < X.1 by omega) hL) ?_
  refine q_callV1 rfl hx_51 (Nat.le_of_ble_eq_true rfl) (Nat.le_of_ble_eq_true rfl) (e2) ?_
  refine q_icmp_eq rfl (fun hc680 => ?_) (fun hc680 => ?_)
  · exact next _ _ _ _ _ hr2
  · exact absurd rfl hc680
set_option maxRecDepth 100000 in
theorem law_15 {X : XX} {R : XR} {P : Option Value → XH → Prop} {i : Nat} (hL : X.1 ≤ 384) (hi : i + 6 ≤ X.1) (hop : Op_15 X R) {I A : Nat → Nat → Int32} {J B : Nat → Nat → Int64} {F : Nat → Nat} (hr : R I A J B F) (next : ∀ I A J B F, R I A J B F → Wp X xT 8 mL_law 1462 [some (.ref 1000), some (.ref 0), some (.ref 51), some (.int (nI i))] [] (HX I A J B F) P) : Wp X xT 8 mL_law 685 [some (.ref 1000), some (.ref 0), some (.ref 51), some (.int (nI i))] [] (HX I A J B F) P := by
  obtain ⟨r, I1, A1, J1, B1, F1, I2, A2, J2, B2, F2, e1, e2, hr2⟩ := hop (X.2 (nI i + 1).toNatClampNeg) _ _ _ _ _ hr
  refine q_aload_n rfl rfl ?_
  refine q_aload_n rfl rfl ?_
  refine q_iload_n rfl rfl ?_
  refine q_iconst (v := 1) rfl rfl ?_
  refine q_iadd rfl ?_
  refine q_iaload_s rfl (sc_ix (k := 1) (show i + 1 < X.1 by omega) hL) ?_
  refine q_callV1 rfl hx_0 (Nat.le_of_ble_eq_true rfl) (Nat.le_of_ble_eq_true rfl) (e1) ?_
  refine q_aload_n rfl rfl ?_
  refine q_aload_n rfl rfl ?_
  refine q_iload_n rfl rfl ?_
  refine q_iconst (v := 1) rfl rfl ?_
  refine q_iadd rfl ?_
  refine q_iaload_s rfl (sc_ix (k := 1) (show i + 1 < X.1 by omega) hL) ?_
  refine q_callV1 rfl hx_51 (Nat.le_of_ble_eq_true rfl) (Nat.le_of_ble_eq_true rfl) (e2) ?_
  refine q_icmp_eq rfl (fun hc703 => ?_) (fun hc703 => ?_)
  · exact next _ _ _ _ _ hr2
  · exact absurd rfl hc703
set_option maxRecDepth 100000 in
theorem law_16 {X : XX} {R : XR} {P : Option Value → XH → Prop} {i : Nat} (hL : X.1 ≤ 384) (hi : i + 6 ≤ X.1) (hop : Op_16 X R) {I A : Nat → Nat → Int32} {J B : Nat → Nat → Int64} {F : Nat → Nat} (hr : R I A J B F) (next : ∀ I A J B F, R I A J B F → Wp X xT 8 mL_law 1462 [some (.ref 1000), some (.ref 0), some (.ref 51), some (.int (nI i))] [] (HX I A J B F) P) : Wp X xT 8 mL_law 708 [some (.ref 1000), some (.ref 0), some (.ref 51), some (.int (nI i))] [] (HX I A J B F) P := by
  obtain ⟨r, I1, A1, J1, B1, F1, I2, A2, J2, B2, F2, e1, e2, hr2⟩ := hop (X.2 (nI i + 1).toNatClampNeg) _ _ _ _ _ hr
  refine q_aload_n rfl rfl ?_
  refine q_aload_n rfl rfl ?_
  refine q_iload_n rfl rfl ?_
  refine q_iconst (v := 1) rfl rfl ?_
  refine q_iadd rfl ?_
  refine q_iaload_s rfl (sc_ix (k := 1) (show i + 1 < X.1 by omega) hL) ?_
  refine q_callV1 rfl hx_0 (Nat.le_of_ble_eq_true rfl) (Nat.le_of_ble_eq_true rfl) (e1) ?_
  refine q_aload_n rfl rfl ?_
  refine q_aload_n rfl rfl ?_
  refine q_iload_n rfl rfl ?_
  refine q_iconst (v := 1) rfl rfl ?_
  refine q_iadd rfl ?_
  refine q_iaload_s rfl (sc_ix (k := 1) (show i + 1 < X.1 by omega) hL) ?_
  refine q_callV1 rfl hx_51 (Nat.le_of_ble_eq_true rfl) (Nat.le_of_ble_eq_true rfl) (e2) ?_
  refine q_icmp_eq rfl (fun hc726 => ?_) (fun hc726 => ?_)
  · exact next _ _ _ _ _ hr2
  · exact absurd rfl hc726
set_option maxRecDepth 100000 in
theorem law_17 {X : XX} {R : XR} {P : Option Value → XH → Prop} {i : Nat} (hL : X.1 ≤ 384) (hi : i + 6 ≤ X.1) (hop : Op_17 X R) {I A : Nat → Nat → Int32} {J B : Nat → Nat → Int64} {F : Nat → Nat} (hr : R I A J B F) (next : ∀ I A J B F, R I A J B F → Wp X xT 8 mL_law 1462 [some (.ref 1000), some (.ref 0), some (.ref 51), some (.int (nI i))] [] (HX I A J B F) P) : Wp X xT 8 mL_law 731 [some (.ref 1000), some (.ref 0), some (.ref 51), some (.int (nI i))] [] (HX I A J B F) P := by
  obtain ⟨r, I1, A1, J1, B1, F1, I2, A2, J2, B2, F2, e1, e2, hr2⟩ := hop (X.2 (nI i + 1).toNatClampNeg) (X.2 (nI i + 2).toNatClampNeg) _ _ _ _ _ hr
  refine q_aload_n rfl rfl ?_
  refine q_aload_n rfl rfl ?_
  refine q_iload_n rfl rfl ?_
  refine q_iconst (v := 1) rfl rfl ?_
  refine q_iadd rfl ?_
  refine q_iaload_s rfl (sc_ix (k := 1) (show i + 1 < X.1 by omega) hL) ?_
  refine q_aload_n rfl rfl ?_
  refine q_iload_n rfl rfl ?_
  refine q_iconst (v := 2) rfl rfl ?_
  refine q_iadd rfl ?_
  refine q_iaload_s rfl (sc_ix (k := 2) (show i + 2 < X.1 by omega) hL) ?_
  refine q_callV2 rfl hx_0 (Nat.le_of_ble_eq_true rfl) (Nat.le_of_ble_eq_true rfl) (e1) ?_
  refine q_aload_n rfl rfl ?_
  refine q_aload_n rfl rfl ?_
  refine q_iload_n rfl rfl ?_
  refine q_iconst (v := 1) rfl rfl ?_
  refine q_iadd rfl ?_
  refine q_iaload_s rfl (sc_ix (k := 1) (show i + 1 < X.1 by omega) hL) ?_
  refine q_aload_n rfl rfl ?_
  refine q_iload_n rfl rfl ?_
  refine q_iconst (v := 2) rfl rfl ?_
  refine q_iadd rfl ?_
  refine q_iaload_s rfl (sc_ix (k := 2) (show i + 2 < X.1 by omega) hL) ?_
  refine q_callV2 rfl hx_51 (Nat.le_of_ble_eq_true rfl) (Nat.le_of_ble_eq_true rfl) (e2) ?_
  refine q_icmp_eq rfl (fun hc759 => ?_) (fun hc759 => ?_)
  · exact next _ _ _ _ _ hr2
  · exact absurd rfl hc759
set_option maxRecDepth 100000 in
theorem law_18 {X : XX} {R : XR} {P : Option Value → XH → Prop} {i : Nat} (hL : X.1 ≤ 384) (hi : i + 6 ≤ X.1) (hop : Op_18 X R) {I A : Nat → Nat → Int32} {J B : Nat → Nat → Int64} {F : Nat → Nat} (hr : R I A J B F) (next : ∀ I A J B F, R I A J B F → Wp X xT 8 mL_law 1462 [some (.ref 1000), some (.ref 0), some (.ref 51), some (.int (nI i))] [] (HX I A J B F) P) : Wp X xT 8 mL_law 764 [some (.ref 1000), some (.ref 0), some (.ref 51), some (.int (nI i))] [] (HX I A J B F) P := by
  obtain ⟨r, I1, A1, J1, B1, F1, I2, A2, J2, B2, F2, e1, e2, hr2⟩ := hop (X.2 (nI i + 1).toNatClampNeg) (X.2 (nI i + 2).toNatClampNeg) _ _ _ _ _ hr
  refine q_aload_n rfl rfl ?_
  refine q_aload_n rfl rfl ?_
  refine q_iload_n rfl rfl ?_
  refine q_iconst (v := 1) rfl rfl ?_
  refine q_iadd rfl ?_
  refine q_iaload_s rfl (sc_ix (k := 1) (show i + 1 < X.1 by omega) hL) ?_
  refine q_aload_n rfl rfl ?_
  refine q_iload_n rfl rfl ?_
  refine q_iconst (v := 2) rfl rfl ?_
  refine q_iadd rfl ?_
  refine q_iaload_s rfl (sc_ix (k := 2) (show i + 2 < X.1 by omega) hL) ?_
  refine q_callV2 rfl hx_0 (Nat.le_of_ble_eq_true rfl) (Nat.le_of_ble_eq_true rfl) (e1) ?_
  refine q_aload_n rfl rfl ?_
  refine q_aload_n rfl rfl ?_
  refine q_iload_n rfl rfl ?_
  refine q_iconst (v := 1) rfl rfl ?_
  refine q_iadd rfl ?_
  refine q_iaload_s rfl (sc_ix (k := 1) (show i + 1 < X.1 by omega) hL) ?_
  refine q_aload_n rfl rfl ?_
  refine q_iload_n rfl rfl ?_
  refine q_iconst (v := 2) rfl rfl ?_
  refine q_iadd rfl ?_
  refine q_iaload_s rfl (sc_ix (k := 2) (show i + 2 < X.1 by omega) hL) ?_
  refine q_callV2 rfl hx_51 (Nat.le_of_ble_eq_true rfl) (Nat.le_of_ble_eq_true rfl) (e2) ?_
  refine q_icmp_eq rfl (fun hc792 => ?_) (fun hc792 => ?_)
  · exact next _ _ _ _ _ hr2
  · exact absurd rfl hc792
set_option maxRecDepth 100000 in
theorem law_19 {X : XX} {R : XR} {P : Option Value → XH → Prop} {i : Nat} (hL : X.1 ≤ 384) (hi : i + 6 ≤ X.1) (hop : Op_19 X R) {I A : Nat → Nat → Int32} {J B : Nat → Nat → Int64} {F : Nat → Nat} (hr : R I A J B F) (next : ∀ I A J B F, R I A J B F → Wp X xT 8 mL_law 1462 [some (.ref 1000), some (.ref 0), some (.ref 51), some (.int (nI i))] [] (HX I A J B F) P) : Wp X xT 8 mL_law 797 [some (.ref 1000), some (.ref 0), some (.ref 51), some (.int (nI i))] [] (HX I A J B F) P := by
  obtain ⟨r, I1, A1, J1, B1, F1, I2, A2, J2, B2, F2, e1, e2, hr2⟩ := hop (X.2 (nI i + 1).toNatClampNeg) _ _ _ _ _ hr
  refine q_aload_n rfl rfl ?_
  refine q_aload_n rfl rfl ?_
  refine q_iload_n rfl rfl ?_
  refine q_iconst (v := 1) rfl rfl ?_
  refine q_iadd rfl ?_
  refine q_iaload_s rfl (sc_ix (k := 1) (show i + 1 < X.1 by omega) hL) ?_
  refine q_callV1 rfl hx_0 (Nat.le_of_ble_eq_true rfl) (Nat.le_of_ble_eq_true rfl) (e1) ?_
  refine q_aload_n rfl rfl ?_
  refine q_aload_n rfl rfl ?_
  refine q_iload_n rfl rfl ?_
  refine q_iconst (v := 1) rfl rfl ?_
  refine q_iadd rfl ?_
  refine q_iaload_s rfl (sc_ix (k := 1) (show i + 1 < X.1 by omega) hL) ?_
  refine q_callV1 rfl hx_51 (Nat.le_of_ble_eq_true rfl) (Nat.le_of_ble_eq_true rfl) (e2) ?_
  refine q_icmp_eq rfl (fun hc815 => ?_) (fun hc815 => ?_)
  · exact next _ _ _ _ _ hr2
  · exact absurd rfl hc815
set_option maxRecDepth 100000 in
theorem law_20 {X : XX} {R : XR} {P : Option Value → XH → Prop} {i : Nat} (hL : X.1 ≤ 384) (hi : i + 6 ≤ X.1) (hop : Op_20 X R) {I A : Nat → Nat → Int32} {J B : Nat → Nat → Int64} {F : Nat → Nat} (hr : R I A J B F) (next : ∀ I A J B F, R I A J B F → Wp X xT 8 mL_law 1462 [some (.ref 1000), some (.ref 0), some (.ref 51), some (.int (nI i))] [] (HX I A J B F) P) : Wp X xT 8 mL_law 820 [some (.ref 1000), some (.ref 0), some (.ref 51), some (.int (nI i))] [] (HX I A J B F) P := by
  obtain ⟨r, I1, A1, J1, B1, F1, I2, A2, J2, B2, F2, e1, e2, hr2⟩ := hop (X.2 (nI i + 1).toNatClampNeg) _ _ _ _ _ hr
  refine q_aload_n rfl rfl ?_
  refine q_aload_n rfl rfl ?_
  refine q_iload_n rfl rfl ?_
  refine q_iconst (v := 1) rfl rfl ?_
  refine q_iadd rfl ?_
  refine q_iaload_s rfl (sc_ix (k := 1) (show i + 1 < X.1 by omega) hL) ?_
  refine q_callV1 rfl hx_0 (Nat.le_of_ble_eq_true rfl) (Nat.le_of_ble_eq_true rfl) (e1) ?_
  refine q_aload_n rfl rfl ?_
  refine q_aload_n rfl rfl ?_
  refine q_iload_n rfl rfl ?_
  refine q_iconst (v := 1) rfl rfl ?_
  refine q_iadd rfl ?_
  refine q_iaload_s rfl (sc_ix (k := 1) (show i + 1 < X.1 by omega) hL) ?_
  refine q_callV1 rfl hx_51 (Nat.le_of_ble_eq_true rfl) (Nat.le_of_ble_eq_true rfl) (e2) ?_
  refine q_icmp_eq rfl (fun hc838 => ?_) (fun hc838 => ?_)
  · exact next _ _ _ _ _ hr2
  · exact absurd rfl hc838
set_option maxRecDepth 100000 in
theorem law_21 {X : XX} {R : XR} {P : Option Value → XH → Prop} {i : Nat} (hL : X.1 ≤ 384) (hi : i + 6 ≤ X.1) (hop : Op_21 X R) {I A : Nat → Nat → Int32} {J B : Nat → Nat → Int64} {F : Nat → Nat} (hr : R I A J B F) (next : ∀ I A J B F, R I A J B F → Wp X xT 8 mL_law 1462 [some (.ref 1000), some (.ref 0), some (.ref 51), some (.int (nI i))] [] (HX I A J B F) P) : Wp X xT 8 mL_law 843 [some (.ref 1000), some (.ref 0), some (.ref 51), some (.int (nI i))] [] (HX I A J B F) P := by
  obtain ⟨r, I1, A1, J1, B1, F1, I2, A2, J2, B2, F2, e1, e2, hr2⟩ := hop (X.2 (nI i + 1).toNatClampNeg) _ _ _ _ _ hr
  refine q_aload_n rfl rfl ?_
  refine q_aload_n rfl rfl ?_
  refine q_iload_n rfl rfl ?_
  refine q_iconst (v := 1) rfl rfl ?_
  refine q_iadd rfl ?_
  refine q_iaload_s rfl (sc_ix (k := 1) (show i + 1 < X.1 by omega) hL) ?_
  refine q_callV1 rfl hx_0 (Nat.le_of_ble_eq_true rfl) (Nat.le_of_ble_eq_true rfl) (e1) ?_
  refine q_aload_n rfl rfl ?_
  refine q_aload_n rfl rfl ?_
  refine q_iload_n rfl rfl ?_
  refine q_iconst (v := 1) rfl rfl ?_
  refine q_iadd rfl ?_
  refine q_iaload_s rfl (sc_ix (k := 1) (show i + 1 < X.1 by omega) hL) ?_
  refine q_callV1 rfl hx_51 (Nat.le_of_ble_eq_true rfl) (Nat.le_of_ble_eq_true rfl) (e2) ?_
  refine q_icmp_eq rfl (fun hc861 => ?_) (fun hc861 => ?_)
  · exact next _ _ _ _ _ hr2
  · exact absurd rfl hc861
set_option maxRecDepth 100000 in
theorem law_22 {X : XX} {R : XR} {P : Option Value → XH → Prop} {i : Nat} (hL : X.1 ≤ 384) (hi : i + 6 ≤ X.1) (hop : Op_22 X R) {I A : Nat → Nat → Int32} {J B : Nat → Nat → Int64} {F : Nat → Nat} (hr : R I A J B F) (next : ∀ I A J B F, R I A J B F → Wp X xT 8 mL_law 1462 [some (.ref 1000), some (.ref 0), some (.ref 51), some (.int (nI i))] [] (HX I A J B F) P) : Wp X xT 8 mL_law 866 [some (.ref 1000), some (.ref 0), some (.ref 51), some (.int (nI i))] [] (HX I A J B F) P := by
  obtain ⟨r, I1, A1, J1, B1, F1, I2, A2, J2, B2, F2, e1, e2, hr2⟩ := hop (X.2 (nI i + 1).toNatClampNeg) _ _ _ _ _ hr
  refine q_aload_n rfl rfl ?_
  refine q_aload_n rfl rfl ?_
  refine q_iload_n rfl rfl ?_
  refine q_iconst (v := 1) rfl rfl ?_
  refine q_iadd rfl ?_
  refine q_iaload_s rfl (sc_ix (k := 1) (show i + 1 < X.1 by omega) hL) ?_
  refine q_callV1 rfl hx_0 (Nat.le_of_ble_eq_true rfl) (Nat.le_of_ble_eq_true rfl) (e1) ?_
  refine q_aload_n rfl rfl ?_
  refine q_aload_n rfl rfl ?_
  refine q_iload_n rfl rfl ?_
  refine q_iconst (v := 1) rfl rfl ?_
  refine q_iadd rfl ?_
  refine q_iaload_s rfl (sc_ix (k := 1) (show i + 1 < X.1 by omega) hL) ?_
  refine q_callV1 rfl hx_51 (Nat.le_of_ble_eq_true rfl) (Nat.le_of_ble_eq_true rfl) (e2) ?_
  refine q_icmp_eq rfl (fun hc884 => ?_) (fun hc884 => ?_)
  · exact next _ _ _ _ _ hr2
  · exact absurd rfl hc884
set_option maxRecDepth 100000 in
theorem law_23 {X : XX} {R : XR} {P : Option Value → XH → Prop} {i : Nat} (hL : X.1 ≤ 384) (hi : i + 6 ≤ X.1) (hop : Op_23 X R) {I A : Nat → Nat → Int32} {J B : Nat → Nat → Int64} {F : Nat → Nat} (hr : R I A J B F) (next : ∀ I A J B F, R I A J B F → Wp X xT 8 mL_law 1462 [some (.ref 1000), some (.ref 0), some (.ref 51), some (.int (nI i))] [] (HX I A J B F) P) : Wp X xT 8 mL_law 889 [some (.ref 1000), some (.ref 0), some (.ref 51), some (.int (nI i))] [] (HX I A J B F) P := by
  obtain ⟨r, I1, A1, J1, B1, F1, I2, A2, J2, B2, F2, e1, e2, hr2⟩ := hop (X.2 (nI i + 1).toNatClampNeg) (X.2 (nI i + 2).toNatClampNeg) (X.2 (nI i + 3).toNatClampNeg) _ _ _ _ _ hr
  refine q_aload_n rfl rfl ?_
  refine q_aload_n rfl rfl ?_
  refine q_iload_n rfl rfl ?_
  refine q_iconst (v := 1) rfl rfl ?_
  refine q_iadd rfl ?_
  refine q_iaload_s rfl (sc_ix (k := 1) (show i + 1 < X.1 by omega) hL) ?_
  refine q_aload_n rfl rfl ?_
  refine q_iload_n rfl rfl ?_
  refine q_iconst (v := 2) rfl rfl ?_
  refine q_iadd rfl ?_
  refine q_iaload_s rfl (sc_ix (k := 2) (show i + 2 < X.1 by omega) hL) ?_
  refine q_aload_n rfl rfl ?_
  refine q_iload_n rfl rfl ?_
  refine q_iconst (v := 3) rfl rfl ?_
  refine q_iadd rfl ?_
  refine q_iaload_s rfl (sc_ix (k := 3) (show i + 3 < X.1 by omega) hL) ?_
  refine q_callV3 rfl hx_0 (Nat.le_of_ble_eq_true rfl) (Nat.le_of_ble_eq_true rfl) (e1) ?_
  refine q_aload_n rfl rfl ?_
  refine q_aload_n rfl rfl ?_
  refine q_iload_n rfl rfl ?_
  refine q_iconst (v := 1) rfl rfl ?_
  refine q_iadd rfl ?_
  refine q_iaload_s rfl (sc_ix (k := 1) (show i + 1 < X.1 by omega) hL) ?_
  refine q_aload_n rfl rfl ?_
  refine q_iload_n rfl rfl ?_
  refine q_iconst (v := 2) rfl rfl ?_
  refine q_iadd rfl ?_
  refine q_iaload_s rfl (sc_ix (k := 2) (show i + 2 < X.1 by omega) hL) ?_
  refine q_aload_n rfl rfl ?_
  refine q_iload_n rfl rfl ?_
  refine q_iconst (v := 3) rfl rfl ?_
  refine q_iadd rfl ?_
  refine q_iaload_s rfl (sc_ix (k := 3) (show i + 3 < X.1 by omega) hL) ?_
  refine q_callV3 rfl hx_51 (Nat.le_of_ble_eq_true rfl) (Nat.le_of_ble_eq_true rfl) (e2) ?_
  refine q_icmp_eq rfl (fun hc927 => ?_) (fun hc927 => ?_)
  · exact next _ _ _ _ _ hr2
  · exact absurd rfl hc927
set_option maxRecDepth 100000 in
theorem law_24 {X : XX} {R : XR} {P : Option Value → XH → Prop} {i : Nat} (hL : X.1 ≤ 384) (hi : i + 6 ≤ X.1) (hop : Op_24 X R) {I A : Nat → Nat → Int32} {J B : Nat → Nat → Int64} {F : Nat → Nat} (hr : R I A J B F) (next : ∀ I A J B F, R I A J B F → Wp X xT 8 mL_law 1462 [some (.ref 1000), some (.ref 0), some (.ref 51), some (.int (nI i))] [] (HX I A J B F) P) : Wp X xT 8 mL_law 932 [some (.ref 1000), some (.ref 0), some (.ref 51), some (.int (nI i))] [] (HX I A J B F) P := by
  obtain ⟨r, I1, A1, J1, B1, F1, I2, A2, J2, B2, F2, e1, e2, hr2⟩ := hop (X.2 (nI i + 1).toNatClampNeg) (X.2 (nI i + 2).toNatClampNeg) _ _ _ _ _ hr
  refine q_aload_n rfl rfl ?_
  refine q_aload_n rfl rfl ?_
  refine q_iload_n rfl rfl ?_
  refine q_iconst (v := 1) rfl rfl ?_
  refine q_iadd rfl ?_
  refine q_iaload_s rfl (sc_ix (k := 1) (show i + 1 < X.1 by omega) hL) ?_
  refine q_aload_n rfl rfl ?_
  refine q_iload_n rfl rfl ?_
  refine q_iconst (v := 2) rfl rfl ?_
  refine q_iadd rfl ?_
  refine q_iaload_s rfl (sc_ix (k := 2) (show i + 2 < X.1 by omega) hL) ?_
  refine q_callV2 rfl hx_0 (Nat.le_of_ble_eq_true rfl) (Nat.le_of_ble_eq_true rfl) (e1) ?_
  refine q_aload_n rfl rfl ?_
  refine q_aload_n rfl rfl ?_
  refine q_iload_n rfl rfl ?_
  refine q_iconst (v := 1) rfl rfl ?_
  refine q_iadd rfl ?_
  refine q_iaload_s rfl (sc_ix (k := 1) (show i + 1 < X.1 by omega) hL) ?_
  refine q_aload_n rfl rfl ?_
  refine q_iload_n rfl rfl ?_
  refine q_iconst (v := 2) rfl rfl ?_
  refine q_iadd rfl ?_
  refine q_iaload_s rfl (sc_ix (k := 2) (show i + 2 < X.1 by omega) hL) ?_
  refine q_callV2 rfl hx_51 (Nat.le_of_ble_eq_true rfl) (Nat.le_of_ble_eq_true rfl) (e2) ?_
  refine q_icmp_eq rfl (fun hc960 => ?_) (fun hc960 => ?_)
  · exact next _ _ _ _ _ hr2
  · exact absurd rfl hc960
set_option maxRecDepth 100000 in
theorem law_25 {X : XX} {R : XR} {P : Option Value → XH → Prop} {i : Nat} (hL : X.1 ≤ 384) (hi : i + 6 ≤ X.1) (hop : Op_25 X R) {I A : Nat → Nat → Int32} {J B : Nat → Nat → Int64} {F : Nat → Nat} (hr : R I A J B F) (next : ∀ I A J B F, R I A J B F → Wp X xT 8 mL_law 1462 [some (.ref 1000), some (.ref 0), some (.ref 51), some (.int (nI i))] [] (HX I A J B F) P) : Wp X xT 8 mL_law 965 [some (.ref 1000), some (.ref 0), some (.ref 51), some (.int (nI i))] [] (HX I A J B F) P := by
  obtain ⟨r, I1, A1, J1, B1, F1, I2, A2, J2, B2, F2, e1, e2, hr2⟩ := hop (X.2 (nI i + 1).toNatClampNeg) (X.2 (nI i + 2).toNatClampNeg) (X.2 (nI i + 3).toNatClampNeg) _ _ _ _ _ hr
  refine q_aload_n rfl rfl ?_
  refine q_aload_n rfl rfl ?_
  refine q_iload_n rfl rfl ?_
  refine q_iconst (v := 1) rfl rfl ?_
  refine q_iadd rfl ?_
  refine q_iaload_s rfl (sc_ix (k := 1) (show i + 1 < X.1 by omega) hL) ?_
  refine q_aload_n rfl rfl ?_
  refine q_iload_n rfl rfl ?_
  refine q_iconst (v := 2) rfl rfl ?_
  refine q_iadd rfl ?_
  refine q_iaload_s rfl (sc_ix (k := 2) (show i + 2 < X.1 by omega) hL) ?_
  refine q_aload_n rfl rfl ?_
  refine q_iload_n rfl rfl ?_
  refine q_iconst (v := 3) rfl rfl ?_
  refine q_iadd rfl ?_
  refine q_iaload_s rfl (sc_ix (k := 3) (show i + 3 < X.1 by omega) hL) ?_
  refine q_callV3 rfl hx_0 (Nat.le_of_ble_eq_true rfl) (Nat.le_of_ble_eq_true rfl) (e1) ?_
  refine q_aload_n rfl rfl ?_
  refine q_aload_n rfl rfl ?_
  refine q_iload_n rfl rfl ?_
  refine q_iconst (v := 1) rfl rfl ?_
  refine q_iadd rfl ?_
  refine q_iaload_s rfl (sc_ix (k := 1) (show i + 1 < X.1 by omega) hL) ?_
  refine q_aload_n rfl rfl ?_
  refine q_iload_n rfl rfl ?_
  refine q_iconst (v := 2) rfl rfl ?_
  refine q_iadd rfl ?_
  refine q_iaload_s rfl (sc_ix (k := 2) (show i + 2 < X.1 by omega) hL) ?_
  refine q_aload_n rfl rfl ?_
  refine q_iload_n rfl rfl ?_
  refine q_iconst (v := 3) rfl rfl ?_
  refine q_iadd rfl ?_
  refine q_iaload_s rfl (sc_ix (k := 3) (show i + 3 < X.1 by omega) hL) ?_
  refine q_callV3 rfl hx_51 (Nat.le_of_ble_eq_true rfl) (Nat.le_of_ble_eq_true rfl) (e2) ?_
  refine q_icmp_eq rfl (fun hc1003 => ?_) (fun hc1003 => ?_)
  · exact next _ _ _ _ _ hr2
  · exact absurd rfl hc1003
set_option maxRecDepth 100000 in
theorem law_26 {X : XX} {R : XR} {P : Option Value → XH → Prop} {i : Nat} (hL : X.1 ≤ 384) (hi : i + 6 ≤ X.1) (hop : Op_26 X R) {I A : Nat → Nat → Int32} {J B : Nat → Nat → Int64} {F : Nat → Nat} (hr : R I A J B F) (next : ∀ I A J B F, R I A J B F → Wp X xT 8 mL_law 1462 [some (.ref 1000), some (.ref 0), some (.ref 51), some (.int (nI i))] [] (HX I A J B F) P) : Wp X xT 8 mL_law 1008 [some (.ref 1000), some (.ref 0), some (.ref 51), some (.int (nI i))] [] (HX I A J B F) P := by
  obtain ⟨r, I1, A1, J1, B1, F1, I2, A2, J2, B2, F2, e1, e2, hr2⟩ := hop (X.2 (nI i + 1).toNatClampNeg) (X.2 (nI i + 2).toNatClampNeg) _ _ _ _ _ hr
  refine q_aload_n rfl rfl ?_
  refine q_aload_n rfl rfl ?_
  refine q_iload_n rfl rfl ?_
  refine q_iconst (v := 1) rfl rfl ?_
  refine q_iadd rfl ?_
  refine q_iaload_s rfl (sc_ix (k := 1) (show i + 1 < X.1 by omega) hL) ?_
  refine q_aload_n rfl rfl ?_
  refine q_iload_n rfl rfl ?_
  refine q_iconst (v := 2) rfl rfl ?_
  refine q_iadd rfl ?_
  refine q_iaload_s rfl (sc_ix (k := 2) (show i + 2 < X.1 by omega) hL) ?_
  refine q_callV2 rfl hx_0 (Nat.le_of_ble_eq_true rfl) (Nat.le_of_ble_eq_true rfl) (e1) ?_
  refine q_aload_n rfl rfl ?_
  refine q_aload_n rfl rfl ?_
  refine q_iload_n rfl rfl ?_
  refine q_iconst (v := 1) rfl rfl ?_
  refine q_iadd rfl ?_
  refine q_iaload_s rfl (sc_ix (k := 1) (show i + 1 < X.1 by omega) hL) ?_
  refine q_aload_n rfl rfl ?_
  refine q_iload_n rfl rfl ?_
  refine q_iconst (v := 2) rfl rfl ?_
  refine q_iadd rfl ?_
  refine q_iaload_s rfl (sc_ix (k := 2) (show i + 2 < X.1 by omega) hL) ?_
  refine q_callV2 rfl hx_51 (Nat.le_of_ble_eq_true rfl) (Nat.le_of_ble_eq_true rfl) (e2) ?_
  refine q_icmp_eq rfl (fun hc1036 => ?_) (fun hc1036 => ?_)
  · exact next _ _ _ _ _ hr2
  · exact absurd rfl hc1036
set_option maxRecDepth 100000 in
theorem law_27 {X : XX} {R : XR} {P : Option Value → XH → Prop} {i : Nat} (hL : X.1 ≤ 384) (hi : i + 6 ≤ X.1) (hop : Op_27 X R) {I A : Nat → Nat → Int32} {J B : Nat → Nat → Int64} {F : Nat → Nat} (hr : R I A J B F) (next : ∀ I A J B F, R I A J B F → Wp X xT 8 mL_law 1462 [some (.ref 1000), some (.ref 0), some (.ref 51), some (.int (nI i))] [] (HX I A J B F) P) : Wp X xT 8 mL_law 1041 [some (.ref 1000), some (.ref 0), some (.ref 51), some (.int (nI i))] [] (HX I A J B F) P := by
  obtain ⟨r, I1, A1, J1, B1, F1, I2, A2, J2, B2, F2, e1, e2, hr2⟩ := hop (X.2 (nI i + 1).toNatClampNeg) _ _ _ _ _ hr
  refine q_aload_n rfl rfl ?_
  refine q_aload_n rfl rfl ?_
  refine q_iload_n rfl rfl ?_
  refine q_iconst (v := 1) rfl rfl ?_
  refine q_iadd rfl ?_
  refine q_iaload_s rfl (sc_ix (k := 1) (show i + 1 < X.1 by omega) hL) ?_
  refine q_callV1 rfl hx_0 (Nat.le_of_ble_eq_true rfl) (Nat.le_of_ble_eq_true rfl) (e1) ?_
  refine q_aload_n rfl rfl ?_
  refine q_aload_n rfl rfl ?_
  refine q_iload_n rfl rfl ?_
  refine q_iconst (v := 1) rfl rfl ?_
  refine q_iadd rfl ?_
  refine q_iaload_s rfl (sc_ix (k := 1) (show i + 1 < X.1 by omega) hL) ?_
  refine q_callV1 rfl hx_51 (Nat.le_of_ble_eq_true rfl) (Nat.le_of_ble_eq_true rfl) (e2) ?_
  refine q_icmp_eq rfl (fun hc1059 => ?_) (fun hc1059 => ?_)
  · exact next _ _ _ _ _ hr2
  · exact absurd rfl hc1059
set_option maxRecDepth 100000 in
theorem law_28 {X : XX} {R : XR} {P : Option Value → XH → Prop} {i : Nat} (hL : X.1 ≤ 384) (hi : i + 6 ≤ X.1) (hop : Op_28 X R) {I A : Nat → Nat → Int32} {J B : Nat → Nat → Int64} {F : Nat → Nat} (hr : R I A J B F) (next : ∀ I A J B F, R I A J B F → Wp X xT 8 mL_law 1462 [some (.ref 1000), some (.ref 0), some (.ref 51), some (.int (nI i))] [] (HX I A J B F) P) : Wp X xT 8 mL_law 1064 [some (.ref 1000), some (.ref 0), some (.ref 51), some (.int (nI i))] [] (HX I A J B F) P := by
  obtain ⟨r, I1, A1, J1, B1, F1, I2, A2, J2, B2, F2, e1, e2, hr2⟩ := hop (X.2 (nI i + 1).toNatClampNeg) (X.2 (nI i + 2).toNatClampNeg) _ _ _ _ _ hr
  refine q_aload_n rfl rfl ?_
  refine q_aload_n rfl rfl ?_
  refine q_iload_n rfl rfl ?_
  refine q_iconst (v := 1) rfl rfl ?_
  refine q_iadd rfl ?_
  refine q_iaload_s rfl (sc_ix (k := 1) (show i + 1 < X.1 by omega) hL) ?_
  refine q_aload_n rfl rfl ?_
  refine q_iload_n rfl rfl ?_
  refine q_iconst (v := 2) rfl rfl ?_
  refine q_iadd rfl ?_
  refine q_iaload_s rfl (sc_ix (k := 2) (show i + 2 < X.1 by omega) hL) ?_
  refine q_callV2 rfl hx_0 (Nat.le_of_ble_eq_true rfl) (Nat.le_of_ble_eq_true rfl) (e1) ?_
  refine q_aload_n rfl rfl ?_
  refine q_aload_n rfl rfl ?_
  refine q_iload_n rfl rfl ?_
  refine q_iconst (v := 1) rfl rfl ?_
  refine q_iadd rfl ?_
  refine q_iaload_s rfl (sc_ix (k := 1) (show i + 1 < X.1 by omega) hL) ?_
  refine q_aload_n rfl rfl ?_
  refine q_iload_n rfl rfl ?_
  refine q_iconst (v := 2) rfl rfl ?_
  refine q_iadd rfl ?_
  refine q_iaload_s rfl (sc_ix (k := 2) (show i + 2 < X.1 by omega) hL) ?_
  refine q_callV2 rfl hx_51 (Nat.le_of_ble_eq_true rfl) (Nat.le_of_ble_eq_true rfl) (e2) ?_
  refine q_icmp_eq rfl (fun hc1092 => ?_) (fun hc1092 => ?_)
  · exact next _ _ _ _ _ hr2
  · exact absurd rfl hc1092
set_option maxRecDepth 100000 in
theorem law_29 {X : XX} {R : XR} {P : Option Value → XH → Prop} {i : Nat} (hL : X.1 ≤ 384) (hi : i + 6 ≤ X.1) (hop : Op_29 X R) {I A : Nat → Nat → Int32} {J B : Nat → Nat → Int64} {F : Nat → Nat} (hr : R I A J B F) (next : ∀ I A J B F, R I A J B F → Wp X xT 8 mL_law 1462 [some (.ref 1000), some (.ref 0), some (.ref 51), some (.int (nI i))] [] (HX I A J B F) P) : Wp X xT 8 mL_law 1097 [some (.ref 1000), some (.ref 0), some (.ref 51), some (.int (nI i))] [] (HX I A J B F) P := by
  obtain ⟨r, I1, A1, J1, B1, F1, I2, A2, J2, B2, F2, e1, e2, hr2⟩ := hop (X.2 (nI i + 1).toNatClampNeg) (X.2 (nI i + 2).toNatClampNeg) _ _ _ _ _ hr
  refine q_aload_n rfl rfl ?_
  refine q_aload_n rfl rfl ?_
  refine q_iload_n rfl rfl ?_
  refine q_iconst (v := 1) rfl rfl ?_
  refine q_iadd rfl ?_
  refine q_iaload_s rfl (sc_ix (k := 1) (show i + 1 < X.1 by omega) hL) ?_
  refine q_aload_n rfl rfl ?_
  refine q_iload_n rfl rfl ?_
  refine q_iconst (v := 2) rfl rfl ?_
  refine q_iadd rfl ?_
  refine q_iaload_s rfl (sc_ix (k := 2) (show i + 2 < X.1 by omega) hL) ?_
  refine q_callV2 rfl hx_0 (Nat.le_of_ble_eq_true rfl) (Nat.le_of_ble_eq_true rfl) (e1) ?_
  refine q_aload_n rfl rfl ?_
  refine q_aload_n rfl rfl ?_
  refine q_iload_n rfl rfl ?_
  refine q_iconst (v := 1) rfl rfl ?_
  refine q_iadd rfl ?_
  refine q_iaload_s rfl (sc_ix (k := 1) (show i + 1 < X.1 by omega) hL) ?_
  refine q_aload_n rfl rfl ?_
  refine q_iload_n rfl rfl ?_
  refine q_iconst (v := 2) rfl rfl ?_
  refine q_iadd rfl ?_
  refine q_iaload_s rfl (sc_ix (k := 2) (show i + 2 < X.1 by omega) hL) ?_
  refine q_callV2 rfl hx_51 (Nat.le_of_ble_eq_true rfl) (Nat.le_of_ble_eq_true rfl) (e2) ?_
  refine q_icmp_eq rfl (fun hc1125 => ?_) (fun hc1125 => ?_)
  · exact next _ _ _ _ _ hr2
  · exact absurd rfl hc1125
set_option maxRecDepth 100000 in
theorem law_30 {X : XX} {R : XR} {P : Option Value → XH → Prop} {i : Nat} (hL : X.1 ≤ 384) (hi : i + 6 ≤ X.1) (hop : Op_30 X R) {I A : Nat → Nat → Int32} {J B : Nat → Nat → Int64} {F : Nat → Nat} (hr : R I A J B F) (next : ∀ I A J B F, R I A J B F → Wp X xT 8 mL_law 1462 [some (.ref 1000), some (.ref 0), some (.ref 51), some (.int (nI i))] [] (HX I A J B F) P) : Wp X xT 8 mL_law 1130 [some (.ref 1000), some (.ref 0), some (.ref 51), some (.int (nI i))] [] (HX I A J B F) P := by
  obtain ⟨r, I1, A1, J1, B1, F1, I2, A2, J2, B2, F2, e1, e2, hr2⟩ := hop (X.2 (nI i + 1).toNatClampNeg) (X.2 (nI i + 2).toNatClampNeg) _ _ _ _ _ hr
  refine q_aload_n rfl rfl ?_
  refine q_aload_n rfl rfl ?_
  refine q_iload_n rfl rfl ?_
  refine q_iconst (v := 1) rfl rfl ?_
  refine q_iadd rfl ?_
  refine q_iaload_s rfl (sc_ix (k := 1) (show i + 1 < X.1 by omega) hL) ?_
  refine q_aload_n rfl rfl ?_
  refine q_iload_n rfl rfl ?_
  refine q_iconst (v := 2) rfl rfl ?_
  refine q_iadd rfl ?_
  refine q_iaload_s rfl (sc_ix (k := 2) (show i + 2 < X.1 by omega) hL) ?_
  refine q_callV2 rfl hx_0 (Nat.le_of_ble_eq_true rfl) (Nat.le_of_ble_eq_true rfl) (e1) ?_
  refine q_aload_n rfl rfl ?_
  refine q_aload_n rfl rfl ?_
  refine q_iload_n rfl rfl ?_
  refine q_iconst (v := 1) rfl rfl ?_
  refine q_iadd rfl ?_
  refine q_iaload_s rfl (sc_ix (k := 1) (show i + 1 < X.1 by omega) hL) ?_
  refine q_aload_n rfl rfl ?_
  refine q_iload_n rfl rfl ?_
  refine q_iconst (v := 2) rfl rfl ?_
  refine q_iadd rfl ?_
  refine q_iaload_s rfl (sc_ix (k := 2) (show i + 2 < X.1 by omega) hL) ?_
  refine q_callV2 rfl hx_51 (Nat.le_of_ble_eq_true rfl) (Nat.le_of_ble_eq_true rfl) (e2) ?_
  refine q_icmp_eq rfl (fun hc1158 => ?_) (fun hc1158 => ?_)
  · exact next _ _ _ _ _ hr2
  · exact absurd rfl hc1158
set_option maxRecDepth 100000 in
theorem law_31 {X : XX} {R : XR} {P : Option Value → XH → Prop} {i : Nat} (hL : X.1 ≤ 384) (hi : i + 6 ≤ X.1) (hop : Op_31 X R) {I A : Nat → Nat → Int32} {J B : Nat → Nat → Int64} {F : Nat → Nat} (hr : R I A J B F) (next : ∀ I A J B F, R I A J B F → Wp X xT 8 mL_law 1462 [some (.ref 1000), some (.ref 0), some (.ref 51), some (.int (nI i))] [] (HX I A J B F) P) : Wp X xT 8 mL_law 1163 [some (.ref 1000), some (.ref 0), some (.ref 51), some (.int (nI i))] [] (HX I A J B F) P := by
  obtain ⟨r, I1, A1, J1, B1, F1, I2, A2, J2, B2, F2, e1, e2, hr2⟩ := hop (X.2 (nI i + 1).toNatClampNeg) (X.2 (nI i + 2).toNatClampNeg) _ _ _ _ _ hr
  refine q_aload_n rfl rfl ?_
  refine q_aload_n rfl rfl ?_
  refine q_iload_n rfl rfl ?_
  refine q_iconst (v := 1) rfl rfl ?_
  refine q_iadd rfl ?_
  refine q_iaload_s rfl (sc_ix (k := 1) (show i + 1 < X.1 by omega) hL) ?_
  refine q_aload_n rfl rfl ?_
  refine q_iload_n rfl rfl ?_
  refine q_iconst (v := 2) rfl rfl ?_
  refine q_iadd rfl ?_
  refine q_iaload_s rfl (sc_ix (k := 2) (show i + 2 < X.1 by omega) hL) ?_
  refine q_callV2 rfl hx_0 (Nat.le_of_ble_eq_true rfl) (Nat.le_of_ble_eq_true rfl) (e1) ?_
  refine q_aload_n rfl rfl ?_
  refine q_aload_n rfl rfl ?_
  refine q_iload_n rfl rfl ?_
  refine q_iconst (v := 1) rfl rfl ?_
  refine q_iadd rfl ?_
  refine q_iaload_s rfl (sc_ix (k := 1) (show i + 1 < X.1 by omega) hL) ?_
  refine q_aload_n rfl rfl ?_
  refine q_iload_n rfl rfl ?_
  refine q_iconst (v := 2) rfl rfl ?_
  refine q_iadd rfl ?_
  refine q_iaload_s rfl (sc_ix (k := 2) (show i + 2 < X.1 by omega) hL) ?_
  refine q_callV2 rfl hx_51 (Nat.le_of_ble_eq_true rfl) (Nat.le_of_ble_eq_true rfl) (e2) ?_
  refine q_icmp_eq rfl (fun hc1191 => ?_) (fun hc1191 => ?_)
  · exact next _ _ _ _ _ hr2
  · exact absurd rfl hc1191
set_option maxRecDepth 100000 in
theorem law_32 {X : XX} {R : XR} {P : Option Value → XH → Prop} {i : Nat} (hL : X.1 ≤ 384) (hi : i + 6 ≤ X.1) (hop : Op_32 X R) {I A : Nat → Nat → Int32} {J B : Nat → Nat → Int64} {F : Nat → Nat} (hr : R I A J B F) (next : ∀ I A J B F, R I A J B F → Wp X xT 8 mL_law 1462 [some (.ref 1000), some (.ref 0), some (.ref 51), some (.int (nI i))] [] (HX I A J B F) P) : Wp X xT 8 mL_law 1196 [some (.ref 1000), some (.ref 0), some (.ref 51), some (.int (nI i))] [] (HX I A J B F) P := by
  obtain ⟨r, I1, A1, J1, B1, F1, I2, A2, J2, B2, F2, e1, e2, hr2⟩ := hop (X.2 (nI i + 1).toNatClampNeg) (X.2 (nI i + 2).toNatClampNeg) _ _ _ _ _ hr
  refine q_aload_n rfl rfl ?_
  refine q_aload_n rfl rfl ?_
  refine q_iload_n rfl rfl ?_
  refine q_iconst (v := 1) rfl rfl ?_
  refine q_iadd rfl ?_
  refine q_iaload_s rfl (sc_ix (k := 1) (show i + 1 < X.1 by omega) hL) ?_
  refine q_aload_n rfl rfl ?_
  refine q_iload_n rfl rfl ?_
  refine q_iconst (v := 2) rfl rfl ?_
  refine q_iadd rfl ?_
  refine q_iaload_s rfl (sc_ix (k := 2) (show i + 2 < X.1 by omega) hL) ?_
  refine q_callV2 rfl hx_0 (Nat.le_of_ble_eq_true rfl) (Nat.le_of_ble_eq_true rfl) (e1) ?_
  refine q_aload_n rfl rfl ?_
  refine q_aload_n rfl rfl ?_
  refine q_iload_n rfl rfl ?_
  refine q_iconst (v := 1) rfl rfl ?_
  refine q_iadd rfl ?_
  refine q_iaload_s rfl (sc_ix (k := 1) (show i + 1 < X.1 by omega) hL) ?_
  refine q_aload_n rfl rfl ?_
  refine q_iload_n rfl rfl ?_
  refine q_iconst (v := 2) rfl rfl ?_
  refine q_iadd rfl ?_
  refine q_iaload_s rfl (sc_ix (k := 2) (show i + 2 < X.1 by omega) hL) ?_
  refine q_callV2 rfl hx_51 (Nat.le_of_ble_eq_true rfl) (Nat.le_of_ble_eq_true rfl) (e2) ?_
  refine q_icmp_eq rfl (fun hc1224 => ?_) (fun hc1224 => ?_)
  · exact next _ _ _ _ _ hr2
  · exact absurd rfl hc1224
set_option maxRecDepth 100000 in
theorem law_33 {X : XX} {R : XR} {P : Option Value → XH → Prop} {i : Nat} (hL : X.1 ≤ 384) (hi : i + 6 ≤ X.1) (hop : Op_33 X R) {I A : Nat → Nat → Int32} {J B : Nat → Nat → Int64} {F : Nat → Nat} (hr : R I A J B F) (next : ∀ I A J B F, R I A J B F → Wp X xT 8 mL_law 1462 [some (.ref 1000), some (.ref 0), some (.ref 51), some (.int (nI i))] [] (HX I A J B F) P) : Wp X xT 8 mL_law 1229 [some (.ref 1000), some (.ref 0), some (.ref 51), some (.int (nI i))] [] (HX I A J B F) P := by
  obtain ⟨r, I1, A1, J1, B1, F1, I2, A2, J2, B2, F2, e1, e2, hr2⟩ := hop (X.2 (nI i + 1).toNatClampNeg) (X.2 (nI i + 2).toNatClampNeg) (X.2 (nI i + 3).toNatClampNeg) _ _ _ _ _ hr
  refine q_aload_n rfl rfl ?_
  refine q_aload_n rfl rfl ?_
  refine q_iload_n rfl rfl ?_
  refine q_iconst (v := 1) rfl rfl ?_
  refine q_iadd rfl ?_
  refine q_iaload_s rfl (sc_ix (k := 1) (show i + 1 < X.1 by omega) hL) ?_
  refine q_aload_n rfl rfl ?_
  refine q_iload_n rfl rfl ?_
  refine q_iconst (v := 2) rfl rfl ?_
  refine q_iadd rfl ?_
  refine q_iaload_s rfl (sc_ix (k := 2) (show i + 2 < X.1 by omega) hL) ?_
  refine q_aload_n rfl rfl ?_
  refine q_iload_n rfl rfl ?_
  refine q_iconst (v := 3) rfl rfl ?_
  refine q_iadd rfl ?_
  refine q_iaload_s rfl (sc_ix (k := 3) (show i + 3 < X.1 by omega) hL) ?_
  refine q_callV3 rfl hx_0 (Nat.le_of_ble_eq_true rfl) (Nat.le_of_ble_eq_true rfl) (e1) ?_
  refine q_aload_n rfl rfl ?_
  refine q_aload_n rfl rfl ?_
  refine q_iload_n rfl rfl ?_
  refine q_iconst (v := 1) rfl rfl ?_
  refine q_iadd rfl ?_
  refine q_iaload_s rfl (sc_ix (k := 1) (show i + 1 < X.1 by omega) hL) ?_
  refine q_aload_n rfl rfl ?_
  refine q_iload_n rfl rfl ?_
  refine q_iconst (v := 2) rfl rfl ?_
  refine q_iadd rfl ?_
  refine q_iaload_s rfl (sc_ix (k := 2) (show i + 2 < X.1 by omega) hL) ?_
  refine q_aload_n rfl rfl ?_
  refine q_iload_n rfl rfl ?_
  refine q_iconst (v := 3) rfl rfl ?_
  refine q_iadd rfl ?_
  refine q_iaload_s rfl (sc_ix (k := 3) (show i + 3 < X.1 by omega) hL) ?_
  refine q_callV3 rfl hx_51 (Nat.le_of_ble_eq_true rfl) (Nat.le_of_ble_eq_true rfl) (e2) ?_
  refine q_icmp_eq rfl (fun hc1267 => ?_) (fun hc1267 => ?_)
  · exact next _ _ _ _ _ hr2
  · exact absurd rfl hc1267
set_option maxRecDepth 100000 in
theorem law_34 {X : XX} {R : XR} {P : Option Value → XH → Prop} {i : Nat} (hL : X.1 ≤ 384) (hi : i + 6 ≤ X.1) (hop : Op_34 X R) {I A : Nat → Nat → Int32} {J B : Nat → Nat → Int64} {F : Nat → Nat} (hr : R I A J B F) (next : ∀ I A J B F, R I A J B F → Wp X xT 8 mL_law 1462 [some (.ref 1000), some (.ref 0), some (.ref 51), some (.int (nI i))] [] (HX I A J B F) P) : Wp X xT 8 mL_law 1272 [some (.ref 1000), some (.ref 0), some (.ref 51), some (.int (nI i))] [] (HX I A J B F) P := by
  obtain ⟨r, I1, A1, J1, B1, F1, I2, A2, J2, B2, F2, e1, e2, hr2⟩ := hop (X.2 (nI i + 1).toNatClampNeg) (X.2 (nI i + 2).toNatClampNeg) (X.2 (nI i + 3).toNatClampNeg) _ _ _ _ _ hr
  refine q_aload_n rfl rfl ?_
  refine q_aload_n rfl rfl ?_
  refine q_iload_n rfl rfl ?_
  refine q_iconst (v := 1) rfl rfl ?_
  refine q_iadd rfl ?_
  refine q_iaload_s rfl (sc_ix (k := 1) (show i + 1 < X.1 by omega) hL) ?_
  refine q_aload_n rfl rfl ?_
  refine q_iload_n rfl rfl ?_
  refine q_iconst (v := 2) rfl rfl ?_
  refine q_iadd rfl ?_
  refine q_iaload_s rfl (sc_ix (k := 2) (show i + 2 < X.1 by omega) hL) ?_
  refine q_aload_n rfl rfl ?_
  refine q_iload_n rfl rfl ?_
  refine q_iconst (v := 3) rfl rfl ?_
  refine q_iadd rfl ?_
  refine q_iaload_s rfl (sc_ix (k := 3) (show i + 3 < X.1 by omega) hL) ?_
  refine q_callV3 rfl hx_0 (Nat.le_of_ble_eq_true rfl) (Nat.le_of_ble_eq_true rfl) (e1) ?_
  refine q_aload_n rfl rfl ?_
  refine q_aload_n rfl rfl ?_
  refine q_iload_n rfl rfl ?_
  refine q_iconst (v := 1) rfl rfl ?_
  refine q_iadd rfl ?_
  refine q_iaload_s rfl (sc_ix (k := 1) (show i + 1 < X.1 by omega) hL) ?_
  refine q_aload_n rfl rfl ?_
  refine q_iload_n rfl rfl ?_
  refine q_iconst (v := 2) rfl rfl ?_
  refine q_iadd rfl ?_
  refine q_iaload_s rfl (sc_ix (k := 2) (show i + 2 < X.1 by omega) hL) ?_
  refine q_aload_n rfl rfl ?_
  refine q_iload_n rfl rfl ?_
  refine q_iconst (v := 3) rfl rfl ?_
  refine q_iadd rfl ?_
  refine q_iaload_s rfl (sc_ix (k := 3) (show i + 3 < X.1 by omega) hL) ?_
  refine q_callV3 rfl hx_51 (Nat.le_of_ble_eq_true rfl) (Nat.le_of_ble_eq_true rfl) (e2) ?_
  refine q_icmp_eq rfl (fun hc1310 => ?_) (fun hc1310 => ?_)
  · exact next _ _ _ _ _ hr2
  · exact absurd rfl hc1310
set_option maxRecDepth 100000 in
theorem law_35 {X : XX} {R : XR} {P : Option Value → XH → Prop} {i : Nat} (hL : X.1 ≤ 384) (hi : i + 6 ≤ X.1) (hop : Op_35 X R) {I A : Nat → Nat → Int32} {J B : Nat → Nat → Int64} {F : Nat → Nat} (hr : R I A J B F) (next : ∀ I A J B F, R I A J B F → Wp X xT 8 mL_law 1462 [some (.ref 1000), some (.ref 0), some (.ref 51), some (.int (nI i))] [] (HX I A J B F) P) : Wp X xT 8 mL_law 1315 [some (.ref 1000), some (.ref 0), some (.ref 51), some (.int (nI i))] [] (HX I A J B F) P := by
  obtain ⟨r, I1, A1, J1, B1, F1, I2, A2, J2, B2, F2, e1, e2, hr2⟩ := hop (X.2 (nI i + 1).toNatClampNeg) (X.2 (nI i + 2).toNatClampNeg) _ _ _ _ _ hr
  refine q_aload_n rfl rfl ?_
  refine q_aload_n rfl rfl ?_
  refine q_iload_n rfl rfl ?_
  refine q_iconst (v := 1) rfl rfl ?_
  refine q_iadd rfl ?_
  refine q_iaload_s rfl (sc_ix (k := 1) (show i + 1 < X.1 by omega) hL) ?_
  refine q_aload_n rfl rfl ?_
  refine q_iload_n rfl rfl ?_
  refine q_iconst (v := 2) rfl rfl ?_
  refine q_iadd rfl ?_
  refine q_iaload_s rfl (sc_ix (k := 2) (show i + 2 < X.1 by omega) hL) ?_
  refine q_callV2 rfl hx_0 (Nat.le_of_ble_eq_true rfl) (Nat.le_of_ble_eq_true rfl) (e1) ?_
  refine q_aload_n rfl rfl ?_
  refine q_aload_n rfl rfl ?_
  refine q_iload_n rfl rfl ?_
  refine q_iconst (v := 1) rfl rfl ?_
  refine q_iadd rfl ?_
  refine q_iaload_s rfl (sc_ix (k := 1) (show i + 1 < X.1 by omega) hL) ?_
  refine q_aload_n rfl rfl ?_
  refine q_iload_n rfl rfl ?_
  refine q_iconst (v := 2) rfl rfl ?_
  refine q_iadd rfl ?_
  refine q_iaload_s rfl (sc_ix (k := 2) (show i + 2 < X.1 by omega) hL) ?_
  refine q_callV2 rfl hx_51 (Nat.le_of_ble_eq_true rfl) (Nat.le_of_ble_eq_true rfl) (e2) ?_
  refine q_icmp_eq rfl (fun hc1343 => ?_) (fun hc1343 => ?_)
  · exact next _ _ _ _ _ hr2
  · exact absurd rfl hc1343
set_option maxRecDepth 100000 in
theorem law_36 {X : XX} {R : XR} {P : Option Value → XH → Prop} {i : Nat} (hL : X.1 ≤ 384) (hi : i + 6 ≤ X.1) (hop : Op_36 X R) {I A : Nat → Nat → Int32} {J B : Nat → Nat → Int64} {F : Nat → Nat} (hr : R I A J B F) (next : ∀ I A J B F, R I A J B F → Wp X xT 8 mL_law 1462 [some (.ref 1000), some (.ref 0), some (.ref 51), some (.int (nI i))] [] (HX I A J B F) P) : Wp X xT 8 mL_law 1348 [some (.ref 1000), some (.ref 0), some (.ref 51), some (.int (nI i))] [] (HX I A J B F) P := by
  obtain ⟨r, I1, A1, J1, B1, F1, I2, A2, J2, B2, F2, e1, e2, hr2⟩ := hop  _ _ _ _ _ hr
  refine q_aload_n rfl rfl ?_
  refine q_callV0 rfl hx_0 (Nat.le_of_ble_eq_true rfl) (Nat.le_of_ble_eq_true rfl) (e1) ?_
  refine q_aload_n rfl rfl ?_
  refine q_callV0 rfl hx_51 (Nat.le_of_ble_eq_true rfl) (Nat.le_of_ble_eq_true rfl) (e2) ?_
  refine q_icmp_eq rfl (fun hc1356 => ?_) (fun hc1356 => ?_)
  · exact next _ _ _ _ _ hr2
  · exact absurd rfl hc1356
set_option maxRecDepth 100000 in
theorem law_37 {X : XX} {R : XR} {P : Option Value → XH → Prop} {i : Nat} (hL : X.1 ≤ 384) (hi : i + 6 ≤ X.1) (hop : Op_37 X R) {I A : Nat → Nat → Int32} {J B : Nat → Nat → Int64} {F : Nat → Nat} (hr : R I A J B F) (next : ∀ I A J B F, R I A J B F → Wp X xT 8 mL_law 1462 [some (.ref 1000), some (.ref 0), some (.ref 51), some (.int (nI i))] [] (HX I A J B F) P) : Wp X xT 8 mL_law 1361 [some (.ref 1000), some (.ref 0), some (.ref 51), some (.int (nI i))] [] (HX I A J B F) P := by
  obtain ⟨r, I1, A1, J1, B1, F1, I2, A2, J2, B2, F2, e1, e2, hr2⟩ := hop  _ _ _ _ _ hr
  refine q_aload_n rfl rfl ?_
  refine q_callV0 rfl hx_0 (Nat.le_of_ble_eq_true rfl) (Nat.le_of_ble_eq_true rfl) (e1) ?_
  refine q_aload_n rfl rfl ?_
  refine q_callV0 rfl hx_51 (Nat.le_of_ble_eq_true rfl) (Nat.le_of_ble_eq_true rfl) (e2) ?_
  refine q_lcmp rfl ?_
  refine q_if_eq rfl (fun hc1370 => ?_) (fun hc1370 => ?_)
  · exact next _ _ _ _ _ hr2
  · exact absurd (by simp [lg_cmp]) hc1370
set_option maxRecDepth 100000 in
theorem law_38 {X : XX} {R : XR} {P : Option Value → XH → Prop} {i : Nat} (hL : X.1 ≤ 384) (hi : i + 6 ≤ X.1) (hop : Op_38 X R) {I A : Nat → Nat → Int32} {J B : Nat → Nat → Int64} {F : Nat → Nat} (hr : R I A J B F) (next : ∀ I A J B F, R I A J B F → Wp X xT 8 mL_law 1462 [some (.ref 1000), some (.ref 0), some (.ref 51), some (.int (nI i))] [] (HX I A J B F) P) : Wp X xT 8 mL_law 1375 [some (.ref 1000), some (.ref 0), some (.ref 51), some (.int (nI i))] [] (HX I A J B F) P := by
  obtain ⟨r, I1, A1, J1, B1, F1, I2, A2, J2, B2, F2, e1, e2, hr2⟩ := hop  _ _ _ _ _ hr
  refine q_aload_n rfl rfl ?_
  refine q_callV0 rfl hx_0 (Nat.le_of_ble_eq_true rfl) (Nat.le_of_ble_eq_true rfl) (e1) ?_
  refine q_aload_n rfl rfl ?_
  refine q_callV0 rfl hx_51 (Nat.le_of_ble_eq_true rfl) (Nat.le_of_ble_eq_true rfl) (e2) ?_
  refine q_lcmp rfl ?_
  refine q_if_eq rfl (fun hc1384 => ?_) (fun hc1384 => ?_)
  · exact next _ _ _ _ _ hr2
  · exact absurd (by simp [lg_cmp]) hc1384
set_option maxRecDepth 100000 in
theorem law_39 {X : XX} {R : XR} {P : Option Value → XH → Prop} {i : Nat} (hL : X.1 ≤ 384) (hi : i + 6 ≤ X.1) (hop : Op_39 X R) {I A : Nat → Nat → Int32} {J B : Nat → Nat → Int64} {F : Nat → Nat} (hr : R I A J B F) (next : ∀ I A J B F, R I A J B F → Wp X xT 8 mL_law 1462 [some (.ref 1000), some (.ref 0), some (.ref 51), some (.int (nI i))] [] (HX I A J B F) P) : Wp X xT 8 mL_law 1389 [some (.ref 1000), some (.ref 0), some (.ref 51), some (.int (nI i))] [] (HX I A J B F) P := by
  obtain ⟨r, I1, A1, J1, B1, F1, I2, A2, J2, B2, F2, e1, e2, hr2⟩ := hop (X.2 (nI i + 1).toNatClampNeg) _ _ _ _ _ hr
  refine q_aload_n rfl rfl ?_
  refine q_aload_n rfl rfl ?_
  refine q_iload_n rfl rfl ?_
  refine q_iconst (v := 1) rfl rfl ?_
  refine q_iadd rfl ?_
  refine q_iaload_s rfl (sc_ix (k := 1) (show i + 1 < X.1 by omega) hL) ?_
  refine q_callV1 rfl hx_0 (Nat.le_of_ble_eq_true rfl) (Nat.le_of_ble_eq_true rfl) (e1) ?_
  refine q_aload_n rfl rfl ?_
  refine q_aload_n rfl rfl ?_
  refine q_iload_n rfl rfl ?_
  refine q_iconst (v := 1) rfl rfl ?_
  refine q_iadd rfl ?_
  refine q_iaload_s rfl (sc_ix (k := 1) (show i + 1 < X.1 by omega) hL) ?_
  refine q_callV1 rfl hx_51 (Nat.le_of_ble_eq_true rfl) (Nat.le_of_ble_eq_true rfl) (e2) ?_
  refine q_icmp_eq rfl (fun hc1407 => ?_) (fun hc1407 => ?_)
  · exact next _ _ _ _ _ hr2
  · exact absurd rfl hc1407
set_option maxRecDepth 100000 in
theorem law_40 {X : XX} {R : XR} {P : Option Value → XH → Prop} {i : Nat} (hL : X.1 ≤ 384) (hi : i + 6 ≤ X.1) (hop : Op_40 X R) {I A : Nat → Nat → Int32} {J B : Nat → Nat → Int64} {F : Nat → Nat} (hr : R I A J B F) (next : ∀ I A J B F, R I A J B F → Wp X xT 8 mL_law 1462 [some (.ref 1000), some (.ref 0), some (.ref 51), some (.int (nI i))] [] (HX I A J B F) P) : Wp X xT 8 mL_law 1412 [some (.ref 1000), some (.ref 0), some (.ref 51), some (.int (nI i))] [] (HX I A J B F) P := by
  obtain ⟨r, I1, A1, J1, B1, F1, I2, A2, J2, B2, F2, e1, e2, hr2⟩ := hop  _ _ _ _ _ hr
  refine q_aload_n rfl rfl ?_
  refine q_callV0 rfl hx_0 (Nat.le_of_ble_eq_true rfl) (Nat.le_of_ble_eq_true rfl) (e1) ?_
  refine q_aload_n rfl rfl ?_
  refine q_callV0 rfl hx_51 (Nat.le_of_ble_eq_true rfl) (Nat.le_of_ble_eq_true rfl) (e2) ?_
  refine q_icmp_eq rfl (fun hc1420 => ?_) (fun hc1420 => ?_)
  · exact next _ _ _ _ _ hr2
  · exact absurd rfl hc1420
set_option maxRecDepth 100000 in
theorem law_41 {X : XX} {R : XR} {P : Option Value → XH → Prop} {i : Nat} (hL : X.1 ≤ 384) (hi : i + 6 ≤ X.1) (hop : Op_41 X R) {I A : Nat → Nat → Int32} {J B : Nat → Nat → Int64} {F : Nat → Nat} (hr : R I A J B F) (next : ∀ I A J B F, R I A J B F → Wp X xT 8 mL_law 1462 [some (.ref 1000), some (.ref 0), some (.ref 51), some (.int (nI i))] [] (HX I A J B F) P) : Wp X xT 8 mL_law 1425 [some (.ref 1000), some (.ref 0), some (.ref 51), some (.int (nI i))] [] (HX I A J B F) P := by
  obtain ⟨r, I1, A1, J1, B1, F1, I2, A2, J2, B2, F2, e1, e2, hr2⟩ := hop (X.2 (nI i + 1).toNatClampNeg) _ _ _ _ _ hr
  refine q_aload_n rfl rfl ?_
  refine q_aload_n rfl rfl ?_
  refine q_iload_n rfl rfl ?_
  refine q_iconst (v := 1) rfl rfl ?_
  refine q_iadd rfl ?_
  refine q_iaload_s rfl (sc_ix (k := 1) (show i + 1 < X.1 by omega) hL) ?_
  refine q_callV1 rfl hx_0 (Nat.le_of_ble_eq_true rfl) (Nat.le_of_ble_eq_true rfl) (e1) ?_
  refine q_aload_n rfl rfl ?_
  refine q_aload_n rfl rfl ?_
  refine q_iload_n rfl rfl ?_
  refine q_iconst (v := 1) rfl rfl ?_
  refine q_iadd rfl ?_
  refine q_iaload_s rfl (sc_ix (k := 1) (show i + 1 < X.1 by omega) hL) ?_
  refine q_callV1 rfl hx_51 (Nat.le_of_ble_eq_true rfl) (Nat.le_of_ble_eq_true rfl) (e2) ?_
  refine q_icmp_eq rfl (fun hc1443 => ?_) (fun hc1443 => ?_)
  · exact next _ _ _ _ _ hr2
  · exact absurd rfl hc1443
set_option maxRecDepth 100000 in
theorem law_42 {X : XX} {R : XR} {P : Option Value → XH → Prop} {i : Nat} (hL : X.1 ≤ 384) (hi : i + 6 ≤ X.1) (hop : Op_42 X R) {I A : Nat → Nat → Int32} {J B : Nat → Nat → Int64} {F : Nat → Nat} (hr : R I A J B F) (next : ∀ I A J B F, R I A J B F → Wp X xT 8 mL_law 1462 [some (.ref 1000), some (.ref 0), some (.ref 51), some (.int (nI i))] [] (HX I A J B F) P) : Wp X xT 8 mL_law 1448 [some (.ref 1000), some (.ref 0), some (.ref 51), some (.int (nI i))] [] (HX I A J B F) P := by
  obtain ⟨r, I1, A1, J1, B1, F1, I2, A2, J2, B2, F2, e1, e2, hr2⟩ := hop  _ _ _ _ _ hr
  refine q_aload_n rfl rfl ?_
  refine q_callV0 rfl hx_0 (Nat.le_of_ble_eq_true rfl) (Nat.le_of_ble_eq_true rfl) (e1) ?_
  refine q_aload_n rfl rfl ?_
  refine q_callV0 rfl hx_51 (Nat.le_of_ble_eq_true rfl) (Nat.le_of_ble_eq_true rfl) (e2) ?_
  refine q_lcmp rfl ?_
  refine q_if_eq rfl (fun hc1457 => ?_) (fun hc1457 => ?_)
  · exact next _ _ _ _ _ hr2
  · exact absurd (by simp [lg_cmp]) hc1457
def OpsAll (X : XX) (R : XR) : Prop := Op_0 X R ∧ Op_1 X R ∧ Op_2 X R ∧ Op_3 X R ∧ Op_4 X R ∧ Op_5 X R ∧ Op_6 X R ∧ Op_7 X R ∧ Op_8 X R ∧ Op_9 X R ∧ Op_10 X R ∧ Op_11 X R ∧ Op_12 X R ∧ Op_13 X R ∧ Op_14 X R ∧ Op_15 X R ∧ Op_16 X R ∧ Op_17 X R ∧ Op_18 X R ∧ Op_19 X R ∧ Op_20 X R ∧ Op_21 X R ∧ Op_22 X R ∧ Op_23 X R ∧ Op_24 X R ∧ Op_25 X R ∧ Op_26 X R ∧ Op_27 X R ∧ Op_28 X R ∧ Op_29 X R ∧ Op_30 X R ∧ Op_31 X R ∧ Op_32 X R ∧ Op_33 X R ∧ Op_34 X R ∧ Op_35 X R ∧ Op_36 X R ∧ Op_37 X R ∧ Op_38 X R ∧ Op_39 X R ∧ Op_40 X R ∧ Op_41 X R ∧ Op_42 X R
theorem lw_cut {i L : Nat} (hL : L ≤ 384) (hi : i ≤ 390) (h : ¬ nI L - 6 < nI i) : i + 6 ≤ L := by
  apply Classical.byContradiction
  intro hn
  apply h
  rw [Int32.lt_iff_toInt_lt, nI_toInt (by omega)]
  have e1 := pk_sub_toInt (a := L) (b := 6) (by omega) (by omega)
  have e2 : nI L - 6 = nI L - nI 6 := rfl
  rw [e2, e1]
  omega
set_option maxRecDepth 100000 in
set_option maxHeartbeats 4000000 in
theorem law_loop {X : XX} {R : XR} (hL : X.1 ≤ 384) (ops : OpsAll X R) : ∀ (n i : Nat) (I A : Nat → Nat → Int32) (J B : Nat → Nat → Int64) (F : Nat → Nat), i ≤ 390 → X.1 + 6 ≤ i + 6 * n → R I A J B F → Wp X xT 8 mL_law 18 [some (.ref 1000), some (.ref 0), some (.ref 51), some (.int (nI i))] [] (HX I A J B F) (fun r h' => r = some (.int 1) ∧ h'.length ≤ 600000 ∧ x_ss h' ≤ 7302250) := by
  intro n
  induction n with
  | zero =>
    intro i I A J B F hi hn hr
    refine q_iload_n rfl rfl ?_
    refine q_aload_n rfl rfl ?_
    refine q_alen_s rfl ?_
    refine q_bipush (v := 6) rfl rfl ?_
    refine q_isub rfl ?_
    refine q_icmp_gt rfl (fun hc24 => ?_) (fun hc24 => ?_)
    · refine q_iconst (v := 1) rfl rfl ?_
      refine q_zret rfl rfl (by decide) ?_
      refine ⟨rfl, Nat.le_of_ble_eq_true rfl, Nat.le_of_ble_eq_true rfl⟩
    · exact absurd (lw_cut hL hi hc24) (by omega)
  | succ n ih =>
    intro i I A J B F hi hn hr
    refine q_iload_n rfl rfl ?_
    refine q_aload_n rfl rfl ?_
    refine q_alen_s rfl ?_
    refine q_bipush (v := 6) rfl rfl ?_
    refine q_isub rfl ?_
    refine q_icmp_gt rfl (fun hc24 => ?_) (fun hc24 => ?_)
    · refine q_iconst (v := 1) rfl rfl ?_
      refine q_zret rfl rfl (by decide) ?_
      refine ⟨rfl, Nat.le_of_ble_eq_true rfl, Nat.le_of_ble_eq_true rfl⟩
    · refine q_aload_n rfl rfl ?_
      refine q_iload_n rfl rfl ?_
      refine q_iaload_s rfl (f_ixk (show i < X.1 by have := lw_cut hL hi hc24; omega) (by omega)) ?_
      refine q_bipush (v := 63) rfl rfl ?_
      refine q_iand rfl ?_
      have hi6 := lw_cut hL hi hc24
      have next : ∀ I A J B F, R I A J B F → Wp X xT 8 mL_law 1462 [some (.ref 1000), some (.ref 0), some (.ref 51), some (.int (nI i))] [] (HX I A J B F) (fun r h' => r = some (.int 1) ∧ h'.length ≤ 600000 ∧ x_ss h' ≤ 7302250) := by
        intro I A J B F hr
        refine q_iinc (v := nI (i + 6)) (L' := [_, _, _, _]) rfl rfl (nI_add i 6) rfl ?_
        refine q_goto rfl ?_
        exact ih (i + 6) I A J B F (by omega) (by omega) hr
      obtain ⟨j, hj, ej⟩ := pk_andE (X.2 (nI i).toNatClampNeg) (m := 63) 6 (by decide)
      have ex : (X.2 (nI i).toNatClampNeg &&& 63).toInt = (j : Int) := by rw [ej]; exact nI_toInt (by omega)
      obtain ⟨o0, o1, o2, o3, o4, o5, o6, o7, o8, o9, o10, o11, o12, o13, o14, o15, o16, o17, o18, o19, o20, o21, o22, o23, o24, o25, o26, o27, o28, o29, o30, o31, o32, o33, o34, o35, o36, o37, o38, o39, o40, o41, o42⟩ := ops
      by_cases h0 : j = 0
      · subst h0
        exact q_tsw (t := 220) rfl (by rw [x_sw_i ex]; decide) (law_0 hL hi6 o0 hr next)
      by_cases h1 : j = 1
      · subst h1
        exact q_tsw (t := 253) rfl (by rw [x_sw_i ex]; decide) (law_1 hL hi6 o1 hr next)
      by_cases h2 : j = 2
      · subst h2
        exact q_tsw (t := 296) rfl (by rw [x_sw_i ex]; decide) (law_2 hL hi6 o2 hr next)
      by_cases h3 : j = 3
      · subst h3
        exact q_tsw (t := 329) rfl (by rw [x_sw_i ex]; decide) (law_3 hL hi6 o3 hr next)
      by_cases h4 : j = 4
      · subst h4
        exact q_tsw (t := 352) rfl (by rw [x_sw_i ex]; decide) (law_4 hL hi6 o4 hr next)
      by_cases h5 : j = 5
      · subst h5
        exact q_tsw (t := 415) rfl (by rw [x_sw_i ex]; decide) (law_5 hL hi6 o5 hr next)
      by_cases h6 : j = 6
      · subst h6
        exact q_tsw (t := 438) rfl (by rw [x_sw_i ex]; decide) (law_6 hL hi6 o6 hr next)
      by_cases h7 : j = 7
      · subst h7
        exact q_tsw (t := 471) rfl (by rw [x_sw_i ex]; decide) (law_7 hL hi6 o7 hr next)
      by_cases h8 : j = 8
      · subst h8
        exact q_tsw (t := 514) rfl (by rw [x_sw_i ex]; decide) (law_8 hL hi6 o8 hr next)
      by_cases h9 : j = 9
      · subst h9
        exact q_tsw (t := 537) rfl (by rw [x_sw_i ex]; decide) (law_9 hL hi6 o9 hr next)
      by_cases h10 : j = 10
      · subst h10
        exact q_tsw (t := 560) rfl (by rw [x_sw_i ex]; decide) (law_10 hL hi6 o10 hr next)
      by_cases h11 : j = 11
      · subst h11
        exact q_tsw (t := 593) rfl (by rw [x_sw_i ex]; decide) (law_11 hL hi6 o11 hr next)
      by_cases h12 : j = 12
      · subst h12
        exact q_tsw (t := 626) rfl (by rw [x_sw_i ex]; decide) (law_12 hL hi6 o12 hr next)
      by_cases h13 : j = 13
      · subst h13
        exact q_tsw (t := 639) rfl (by rw [x_sw_i ex]; decide) (law_13 hL hi6 o13 hr next)
      by_cases h14 : j = 14
      · subst h14
        exact q_tsw (t := 662) rfl (by rw [x_sw_i ex]; decide) (law_14 hL hi6 o14 hr next)
      by_cases h15 : j = 15
      · subst h15
        exact q_tsw (t := 685) rfl (by rw [x_sw_i ex]; decide) (law_15 hL hi6 o15 hr next)
      by_cases h16 : j = 16
      · subst h16
        exact q_tsw (t := 708) rfl (by rw [x_sw_i ex]; decide) (law_16 hL hi6 o16 hr next)
      by_cases h17 : j = 17
      · subst h17
        exact q_tsw (t := 731) rfl (by rw [x_sw_i ex]; decide) (law_17 hL hi6 o17 hr next)
      by_cases h18 : j = 18
      · subst h18
        exact q_tsw (t := 764) rfl (by rw [x_sw_i ex]; decide) (law_18 hL hi6 o18 hr next)
      by_cases h19 : j = 19
      · subst h19
        exact q_tsw (t := 797) rfl (by rw [x_sw_i ex]; decide) (law_19 hL hi6 o19 hr next)
      by_cases h20 : j = 20
      · subst h20
        exact q_tsw (t := 820) rfl (by rw [x_sw_i ex]; decide) (law_20 hL hi6 o20 hr next)
      by_cases h21 : j = 21
      · subst h21
        exact q_tsw (t := 843) rfl (by rw [x_sw_i ex]; decide) (law_21 hL hi6 o21 hr next)
      by_cases h22 : j = 22
      · subst h22
        exact q_tsw (t := 866) rfl (by rw [x_sw_i ex]; decide) (law_22 hL hi6 o22 hr next)
      by_cases h23 : j = 23
      · subst h23
        exact q_tsw (t := 889) rfl (by rw [x_sw_i ex]; decide) (law_23 hL hi6 o23 hr next)
      by_cases h24 : j = 24
      · subst h24
        exact q_tsw (t := 932) rfl (by rw [x_sw_i ex]; decide) (law_24 hL hi6 o24 hr next)
      by_cases h25 : j = 25
      · subst h25
        exact q_tsw (t := 965) rfl (by rw [x_sw_i ex]; decide) (law_25 hL hi6 o25 hr next)
      by_cases h26 : j = 26
      · subst h26
        exact q_tsw (t := 1008) rfl (by rw [x_sw_i ex]; decide) (law_26 hL hi6 o26 hr next)
      by_cases h27 : j = 27
      · subst h27
        exact q_tsw (t := 1041) rfl (by rw [x_sw_i ex]; decide) (law_27 hL hi6 o27 hr next)
      by_cases h28 : j = 28
      · subst h28
        exact q_tsw (t := 1064) rfl (by rw [x_sw_i ex]; decide) (law_28 hL hi6 o28 hr next)
      by_cases h29 : j = 29
      · subst h29
        exact q_tsw (t := 1097) rfl (by rw [x_sw_i ex]; decide) (law_29 hL hi6 o29 hr next)
      by_cases h30 : j = 30
      · subst h30
        exact q_tsw (t := 1130) rfl (by rw [x_sw_i ex]; decide) (law_30 hL hi6 o30 hr next)
      by_cases h31 : j = 31
      · subst h31
        exact q_tsw (t := 1163) rfl (by rw [x_sw_i ex]; decide) (law_31 hL hi6 o31 hr next)
      by_cases h32 : j = 32
      · subst h32
        exact q_tsw (t := 1196) rfl (by rw [x_sw_i ex]; decide) (law_32 hL hi6 o32 hr next)
      by_cases h33 : j = 33
      · subst h33
        exact q_tsw (t := 1229) rfl (by rw [x_sw_i ex]; decide) (law_33 hL hi6 o33 hr next)
      by_cases h34 : j = 34
      · subst h34
        exact q_tsw (t := 1272) rfl (by rw [x_sw_i ex]; decide) (law_34 hL hi6 o34 hr next)
      by_cases h35 : j = 35
      · subst h35
        exact q_tsw (t := 1315) rfl (by rw [x_sw_i ex]; decide) (law_35 hL hi6 o35 hr next)
      by_cases h36 : j = 36
      · subst h36
        exact q_tsw (t := 1348) rfl (by rw [x_sw_i ex]; decide) (law_36 hL hi6 o36 hr next)
      by_cases h37 : j = 37
      · subst h37
        exact q_tsw (t := 1361) rfl (by rw [x_sw_i ex]; decide) (law_37 hL hi6 o37 hr next)
      by_cases h38 : j = 38
      · subst h38
        exact q_tsw (t := 1375) rfl (by rw [x_sw_i ex]; decide) (law_38 hL hi6 o38 hr next)
      by_cases h39 : j = 39
      · subst h39
        exact q_tsw (t := 1389) rfl (by rw [x_sw_i ex]; decide) (law_39 hL hi6 o39 hr next)
      by_cases h40 : j = 40
      · subst h40
        exact q_tsw (t := 1412) rfl (by rw [x_sw_i ex]; decide) (law_40 hL hi6 o40 hr next)
      by_cases h41 : j = 41
      · subst h41
        exact q_tsw (t := 1425) rfl (by rw [x_sw_i ex]; decide) (law_41 hL hi6 o41 hr next)
      by_cases h42 : j = 42
      · subst h42
        exact q_tsw (t := 1448) rfl (by rw [x_sw_i ex]; decide) (law_42 hL hi6 o42 hr next)
      exact q_tsw (t := 1462) rfl (by rw [x_sw_i ex]; unfold x_swI; rw [if_pos (Or.inr (by omega))]; decide) (next _ _ _ _ _ hr)
theorem x_law_of {R : XR} (h0 : R x_I0 x_A0 x_J0 x_B0 x_F0) (ops : ∀ X : XX, OpsAll X R) : x_law := fun X hL => x_law_head (law_loop hL (ops X) 66 0 _ _ _ _ _ (by omega) (by omega) h0)
