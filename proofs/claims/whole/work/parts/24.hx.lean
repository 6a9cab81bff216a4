/-! the heap HX: what its cells are, and how a store changes it -/
def u2 (I : Nat → Nat → Int32) (a k : Nat) (v : Int32) : Nat → Nat → Int32 := fun x y => if x = a ∧ y = k then v else I x y
def uj (J : Nat → Nat → Int64) (a k : Nat) (v : Int64) : Nat → Nat → Int64 := fun x y => if x = a ∧ y = k then v else J x y
def ua (A : Nat → Nat → Int32) (a : Nat) (f : Nat → Int32) : Nat → Nat → Int32 := fun x => if x = a then f else A x
def ub (B : Nat → Nat → Int64) (a : Nat) (f : Nat → Int64) : Nat → Nat → Int64 := fun x => if x = a then f else B x
def uf (F : Nat → Nat) (k v : Nat) : Nat → Nat := fun x => if x = k then v else F x
section HXs
variable {I A : Nat → Nat → Int32} {J B : Nat → Nat → Int64} {F : Nat → Nat}
theorem hx_0 : (HX I A J B F)[0]? = some (.inr (8, [.ref 1, .ref 2, .ref 3, .ref 5, .ref 6, .ref 7, .ref 8, .ref 10, .ref 11, .ref 13, .ref 16, .ref 19, .int (I 0 12), .int (I 0 13), .int (I 0 14), .long (J 0 15), .long (J 0 16)])) := rfl
theorem hx_1 : (HX I A J B F)[1]? = some (.inl (2, 6, .inr (.inr (.inr (.inr xr1))))) := rfl
theorem hx_2 : (HX I A J B F)[2]? = some (.inl (2, 4, .inr (.inr (.inr (.inr xr2))))) := rfl
theorem hx_3 : (HX I A J B F)[3]? = some (.inr (4, [.ref 4, .int (I 3 1), .int (I 3 2), .int (I 3 3), .int (I 3 4), .int (I 3 5)])) := rfl
theorem hx_4 : (HX I A J B F)[4]? = some (.inl (0, 20, .inl (A 4))) := rfl
theorem hx_5 : (HX I A J B F)[5]? = some (.inl (3, 5, .inr (.inr (.inr (.inr xr5))))) := rfl
theorem hx_6 : (HX I A J B F)[6]? = some (.inr (1, [.int (I 6 0), .int (I 6 1), .int (I 6 2), .int (I 6 3)])) := rfl
theorem hx_7 : (HX I A J B F)[7]? = some (.inr (6, [.int (I 7 0), .int (I 7 1)])) := rfl
theorem hx_8 : (HX I A J B F)[8]? = some (.inr (3, [.ref 9, .int (I 8 1), .int (I 8 2), .int (I 8 3), .int (I 8 4)])) := rfl
theorem hx_9 : (HX I A J B F)[9]? = some (.inl (0, 40, .inl (A 9))) := rfl
theorem hx_10 : (HX I A J B F)[10]? = some (.inl (4, 3, .inr (.inr (.inr (.inr xr10))))) := rfl
theorem hx_11 : (HX I A J B F)[11]? = some (.inr (7, [.ref 12])) := rfl
theorem hx_12 : (HX I A J B F)[12]? = some (.inl (0, 192, .inl (A 12))) := rfl
theorem hx_13 : (HX I A J B F)[13]? = some (.inr (0, [.ref 7, .ref 11, .ref (F 0), .ref (F 1)])) := rfl
theorem hx_14 : (HX I A J B F)[14]? = some (.inl (0, 984, .inl (A 14))) := rfl
theorem hx_15 : (HX I A J B F)[15]? = some (.inl (0, 984, .inl (A 15))) := rfl
theorem hx_16 : (HX I A J B F)[16]? = some (.inr (5, [.ref 11, .ref (F 2), .ref (F 3), .long (J 16 3)])) := rfl
theorem hx_17 : (HX I A J B F)[17]? = some (.inl (1, 24, .inr (.inl (B 17)))) := rfl
theorem hx_18 : (HX I A J B F)[18]? = some (.inl (1, 24, .inr (.inl (B 18)))) := rfl
theorem hx_19 : (HX I A J B F)[19]? = some (.inl (0, 6, .inl (A 19))) := rfl
theorem hx_20 : (HX I A J B F)[20]? = some (.inr (2, [.ref 21, .int (I 20 1)])) := rfl
theorem hx_21 : (HX I A J B F)[21]? = some (.inl (0, 40, .inl (A 21))) := rfl
theorem hx_22 : (HX I A J B F)[22]? = some (.inr (2, [.ref 23, .int (I 22 1)])) := rfl
theorem hx_23 : (HX I A J B F)[23]? = some (.inl (0, 40, .inl (A 23))) := rfl
theorem hx_24 : (HX I A J B F)[24]? = some (.inr (2, [.ref 25, .int (I 24 1)])) := rfl
theorem hx_25 : (HX I A J B F)[25]? = some (.inl (0, 40, .inl (A 25))) := rfl
theorem hx_26 : (HX I A J B F)[26]? = some (.inr (2, [.ref 27, .int (I 26 1)])) := rfl
theorem hx_27 : (HX I A J B F)[27]? = some (.inl (0, 40, .inl (A 27))) := rfl
theorem hx_28 : (HX I A J B F)[28]? = some (.inr (2, [.ref 29, .int (I 28 1)])) := rfl
theorem hx_29 : (HX I A J B F)[29]? = some (.inl (0, 40, .inl (A 29))) := rfl
theorem hx_30 : (HX I A J B F)[30]? = some (.inr (2, [.ref 31, .int (I 30 1)])) := rfl
theorem hx_31 : (HX I A J B F)[31]? = some (.inl (0, 40, .inl (A 31))) := rfl
theorem hx_32 : (HX I A J B F)[32]? = some (.inr (2, [.ref 33, .int (I 32 1)])) := rfl
theorem hx_33 : (HX I A J B F)[33]? = some (.inl (0, 60, .inl (A 33))) := rfl
theorem hx_34 : (HX I A J B F)[34]? = some (.inr (2, [.ref 35, .int (I 34 1)])) := rfl
theorem hx_35 : (HX I A J B F)[35]? = some (.inl (0, 60, .inl (A 35))) := rfl
theorem hx_36 : (HX I A J B F)[36]? = some (.inr (2, [.ref 37, .int (I 36 1)])) := rfl
theorem hx_37 : (HX I A J B F)[37]? = some (.inl (0, 60, .inl (A 37))) := rfl
theorem hx_38 : (HX I A J B F)[38]? = some (.inr (2, [.ref 39, .int (I 38 1)])) := rfl
theorem hx_39 : (HX I A J B F)[39]? = some (.inl (0, 60, .inl (A 39))) := rfl
theorem hx_40 : (HX I A J B F)[40]? = some (.inr (1, [.int (I 40 0), .int (I 40 1), .int (I 40 2), .int (I 40 3)])) := rfl
theorem hx_41 : (HX I A J B F)[41]? = some (.inr (1, [.int (I 41 0), .int (I 41 1), .int (I 41 2), .int (I 41 3)])) := rfl
theorem hx_42 : (HX I A J B F)[42]? = some (.inr (1, [.int (I 42 0), .int (I 42 1), .int (I 42 2), .int (I 42 3)])) := rfl
theorem hx_43 : (HX I A J B F)[43]? = some (.inr (1, [.int (I 43 0), .int (I 43 1), .int (I 43 2), .int (I 43 3)])) := rfl
theorem hx_44 : (HX I A J B F)[44]? = some (.inr (1, [.int (I 44 0), .int (I 44 1), .int (I 44 2), .int (I 44 3)])) := rfl
theorem hx_45 : (HX I A J B F)[45]? = some (.inr (3, [.ref 46, .int (I 45 1), .int (I 45 2), .int (I 45 3), .int (I 45 4)])) := rfl
theorem hx_46 : (HX I A J B F)[46]? = some (.inl (0, 40, .inl (A 46))) := rfl
theorem hx_47 : (HX I A J B F)[47]? = some (.inr (3, [.ref 48, .int (I 47 1), .int (I 47 2), .int (I 47 3), .int (I 47 4)])) := rfl
theorem hx_48 : (HX I A J B F)[48]? = some (.inl (0, 40, .inl (A 48))) := rfl
theorem hx_49 : (HX I A J B F)[49]? = some (.inr (3, [.ref 50, .int (I 49 1), .int (I 49 2), .int (I 49 3), .int (I 49 4)])) := rfl
theorem hx_50 : (HX I A J B F)[50]? = some (.inl (0, 40, .inl (A 50))) := rfl
theorem hx_51 : (HX I A J B F)[51]? = some (.inr (9, [.ref 52, .int (I 51 1), .int (I 51 2), .int (I 51 3), .ref 53, .ref 54, .ref 55, .ref 56, .ref 57, .ref 58, .ref 59, .ref 60, .int (I 51 12), .long (J 51 13), .long (J 51 14), .int (I 51 15), .ref 61, .int (I 51 17), .int (I 51 18), .int (I 51 19), .int (I 51 20), .int (I 51 21), .ref 62, .int (I 51 23), .ref 63, .ref 64, .ref 65, .ref 66, .ref 67, .ref 68, .ref 69, .int (I 51 31), .int (I 51 32)])) := rfl
theorem hx_52 : (HX I A J B F)[52]? = some (.inl (0, 496, .inl (A 52))) := rfl
theorem hx_53 : (HX I A J B F)[53]? = some (.inl (0, 5, .inl (A 53))) := rfl
theorem hx_54 : (HX I A J B F)[54]? = some (.inl (0, 5, .inl (A 54))) := rfl
theorem hx_55 : (HX I A J B F)[55]? = some (.inl (0, 5, .inl (A 55))) := rfl
theorem hx_56 : (HX I A J B F)[56]? = some (.inl (0, 5, .inl (A 56))) := rfl
theorem hx_57 : (HX I A J B F)[57]? = some (.inl (0, 6, .inl (A 57))) := rfl
theorem hx_58 : (HX I A J B F)[58]? = some (.inl (0, 240, .inl (A 58))) := rfl
theorem hx_59 : (HX I A J B F)[59]? = some (.inl (0, 4, .inl (A 59))) := rfl
theorem hx_60 : (HX I A J B F)[60]? = some (.inl (0, 240, .inl (A 60))) := rfl
theorem hx_61 : (HX I A J B F)[61]? = some (.inl (0, 6, .inl (A 61))) := rfl
theorem hx_62 : (HX I A J B F)[62]? = some (.inl (0, 20, .inl (A 62))) := rfl
theorem hx_63 : (HX I A J B F)[63]? = some (.inl (0, 216, .inl (A 63))) := rfl
theorem hx_64 : (HX I A J B F)[64]? = some (.inl (0, 312, .inl (A 64))) := rfl
theorem hx_65 : (HX I A J B F)[65]? = some (.inl (0, 984, .inl (A 65))) := rfl
theorem hx_66 : (HX I A J B F)[66]? = some (.inl (0, 984, .inl (A 66))) := rfl
theorem hx_67 : (HX I A J B F)[67]? = some (.inl (0, 5, .inl (A 67))) := rfl
theorem hx_68 : (HX I A J B F)[68]? = some (.inl (0, 72, .inl (A 68))) := rfl
theorem hx_69 : (HX I A J B F)[69]? = some (.inl (0, 72, .inl (A 69))) := rfl
theorem hs_0_12 (v : Int32) : (HX I A J B F).set 0 (.inr (8, [.ref 1, .ref 2, .ref 3, .ref 5, .ref 6, .ref 7, .ref 8, .ref 10, .ref 11, .ref 13, .ref 16, .ref 19, .int v, .int (I 0 13), .int (I 0 14), .long (J 0 15), .long (J 0 16)])) = HX (u2 I 0 12 v) A J B F := rfl
theorem hs_0_13 (v : Int32) : (HX I A J B F).set 0 (.inr (8, [.ref 1, .ref 2, .ref 3, .ref 5, .ref 6, .ref 7, .ref 8, .ref 10, .ref 11, .ref 13, .ref 16, .ref 19, .int (I 0 12), .int v, .int (I 0 14), .long (J 0 15), .long (J 0 16)])) = HX (u2 I 0 13 v) A J B F := rfl
theorem hs_0_14 (v : Int32) : (HX I A J B F).set 0 (.inr (8, [.ref 1, .ref 2, .ref 3, .ref 5, .ref 6, .ref 7, .ref 8, .ref 10, .ref 11, .ref 13, .ref 16, .ref 19, .int (I 0 12), .int (I 0 13), .int v, .long (J 0 15), .long (J 0 16)])) = HX (u2 I 0 14 v) A J B F := rfl
theorem hs_0_15 (v : Int64) : (HX I A J B F).set 0 (.inr (8, [.ref 1, .ref 2, .ref 3, .ref 5, .ref 6, .ref 7, .ref 8, .ref 10, .ref 11, .ref 13, .ref 16, .ref 19, .int (I 0 12), .int (I 0 13), .int (I 0 14), .long v, .long (J 0 16)])) = HX I A (uj J 0 15 v) B F := rfl
theorem hs_0_16 (v : Int64) : (HX I A J B F).set 0 (.inr (8, [.ref 1, .ref 2, .ref 3, .ref 5, .ref 6, .ref 7, .ref 8, .ref 10, .ref 11, .ref 13, .ref 16, .ref 19, .int (I 0 12), .int (I 0 13), .int (I 0 14), .long (J 0 15), .long v])) = HX I A (uj J 0 16 v) B F := rfl
theorem hs_3_1 (v : Int32) : (HX I A J B F).set 3 (.inr (4, [.ref 4, .int v, .int (I 3 2), .int (I 3 3), .int (I 3 4), .int (I 3 5)])) = HX (u2 I 3 1 v) A J B F := rfl
theorem hs_3_2 (v : Int32) : (HX I A J B F).set 3 (.inr (4, [.ref 4, .int (I 3 1), .int v, .int (I 3 3), .int (I 3 4), .int (I 3 5)])) = HX (u2 I 3 2 v) A J B F := rfl
theorem hs_3_3 (v : Int32) : (HX I A J B F).set 3 (.inr (4, [.ref 4, .int (I 3 1), .int (I 3 2), .int v, .int (I 3 4), .int (I 3 5)])) = HX (u2 I 3 3 v) A J B F := rfl
theorem hs_3_4 (v : Int32) : (HX I A J B F).set 3 (.inr (4, [.ref 4, .int (I 3 1), .int (I 3 2), .int (I 3 3), .int v, .int (I 3 5)])) = HX (u2 I 3 4 v) A J B F := rfl
theorem hs_3_5 (v : Int32) : (HX I A J B F).set 3 (.inr (4, [.ref 4, .int (I 3 1), .int (I 3 2), .int (I 3 3), .int (I 3 4), .int v])) = HX (u2 I 3 5 v) A J B F := rfl
theorem hs_6_0 (v : Int32) : (HX I A J B F).set 6 (.inr (1, [.int v, .int (I 6 1), .int (I 6 2), .int (I 6 3)])) = HX (u2 I 6 0 v) A J B F := rfl
theorem hs_6_1 (v : Int32) : (HX I A J B F).set 6 (.inr (1, [.int (I 6 0), .int v, .int (I 6 2), .int (I 6 3)])) = HX (u2 I 6 1 v) A J B F := rfl
theorem hs_6_2 (v : Int32) : (HX I A J B F).set 6 (.inr (1, [.int (I 6 0), .int (I 6 1), .int v, .int (I 6 3)])) = HX (u2 I 6 2 v) A J B F := rfl
theorem hs_6_3 (v : Int32) : (HX I A J B F).set 6 (.inr (1, [.int (I 6 0), .int (I 6 1), .int (I 6 2), .int v])) = HX (u2 I 6 3 v) A J B F := rfl
theorem hf_6 (v0 v1 v2 v3 : Int32) : (HX I A J B F).set 6 (.inr (1, [.int v0, .int v1, .int v2, .int v3])) = HX (u2 (u2 (u2 (u2 I 6 0 v0) 6 1 v1) 6 2 v2) 6 3 v3) A J B F := rfl
theorem hs_7_0 (v : Int32) : (HX I A J B F).set 7 (.inr (6, [.int v, .int (I 7 1)])) = HX (u2 I 7 0 v) A J B F := rfl
theorem hs_7_1 (v : Int32) : (HX I A J B F).set 7 (.inr (6, [.int (I 7 0), .int v])) = HX (u2 I 7 1 v) A J B F := rfl
theorem hf_7 (v0 v1 : Int32) : (HX I A J B F).set 7 (.inr (6, [.int v0, .int v1])) = HX (u2 (u2 I 7 0 v0) 7 1 v1) A J B F := rfl
theorem hs_8_1 (v : Int32) : (HX I A J B F).set 8 (.inr (3, [.ref 9, .int v, .int (I 8 2), .int (I 8 3), .int (I 8 4)])) = HX (u2 I 8 1 v) A J B F := rfl
theorem hs_8_2 (v : Int32) : (HX I A J B F).set 8 (.inr (3, [.ref 9, .int (I 8 1), .int v, .int (I 8 3), .int (I 8 4)])) = HX (u2 I 8 2 v) A J B F := rfl
theorem hs_8_3 (v : Int32) : (HX I A J B F).set 8 (.inr (3, [.ref 9, .int (I 8 1), .int (I 8 2), .int v, .int (I 8 4)])) = HX (u2 I 8 3 v) A J B F := rfl
theorem hs_8_4 (v : Int32) : (HX I A J B F).set 8 (.inr (3, [.ref 9, .int (I 8 1), .int (I 8 2), .int (I 8 3), .int v])) = HX (u2 I 8 4 v) A J B F := rfl
theorem hf_8 (v1 v2 v3 v4 : Int32) : (HX I A J B F).set 8 (.inr (3, [.ref 9, .int v1, .int v2, .int v3, .int v4])) = HX (u2 (u2 (u2 (u2 I 8 1 v1) 8 2 v2) 8 3 v3) 8 4 v4) A J B F := rfl
theorem hs_16_3 (v : Int64) : (HX I A J B F).set 16 (.inr (5, [.ref 11, .ref (F 2), .ref (F 3), .long v])) = HX I A (uj J 16 3 v) B F := rfl
theorem hs_20_1 (v : Int32) : (HX I A J B F).set 20 (.inr (2, [.ref 21, .int v])) = HX (u2 I 20 1 v) A J B F := rfl
theorem hs_22_1 (v : Int32) : (HX I A J B F).set 22 (.inr (2, [.ref 23, .int v])) = HX (u2 I 22 1 v) A J B F := rfl
theorem hs_24_1 (v : Int32) : (HX I A J B F).set 24 (.inr (2, [.ref 25, .int v])) = HX (u2 I 24 1 v) A J B F := rfl
theorem hs_26_1 (v : Int32) : (HX I A J B F).set 26 (.inr (2, [.ref 27, .int v])) = HX (u2 I 26 1 v) A J B F := rfl
theorem hs_28_1 (v : Int32) : (HX I A J B F).set 28 (.inr (2, [.ref 29, .int v])) = HX (u2 I 28 1 v) A J B F := rfl
theorem hs_30_1 (v : Int32) : (HX I A J B F).set 30 (.inr (2, [.ref 31, .int v])) = HX (u2 I 30 1 v) A J B F := rfl
theorem hs_32_1 (v : Int32) : (HX I A J B F).set 32 (.inr (2, [.ref 33, .int v])) = HX (u2 I 32 1 v) A J B F := rfl
theorem hs_34_1 (v : Int32) : (HX I A J B F).set 34 (.inr (2, [.ref 35, .int v])) = HX (u2 I 34 1 v) A J B F := rfl
theorem hs_36_1 (v : Int32) : (HX I A J B F).set 36 (.inr (2, [.ref 37, .int v])) = HX (u2 I 36 1 v) A J B F := rfl
theorem hs_38_1 (v : Int32) : (HX I A J B F).set 38 (.inr (2, [.ref 39, .int v])) = HX (u2 I 38 1 v) A J B F := rfl
theorem hs_40_0 (v : Int32) : (HX I A J B F).set 40 (.inr (1, [.int v, .int (I 40 1), .int (I 40 2), .int (I 40 3)])) = HX (u2 I 40 0 v) A J B F := rfl
theorem hs_40_1 (v : Int32) : (HX I A J B F).set 40 (.inr (1, [.int (I 40 0), .int v, .int (I 40 2), .int (I 40 3)])) = HX (u2 I 40 1 v) A J B F := rfl
theorem hs_40_2 (v : Int32) : (HX I A J B F).set 40 (.inr (1, [.int (I 40 0), .int (I 40 1), .int v, .int (I 40 3)])) = HX (u2 I 40 2 v) A J B F := rfl
theorem hs_40_3 (v : Int32) : (HX I A J B F).set 40 (.inr (1, [.int (I 40 0), .int (I 40 1), .int (I 40 2), .int v])) = HX (u2 I 40 3 v) A J B F := rfl
theorem hf_40 (v0 v1 v2 v3 : Int32) : (HX I A J B F).set 40 (.inr (1, [.int v0, .int v1, .int v2, .int v3])) = HX (u2 (u2 (u2 (u2 I 40 0 v0) 40 1 v1) 40 2 v2) 40 3 v3) A J B F := rfl
theorem hs_41_0 (v : Int32) : (HX I A J B F).set 41 (.inr (1, [.int v, .int (I 41 1), .int (I 41 2), .int (I 41 3)])) = HX (u2 I 41 0 v) A J B F := rfl
theorem hs_41_1 (v : Int32) : (HX I A J B F).set 41 (.inr (1, [.int (I 41 0), .int v, .int (I 41 2), .int (I 41 3)])) = HX (u2 I 41 1 v) A J B F := rfl
theorem hs_41_2 (v : Int32) : (HX I A J B F).set 41 (.inr (1, [.int (I 41 0), .int (I 41 1), .int v, .int (I 41 3)])) = HX (u2 I 41 2 v) A J B F := rfl
theorem hs_41_3 (v : Int32) : (HX I A J B F).set 41 (.inr (1, [.int (I 41 0), .int (I 41 1), .int (I 41 2), .int v])) = HX (u2 I 41 3 v) A J B F := rfl
theorem hf_41 (v0 v1 v2 v3 : Int32) : (HX I A J B F).set 41 (.inr (1, [.int v0, .int v1, .int v2, .int v3])) = HX (u2 (u2 (u2 (u2 I 41 0 v0) 41 1 v1) 41 2 v2) 41 3 v3) A J B F := rfl
theorem hs_42_0 (v : Int32) : (HX I A J B F).set 42 (.inr (1, [.int v, .int (I 42 1), .int (I 42 2), .int (I 42 3)])) = HX (u2 I 42 0 v) A J B F := rfl
theorem hs_42_1 (v : Int32) : (HX I A J B F).set 42 (.inr (1, [.int (I 42 0), .int v, .int (I 42 2), .int (I 42 3)])) = HX (u2 I 42 1 v) A J B F := rfl
theorem hs_42_2 (v : Int32) : (HX I A J B F).set 42 (.inr (1, [.int (I 42 0), .int (I 42 1), .int v, .int (I 42 3)])) = HX (u2 I 42 2 v) A J B F := rfl
theorem hs_42_3 (v : Int32) : (HX I A J B F).set 42 (.inr (1, [.int (I 42 0), .int (I 42 1), .int (I 42 2), .int v])) = HX (u2 I 42 3 v) A J B F := rfl
theorem hf_42 (v0 v1 v2 v3 : Int32) : (HX I A J B F).set 42 (.inr (1, [.int v0, .int v1, .int v2, .int v3])) = HX (u2 (u2 (u2 (u2 I 42 0 v0) 42 1 v1) 42 2 v2) 42 3 v3) A J B F := rfl
theorem hs_43_0 (v : Int32) : (HX I A J B F).set 43 (.inr (1, [.int v, .int (I 43 1), .int (I 43 2), .int (I 43 3)])) = HX (u2 I 43 0 v) A J B F := rfl
theorem hs_43_1 (v : Int32) : (HX I A J B F).set 43 (.inr (1, [.int (I 43 0), .int v, .int (I 43 2), .int (I 43 3)])) = HX (u2 I 43 1 v) A J B F := rfl
theorem hs_43_2 (v : Int32) : (HX I A J B F).set 43 (.inr (1, [.int (I 43 0), .int (I 43 1), .int v, .int (I 43 3)])) = HX (u2 I 43 2 v) A J B F := rfl
theorem hs_43_3 (v : Int32) : (HX I A J B F).set 43 (.inr (1, [.int (I 43 0), .int (I 43 1), .int (I 43 2), .int v])) = HX (u2 I 43 3 v) A J B F := rfl
theorem hf_43 (v0 v1 v2 v3 : Int32) : (HX I A J B F).set 43 (.inr (1, [.int v0, .int v1, .int v2, .int v3])) = HX (u2 (u2 (u2 (u2 I 43 0 v0) 43 1 v1) 43 2 v2) 43 3 v3) A J B F := rfl
theorem hs_44_0 (v : Int32) : (HX I A J B F).set 44 (.inr (1, [.int v, .int (I 44 1), .int (I 44 2), .int (I 44 3)])) = HX (u2 I 44 0 v) A J B F := rfl
theorem hs_44_1 (v : Int32) : (HX I A J B F).set 44 (.inr (1, [.int (I 44 0), .int v, .int (I 44 2), .int (I 44 3)])) = HX (u2 I 44 1 v) A J B F := rfl
theorem hs_44_2 (v : Int32) : (HX I A J B F).set 44 (.inr (1, [.int (I 44 0), .int (I 44 1), .int v, .int (I 44 3)])) = HX (u2 I 44 2 v) A J B F := rfl
theorem hs_44_3 (v : Int32) : (HX I A J B F).set 44 (.inr (1, [.int (I 44 0), .int (I 44 1), .int (I 44 2), .int v])) = HX (u2 I 44 3 v) A J B F := rfl
theorem hf_44 (v0 v1 v2 v3 : Int32) : (HX I A J B F).set 44 (.inr (1, [.int v0, .int v1, .int v2, .int v3])) = HX (u2 (u2 (u2 (u2 I 44 0 v0) 44 1 v1) 44 2 v2) 44 3 v3) A J B F := rfl
theorem hs_45_1 (v : Int32) : (HX I A J B F).set 45 (.inr (3, [.ref 46, .int v, .int (I 45 2), .int (I 45 3), .int (I 45 4)])) = HX (u2 I 45 1 v) A J B F := rfl
theorem hs_45_2 (v : Int32) : (HX I A J B F).set 45 (.inr (3, [.ref 46, .int (I 45 1), .int v, .int (I 45 3), .int (I 45 4)])) = HX (u2 I 45 2 v) A J B F := rfl
theorem hs_45_3 (v : Int32) : (HX I A J B F).set 45 (.inr (3, [.ref 46, .int (I 45 1), .int (I 45 2), .int v, .int (I 45 4)])) = HX (u2 I 45 3 v) A J B F := rfl
theorem hs_45_4 (v : Int32) : (HX I A J B F).set 45 (.inr (3, [.ref 46, .int (I 45 1), .int (I 45 2), .int (I 45 3), .int v])) = HX (u2 I 45 4 v) A J B F := rfl
theorem hf_45 (v1 v2 v3 v4 : Int32) : (HX I A J B F).set 45 (.inr (3, [.ref 46, .int v1, .int v2, .int v3, .int v4])) = HX (u2 (u2 (u2 (u2 I 45 1 v1) 45 2 v2) 45 3 v3) 45 4 v4) A J B F := rfl
theorem hs_47_1 (v : Int32) : (HX I A J B F).set 47 (.inr (3, [.ref 48, .int v, .int (I 47 2), .int (I 47 3), .int (I 47 4)])) = HX (u2 I 47 1 v) A J B F := rfl
theorem hs_47_2 (v : Int32) : (HX I A J B F).set 47 (.inr (3, [.ref 48, .int (I 47 1), .int v, .int (I 47 3), .int (I 47 4)])) = HX (u2 I 47 2 v) A J B F := rfl
theorem hs_47_3 (v : Int32) : (HX I A J B F).set 47 (.inr (3, [.ref 48, .int (I 47 1), .int (I 47 2), .int v, .int (I 47 4)])) = HX (u2 I 47 3 v) A J B F := rfl
theorem hs_47_4 (v : Int32) : (HX I A J B F).set 47 (.inr (3, [.ref 48, .int (I 47 1), .int (I 47 2), .int (I 47 3), .int v])) = HX (u2 I 47 4 v) A J B F := rfl
theorem hf_47 (v1 v2 v3 v4 : Int32) : (HX I A J B F).set 47 (.inr (3, [.ref 48, .int v1, .int v2, .int v3, .int v4])) = HX (u2 (u2 (u2 (u2 I 47 1 v1) 47 2 v2) 47 3 v3) 47 4 v4) A J B F := rfl
theorem hs_49_1 (v : Int32) : (HX I A J B F).set 49 (.inr (3, [.ref 50, .int v, .int (I 49 2), .int (I 49 3), .int (I 49 4)])) = HX (u2 I 49 1 v) A J B F := rfl
theorem hs_49_2 (v : Int32) : (HX I A J B F).set 49 (.inr (3, [.ref 50, .int (I 49 1), .int v, .int (I 49 3), .int (I 49 4)])) = HX (u2 I 49 2 v) A J B F := rfl
theorem hs_49_3 (v : Int32) : (HX I A J B F).set 49 (.inr (3, [.ref 50, .int (I 49 1), .int (I 49 2), .int v, .int (I 49 4)])) = HX (u2 I 49 3 v) A J B F := rfl
theorem hs_49_4 (v : Int32) : (HX I A J B F).set 49 (.inr (3, [.ref 50, .int (I 49 1), .int (I 49 2), .int (I 49 3), .int v])) = HX (u2 I 49 4 v) A J B F := rfl
theorem hf_49 (v1 v2 v3 v4 : Int32) : (HX I A J B F).set 49 (.inr (3, [.ref 50, .int v1, .int v2, .int v3, .int v4])) = HX (u2 (u2 (u2 (u2 I 49 1 v1) 49 2 v2) 49 3 v3) 49 4 v4) A J B F := rfl
theorem hs_51_1 (v : Int32) : (HX I A J B F).set 51 (.inr (9, [.ref 52, .int v, .int (I 51 2), .int (I 51 3), .ref 53, .ref 54, .ref 55, .ref 56, .ref 57, .ref 58, .ref 59, .ref 60, .int (I 51 12), .long (J 51 13), .long (J 51 14), .int (I 51 15), .ref 61, .int (I 51 17), .int (I 51 18), .int (I 51 19), .int (I 51 20), .int (I 51 21), .ref 62, .int (I 51 23), .ref 63, .ref 64, .ref 65, .ref 66, .ref 67, .ref 68, .ref 69, .int (I 51 31), .int (I 51 32)])) = HX (u2 I 51 1 v) A J B F := rfl
theorem hs_51_2 (v : Int32) : (HX I A J B F).set 51 (.inr (9, [.ref 52, .int (I 51 1), .int v, .int (I 51 3), .ref 53, .ref 54, .ref 55, .ref 56, .ref 57, .ref 58, .ref 59, .ref 60, .int (I 51 12), .long (J 51 13), .long (J 51 14), .int (I 51 15), .ref 61, .int (I 51 17), .int (I 51 18), .int (I 51 19), .int (I 51 20), .int (I 51 21), .ref 62, .int (I 51 23), .ref 63, .ref 64, .ref 65, .ref 66, .ref 67, .ref 68, .ref 69, .int (I 51 31), .int (I 51 32)])) = HX (u2 I 51 2 v) A J B F := rfl
theorem hs_51_3 (v : Int32) : (HX I A J B F).set 51 (.inr (9, [.ref 52, .int (I 51 1), .int (I 51 2), .int v, .ref 53, .ref 54, .ref 55, .ref 56, .ref 57, .ref 58, .ref 59, .ref 60, .int (I 51 12), .long (J 51 13), .long (J 51 14), .int (I 51 15), .ref 61, .int (I 51 17), .int (I 51 18), .int (I 51 19), .int (I 51 20), .int (I 51 21), .ref 62, .int (I 51 23), .ref 63, .ref 64, .ref 65, .ref 66, .ref 67, .ref 68, .ref 69, .int (I 51 31), .int (I 51 32)])) = HX (u2 I 51 3 v) A J B F := rfl
theorem hs_51_12 (v : Int32) : (HX I A J B F).set 51 (.inr (9, [.ref 52, .int (I 51 1), .int (I 51 2), .int (I 51 3), .ref 53, .ref 54, .ref 55, .ref 56, .ref 57, .ref 58, .ref 59, .ref 60, .int v, .long (J 51 13), .long (J 51 14), .int (I 51 15), .ref 61, .int (I 51 17), .int (I 51 18), .int (I 51 19), .int (I 51 20), .int (I 51 21), .ref 62, .int (I 51 23), .ref 63, .ref 64, .ref 65, .ref 66, .ref 67, .ref 68, .ref 69, .int (I 51 31), .int (I 51 32)])) = HX (u2 I 51 12 v) A J B F := rfl
theorem hs_51_13 (v : Int64) : (HX I A J B F).set 51 (.inr (9, [.ref 52, .int (I 51 1), .int (I 51 2), .int (I 51 3), .ref 53, .ref 54, .ref 55, .ref 56, .ref 57, .ref 58, .ref 59, .ref 60, .int (I 51 12), .long v, .long (J 51 14), .int (I 51 15), .ref 61, .int (I 51 17), .int (I 51 18), .int (I 51 19), .int (I 51 20), .int (I 51 21), .ref 62, .int (I 51 23), .ref 63, .ref 64, .ref 65, .ref 66, .ref 67, .ref 68, .ref 69, .int (I 51 31), .int (I 51 32)])) = HX I A (uj J 51 13 v) B F := rfl
theorem hs_51_14 (v : Int64) : (HX I A J B F).set 51 (.inr (9, [.ref 52, .int (I 51 1), .int (I 51 2), .int (I 51 3), .ref 53, .ref 54, .ref 55, .ref 56, .ref 57, .ref 58, .ref 59, .ref 60, .int (I 51 12), .long (J 51 13), .long v, .int (I 51 15), .ref 61, .int (I 51 17), .int (I 51 18), .int (I 51 19), .int (I 51 20), .int (I 51 21), .ref 62, .int (I 51 23), .ref 63, .ref 64, .ref 65, .ref 66, .ref 67, .ref 68, .ref 69, .int (I 51 31), .int (I 51 32)])) = HX I A (uj J 51 14 v) B F := rfl
theorem hs_51_15 (v : Int32) : (HX I A J B F).set 51 (.inr (9, [.ref 52, .int (I 51 1), .int (I 51 2), .int (I 51 3), .ref 53, .ref 54, .ref 55, .ref 56, .ref 57, .ref 58, .ref 59, .ref 60, .int (I 51 12), .long (J 51 13), .long (J 51 14), .int v, .ref 61, .int (I 51 17), .int (I 51 18), .int (I 51 19), .int (I 51 20), .int (I 51 21), .ref 62, .int (I 51 23), .ref 63, .ref 64, .ref 65, .ref 66, .ref 67, .ref 68, .ref 69, .int (I 51 31), .int (I 51 32)])) = HX (u2 I 51 15 v) A J B F := rfl
theorem hs_51_17 (v : Int32) : (HX I A J B F).set 51 (.inr (9, [.ref 52, .int (I 51 1), .int (I 51 2), .int (I 51 3), .ref 53, .ref 54, .ref 55, .ref 56, .ref 57, .ref 58, .ref 59, .ref 60, .int (I 51 12), .long (J 51 13), .long (J 51 14), .int (I 51 15), .ref 61, .int v, .int (I 51 18), .int (I 51 19), .int (I 51 20), .int (I 51 21), .ref 62, .int (I 51 23), .ref 63, .ref 64, .ref 65, .ref 66, .ref 67, .ref 68, .ref 69, .int (I 51 31), .int (I 51 32)])) = HX (u2 I 51 17 v) A J B F := rfl
theorem hs_51_18 (v : Int32) : (HX I A J B F).set 51 (.inr (9, [.ref 52, .int (I 51 1), .int (I 51 2), .int (I 51 3), .ref 53, .ref 54, .ref 55, .ref 56, .ref 57, .ref 58, .ref 59, .ref 60, .int (I 51 12), .long (J 51 13), .long (J 51 14), .int (I 51 15), .ref 61, .int (I 51 17), .int v, .int (I 51 19), .int (I 51 20), .int (I 51 21), .ref 62, .int (I 51 23), .ref 63, .ref 64, .ref 65, .ref 66, .ref 67, .ref 68, .ref 69, .int (I 51 31), .int (I 51 32)])) = HX (u2 I 51 18 v) A J B F := rfl
theorem hs_51_19 (v : Int32) : (HX I A J B F).set 51 (.inr (9, [.ref 52, .int (I 51 1), .int (I 51 2), .int (I 51 3), .ref 53, .ref 54, .ref 55, .ref 56, .ref 57, .ref 58, .ref 59, .ref 60, .int (I 51 12), .long (J 51 13), .long (J 51 14), .int (I 51 15), .ref 61, .int (I 51 17), .int (I 51 18), .int v, .int (I 51 20), .int (I 51 21), .ref 62, .int (I 51 23), .ref 63, .ref 64, .ref 65, .ref 66, .ref 67, .ref 68, .ref 69, .int (I 51 31), .int (I 51 32)])) = HX (u2 I 51 19 v) A J B F := rfl
theorem hs_51_20 (v : Int32) : (HX I A J B F).set 51 (.inr (9, [.ref 52, .int (I 51 1), .int (I 51 2), .int (I 51 3), .ref 53, .ref 54, .ref 55, .ref 56, .ref 57, .ref 58, .ref 59, .ref 60, .int (I 51 12), .long (J 51 13), .long (J 51 14), .int (I 51 15), .ref 61, .int (I 51 17), .int (I 51 18), .int (I 51 19), .int v, .int (I 51 21), .ref 62, .int (I 51 23), .ref 63, .ref 64, .ref 65, .ref 66, .ref 67, .ref 68, .ref 69, .int (I 51 31), .int (I 51 32)])) = HX (u2 I 51 20 v) A J B F := rfl
theorem hs_51_21 (v : Int32) : (HX I A J B F).set 51 (.inr (9, [.ref 52, .int (I 51 1), .int (I 51 2), .int (I 51 3), .ref 53, .ref 54, .ref 55, .ref 56, .ref 57, .ref 58, .ref 59, .ref 60, .int (I 51 12), .long (J 51 13), .long (J 51 14), .int (I 51 15), .ref 61, .int (I 51 17), .int (I 51 18), .int (I 51 19), .int (I 51 20), .int v, .ref 62, .int (I 51 23), .ref 63, .ref 64, .ref 65, .ref 66, .ref 67, .ref 68, .ref 69, .int (I 51 31), .int (I 51 32)])) = HX (u2 I 51 21 v) A J B F := rfl
theorem hs_51_23 (v : Int32) : (HX I A J B F).set 51 (.inr (9, [.ref 52, .int (I 51 1), .int (I 51 2), .int (I 51 3), .ref 53, .ref 54, .ref 55, .ref 56, .ref 57, .ref 58, .ref 59, .ref 60, .int (I 51 12), .long (J 51 13), .long (J 51 14), .int (I 51 15), .ref 61, .int (I 51 17), .int (I 51 18), .int (I 51 19), .int (I 51 20), .int (I 51 21), .ref 62, .int v, .ref 63, .ref 64, .ref 65, .ref 66, .ref 67, .ref 68, .ref 69, .int (I 51 31), .int (I 51 32)])) = HX (u2 I 51 23 v) A J B F := rfl
theorem hs_51_31 (v : Int32) : (HX I A J B F).set 51 (.inr (9, [.ref 52, .int (I 51 1), .int (I 51 2), .int (I 51 3), .ref 53, .ref 54, .ref 55, .ref 56, .ref 57, .ref 58, .ref 59, .ref 60, .int (I 51 12), .long (J 51 13), .long (J 51 14), .int (I 51 15), .ref 61, .int (I 51 17), .int (I 51 18), .int (I 51 19), .int (I 51 20), .int (I 51 21), .ref 62, .int (I 51 23), .ref 63, .ref 64, .ref 65, .ref 66, .ref 67, .ref 68, .ref 69, .int v, .int (I 51 32)])) = HX (u2 I 51 31 v) A J B F := rfl
theorem hs_51_32 (v : Int32) : (HX I A J B F).set 51 (.inr (9, [.ref 52, .int (I 51 1), .int (I 51 2), .int (I 51 3), .ref 53, .ref 54, .ref 55, .ref 56, .ref 57, .ref 58, .ref 59, .ref 60, .int (I 51 12), .long (J 51 13), .long (J 51 14), .int (I 51 15), .ref 61, .int (I 51 17), .int (I 51 18), .int (I 51 19), .int (I 51 20), .int (I 51 21), .ref 62, .int (I 51 23), .ref 63, .ref 64, .ref 65, .ref 66, .ref 67, .ref 68, .ref 69, .int (I 51 31), .int v])) = HX (u2 I 51 32 v) A J B F := rfl
theorem ha_4 (f : Nat → Int32) : (HX I A J B F).set 4 (.inl (0, 20, .inl f)) = HX I (ua A 4 f) J B F := rfl
theorem ha_9 (f : Nat → Int32) : (HX I A J B F).set 9 (.inl (0, 40, .inl f)) = HX I (ua A 9 f) J B F := rfl
theorem ha_12 (f : Nat → Int32) : (HX I A J B F).set 12 (.inl (0, 192, .inl f)) = HX I (ua A 12 f) J B F := rfl
theorem ha_14 (f : Nat → Int32) : (HX I A J B F).set 14 (.inl (0, 984, .inl f)) = HX I (ua A 14 f) J B F := rfl
theorem ha_15 (f : Nat → Int32) : (HX I A J B F).set 15 (.inl (0, 984, .inl f)) = HX I (ua A 15 f) J B F := rfl
theorem ha_17 (f : Nat → Int64) : (HX I A J B F).set 17 (.inl (1, 24, .inr (.inl f))) = HX I A J (ub B 17 f) F := rfl
theorem ha_18 (f : Nat → Int64) : (HX I A J B F).set 18 (.inl (1, 24, .inr (.inl f))) = HX I A J (ub B 18 f) F := rfl
theorem ha_19 (f : Nat → Int32) : (HX I A J B F).set 19 (.inl (0, 6, .inl f)) = HX I (ua A 19 f) J B F := rfl
theorem ha_21 (f : Nat → Int32) : (HX I A J B F).set 21 (.inl (0, 40, .inl f)) = HX I (ua A 21 f) J B F := rfl
theorem ha_23 (f : Nat → Int32) : (HX I A J B F).set 23 (.inl (0, 40, .inl f)) = HX I (ua A 23 f) J B F := rfl
theorem ha_25 (f : Nat → Int32) : (HX I A J B F).set 25 (.inl (0, 40, .inl f)) = HX I (ua A 25 f) J B F := rfl
theorem ha_27 (f : Nat → Int32) : (HX I A J B F).set 27 (.inl (0, 40, .inl f)) = HX I (ua A 27 f) J B F := rfl
theorem ha_29 (f : Nat → Int32) : (HX I A J B F).set 29 (.inl (0, 40, .inl f)) = HX I (ua A 29 f) J B F := rfl
theorem ha_31 (f : Nat → Int32) : (HX I A J B F).set 31 (.inl (0, 40, .inl f)) = HX I (ua A 31 f) J B F := rfl
theorem ha_33 (f : Nat → Int32) : (HX I A J B F).set 33 (.inl (0, 60, .inl f)) = HX I (ua A 33 f) J B F := rfl
theorem ha_35 (f : Nat → Int32) : (HX I A J B F).set 35 (.inl (0, 60, .inl f)) = HX I (ua A 35 f) J B F := rfl
theorem ha_37 (f : Nat → Int32) : (HX I A J B F).set 37 (.inl (0, 60, .inl f)) = HX I (ua A 37 f) J B F := rfl
theorem ha_39 (f : Nat → Int32) : (HX I A J B F).set 39 (.inl (0, 60, .inl f)) = HX I (ua A 39 f) J B F := rfl
theorem ha_46 (f : Nat → Int32) : (HX I A J B F).set 46 (.inl (0, 40, .inl f)) = HX I (ua A 46 f) J B F := rfl
theorem ha_48 (f : Nat → Int32) : (HX I A J B F).set 48 (.inl (0, 40, .inl f)) = HX I (ua A 48 f) J B F := rfl
theorem ha_50 (f : Nat → Int32) : (HX I A J B F).set 50 (.inl (0, 40, .inl f)) = HX I (ua A 50 f) J B F := rfl
theorem ha_52 (f : Nat → Int32) : (HX I A J B F).set 52 (.inl (0, 496, .inl f)) = HX I (ua A 52 f) J B F := rfl
theorem ha_53 (f : Nat → Int32) : (HX I A J B F).set 53 (.inl (0, 5, .inl f)) = HX I (ua A 53 f) J B F := rfl
theorem ha_54 (f : Nat → Int32) : (HX I A J B F).set 54 (.inl (0, 5, .inl f)) = HX I (ua A 54 f) J B F := rfl
theorem ha_55 (f : Nat → Int32) : (HX I A J B F).set 55 (.inl (0, 5, .inl f)) = HX I (ua A 55 f) J B F := rfl
theorem ha_56 (f : Nat → Int32) : (HX I A J B F).set 56 (.inl (0, 5, .inl f)) = HX I (ua A 56 f) J B F := rfl
theorem ha_57 (f : Nat → Int32) : (HX I A J B F).set 57 (.inl (0, 6, .inl f)) = HX I (ua A 57 f) J B F := rfl
theorem ha_58 (f : Nat → Int32) : (HX I A J B F).set 58 (.inl (0, 240, .inl f)) = HX I (ua A 58 f) J B F := rfl
theorem ha_59 (f : Nat → Int32) : (HX I A J B F).set 59 (.inl (0, 4, .inl f)) = HX I (ua A 59 f) J B F := rfl
theorem ha_60 (f : Nat → Int32) : (HX I A J B F).set 60 (.inl (0, 240, .inl f)) = HX I (ua A 60 f) J B F := rfl
theorem ha_61 (f : Nat → Int32) : (HX I A J B F).set 61 (.inl (0, 6, .inl f)) = HX I (ua A 61 f) J B F := rfl
theorem ha_62 (f : Nat → Int32) : (HX I A J B F).set 62 (.inl (0, 20, .inl f)) = HX I (ua A 62 f) J B F := rfl
theorem ha_63 (f : Nat → Int32) : (HX I A J B F).set 63 (.inl (0, 216, .inl f)) = HX I (ua A 63 f) J B F := rfl
theorem ha_64 (f : Nat → Int32) : (HX I A J B F).set 64 (.inl (0, 312, .inl f)) = HX I (ua A 64 f) J B F := rfl
theorem ha_65 (f : Nat → Int32) : (HX I A J B F).set 65 (.inl (0, 984, .inl f)) = HX I (ua A 65 f) J B F := rfl
theorem ha_66 (f : Nat → Int32) : (HX I A J B F).set 66 (.inl (0, 984, .inl f)) = HX I (ua A 66 f) J B F := rfl
theorem ha_67 (f : Nat → Int32) : (HX I A J B F).set 67 (.inl (0, 5, .inl f)) = HX I (ua A 67 f) J B F := rfl
theorem ha_68 (f : Nat → Int32) : (HX I A J B F).set 68 (.inl (0, 72, .inl f)) = HX I (ua A 68 f) J B F := rfl
theorem ha_69 (f : Nat → Int32) : (HX I A J B F).set 69 (.inl (0, 72, .inl f)) = HX I (ua A 69 f) J B F := rfl
theorem hx_row (k : Nat) (hk : k < 6) : (HX I A J B F)[20 + 2 * k]? = some (.inr (2, [.ref (21 + 2 * k), .int (I (20 + 2 * k) 1)])) := by
  rcases (show k = 0 ∨ k = 1 ∨ k = 2 ∨ k = 3 ∨ k = 4 ∨ k = 5 by omega) with rfl | rfl | rfl | rfl | rfl | rfl <;> rfl
theorem hx_rowc (k : Nat) (hk : k < 6) : (HX I A J B F)[21 + 2 * k]? = some (.inl (0, 40, .inl (A (21 + 2 * k)))) := by
  rcases (show k = 0 ∨ k = 1 ∨ k = 2 ∨ k = 3 ∨ k = 4 ∨ k = 5 by omega) with rfl | rfl | rfl | rfl | rfl | rfl <;> rfl
theorem hs_row (k : Nat) (hk : k < 6) (v : Int32) : (HX I A J B F).set (20 + 2 * k) (.inr (2, [.ref (21 + 2 * k), .int v])) = HX (u2 I (20 + 2 * k) 1 v) A J B F := by
  rcases (show k = 0 ∨ k = 1 ∨ k = 2 ∨ k = 3 ∨ k = 4 ∨ k = 5 by omega) with rfl | rfl | rfl | rfl | rfl | rfl <;> rfl
theorem ha_row (k : Nat) (hk : k < 6) (f : Nat → Int32) : (HX I A J B F).set (21 + 2 * k) (.inl (0, 40, .inl f)) = HX I (ua A (21 + 2 * k) f) J B F := by
  rcases (show k = 0 ∨ k = 1 ∨ k = 2 ∨ k = 3 ∨ k = 4 ∨ k = 5 by omega) with rfl | rfl | rfl | rfl | rfl | rfl <;> rfl
theorem hx_txt (k : Nat) (hk : k < 4) : (HX I A J B F)[32 + 2 * k]? = some (.inr (2, [.ref (33 + 2 * k), .int (I (32 + 2 * k) 1)])) := by
  rcases (show k = 0 ∨ k = 1 ∨ k = 2 ∨ k = 3 by omega) with rfl | rfl | rfl | rfl <;> rfl
theorem hx_txtc (k : Nat) (hk : k < 4) : (HX I A J B F)[33 + 2 * k]? = some (.inl (0, 60, .inl (A (33 + 2 * k)))) := by
  rcases (show k = 0 ∨ k = 1 ∨ k = 2 ∨ k = 3 by omega) with rfl | rfl | rfl | rfl <;> rfl
theorem hs_txt (k : Nat) (hk : k < 4) (v : Int32) : (HX I A J B F).set (32 + 2 * k) (.inr (2, [.ref (33 + 2 * k), .int v])) = HX (u2 I (32 + 2 * k) 1 v) A J B F := by
  rcases (show k = 0 ∨ k = 1 ∨ k = 2 ∨ k = 3 by omega) with rfl | rfl | rfl | rfl <;> rfl
theorem ha_txt (k : Nat) (hk : k < 4) (f : Nat → Int32) : (HX I A J B F).set (33 + 2 * k) (.inl (0, 60, .inl f)) = HX I (ua A (33 + 2 * k) f) J B F := by
  rcases (show k = 0 ∨ k = 1 ∨ k = 2 ∨ k = 3 by omega) with rfl | rfl | rfl | rfl <;> rfl
theorem hx_light (k : Nat) (hk : k < 5) : (HX I A J B F)[40 + k]? = some (.inr (1, [.int (I (40 + k) 0), .int (I (40 + k) 1), .int (I (40 + k) 2), .int (I (40 + k) 3)])) := by
  rcases (show k = 0 ∨ k = 1 ∨ k = 2 ∨ k = 3 ∨ k = 4 by omega) with rfl | rfl | rfl | rfl | rfl <;> rfl
theorem hf_light (k : Nat) (hk : k < 5) (v0 v1 v2 v3 : Int32) : (HX I A J B F).set (40 + k) (.inr (1, [.int v0, .int v1, .int v2, .int v3])) = HX (u2 (u2 (u2 (u2 I (40 + k) 0 v0) (40 + k) 1 v1) (40 + k) 2 v2) (40 + k) 3 v3) A J B F := by
  rcases (show k = 0 ∨ k = 1 ∨ k = 2 ∨ k = 3 ∨ k = 4 by omega) with rfl | rfl | rfl | rfl | rfl <;> rfl
theorem hx_kept (k : Nat) (hk : k < 3) : (HX I A J B F)[45 + 2 * k]? = some (.inr (3, [.ref (46 + 2 * k), .int (I (45 + 2 * k) 1), .int (I (45 + 2 * k) 2), .int (I (45 + 2 * k) 3), .int (I (45 + 2 * k) 4)])) := by
  rcases (show k = 0 ∨ k = 1 ∨ k = 2 by omega) with rfl | rfl | rfl <;> rfl
theorem hx_keptc (k : Nat) (hk : k < 3) : (HX I A J B F)[46 + 2 * k]? = some (.inl (0, 40, .inl (A (46 + 2 * k)))) := by
  rcases (show k = 0 ∨ k = 1 ∨ k = 2 by omega) with rfl | rfl | rfl <;> rfl
theorem hf_kept (k : Nat) (hk : k < 3) (v1 v2 v3 v4 : Int32) : (HX I A J B F).set (45 + 2 * k) (.inr (3, [.ref (46 + 2 * k), .int v1, .int v2, .int v3, .int v4])) = HX (u2 (u2 (u2 (u2 I (45 + 2 * k) 1 v1) (45 + 2 * k) 2 v2) (45 + 2 * k) 3 v3) (45 + 2 * k) 4 v4) A J B F := by
  rcases (show k = 0 ∨ k = 1 ∨ k = 2 by omega) with rfl | rfl | rfl <;> rfl
theorem ha_kept (k : Nat) (hk : k < 3) (f : Nat → Int32) : (HX I A J B F).set (46 + 2 * k) (.inl (0, 40, .inl f)) = HX I (ua A (46 + 2 * k) f) J B F := by
  rcases (show k = 0 ∨ k = 1 ∨ k = 2 by omega) with rfl | rfl | rfl <;> rfl
theorem xr1_at (k : Nat) (hk : k < 6) : xr1 k = some (20 + 2 * k) := by
  rcases (show k = 0 ∨ k = 1 ∨ k = 2 ∨ k = 3 ∨ k = 4 ∨ k = 5 by omega) with rfl | rfl | rfl | rfl | rfl | rfl <;> rfl
theorem xr2_at (k : Nat) (hk : k < 4) : xr2 k = some (32 + 2 * k) := by
  rcases (show k = 0 ∨ k = 1 ∨ k = 2 ∨ k = 3 by omega) with rfl | rfl | rfl | rfl <;> rfl
theorem xr5_at (k : Nat) (hk : k < 5) : xr5 k = some (40 + k) := by
  rcases (show k = 0 ∨ k = 1 ∨ k = 2 ∨ k = 3 ∨ k = 4 by omega) with rfl | rfl | rfl | rfl | rfl <;> rfl
theorem xr10_at (k : Nat) (hk : k < 3) : xr10 k = some (45 + 2 * k) := by
  rcases (show k = 0 ∨ k = 1 ∨ k = 2 by omega) with rfl | rfl | rfl <;> rfl
end HXs
