/-! numbers of lights, and the reference's leaves -/
theorem lg_lt (x y : Int64) : lg_cmp x y < 0 ↔ x < y := by
  unfold lg_cmp
  by_cases h1 : x > y
  · rw [if_pos h1]
    exact ⟨fun z => absurd z (by decide), fun z => absurd h1 (Int64.not_lt.mpr (Int64.le_of_lt z))⟩
  · rw [if_neg h1]
    by_cases h2 : x = y
    · rw [if_pos h2]
      subst h2
      exact ⟨fun z => absurd z (by decide), fun z => absurd (Int64.lt_iff_toInt_lt.mp z) (by omega)⟩
    · rw [if_neg h2]
      refine ⟨fun _ => ?_, fun _ => by decide⟩
      have h3 : ¬ x.toInt > y.toInt := fun z => h1 (Int64.lt_iff_toInt_lt.mpr z)
      have h4 : ¬ x.toInt = y.toInt := fun z => h2 (Int64.toInt_inj.mp z)
      exact Int64.lt_iff_toInt_lt.mpr (by omega)
theorem lg_gt (x y : Int64) : 0 < lg_cmp x y ↔ y < x := by
  unfold lg_cmp
  by_cases h1 : x > y
  · rw [if_pos h1]
    exact ⟨fun _ => h1, fun _ => by decide⟩
  · rw [if_neg h1]
    by_cases h2 : x = y
    · rw [if_pos h2]
      exact ⟨fun z => absurd z (by decide), fun z => absurd z h1⟩
    · rw [if_neg h2]
      exact ⟨fun z => absurd z (by decide), fun z => absurd z h1⟩
def f_inL (a b c : Int64) : Int32 := if lg_cmp a b < 0 then 0 else if 0 < lg_cmp a c then 0 else 1
theorem f_in_1 {x lo hi : Int32} {b c : Int64} (hb : lo.toInt64 = b) (hc : hi.toInt64 = c) (h1 : ¬ x < lo) (h2 : ¬ hi < x) : f_inL x.toInt64 b c = nI 1 := by
  subst hb
  subst hc
  unfold f_inL
  rw [if_neg, if_neg]
  · rfl
  · rw [lg_gt, Int64.lt_iff_toInt_lt, Int32.toInt_toInt64, Int32.toInt_toInt64, ← Int32.lt_iff_toInt_lt]
    exact h2
  · rw [lg_lt, Int64.lt_iff_toInt_lt, Int32.toInt_toInt64, Int32.toInt_toInt64, ← Int32.lt_iff_toInt_lt]
    exact h1
theorem f_in_0 {x lo hi : Int32} {b c : Int64} (hb : lo.toInt64 = b) (hc : hi.toInt64 = c) (h1 : x < lo ∨ hi < x) : f_inL x.toInt64 b c = nI 0 := by
  subst hb
  subst hc
  unfold f_inL
  by_cases h2 : x < lo
  · rw [if_pos]
    · rfl
    · rw [lg_lt, Int64.lt_iff_toInt_lt, Int32.toInt_toInt64, Int32.toInt_toInt64, ← Int32.lt_iff_toInt_lt]
      exact h2
  · have h3 := h1.resolve_left h2
    rw [if_neg, if_pos]
    · rfl
    · rw [lg_gt, Int64.lt_iff_toInt_lt, Int32.toInt_toInt64, Int32.toInt_toInt64, ← Int32.lt_iff_toInt_lt]
      exact h3
    · rw [lg_lt, Int64.lt_iff_toInt_lt, Int32.toInt_toInt64, Int32.toInt_toInt64, ← Int32.lt_iff_toInt_lt]
      exact h2
def tn (x : Int32) : Nat := x.toNatClampNeg
theorem tn_nI {n : Nat} (h : n < 2 ^ 31) : tn (nI n) = n := nI_clamp h
/-- a light: kind, start, speed, how bright -/
abbrev LT : Type := Int32 × Int32 × Int32 × Nat
def plN (l : LT) (m : Nat) : Nat := rdN (l.2.1 + f_mv l.1 l.2.2.1 (nI m))
theorem plN_lt (l : LT) (m : Nat) : plN l m < 24 := rdN_lt _
def brN (l : LT) (m : Nat) : Nat := if l.1 = 5 ∧ m % 4 = 0 then (if (l.1 = 3 ∨ l.1 = 5) ∧ m % 2 = 1 then l.2.2.2 / 2 else l.2.2.2) + 3 else (if (l.1 = 3 ∨ l.1 = 5) ∧ m % 2 = 1 then l.2.2.2 / 2 else l.2.2.2)
theorem brN_le (l : LT) (m : Nat) : brN l m ≤ l.2.2.2 + 3 := by
  unfold brN
  split <;> split <;> omega
def tmN (b : Nat) (fi pl : Int32) : Nat := if rdN (pl - fi) < b then (if rdN (pl - fi) = 0 then 1 else if rdN (pl - fi) = b - 1 then 1 else 2) else 0
theorem tmN_le (b : Nat) (fi pl : Int32) : tmN b fi pl ≤ 2 := by
  unfold tmN
  split
  · split
    · omega
    · split <;> omega
  · omega
def gnN (b : Nat) (l : LT) (fi : Int32) (m : Nat) : Nat := tmN b fi (nI (plN l m)) * brN l m
theorem gnN_le {b : Nat} {l : LT} {fi : Int32} {m : Nat} (hl : l.2.2.2 ≤ 9) : gnN b l fi m ≤ 24 := by
  have h1 := tmN_le b fi (nI (plN l m))
  have h2 := brN_le l m
  unfold gnN
  calc tmN b fi (nI (plN l m)) * brN l m ≤ 2 * 12 := Nat.mul_le_mul h1 (by omega)
    _ = 24 := rfl
def lOK (l : LT) : Prop := f_kd l.1 ∧ l.2.2.2 ≤ 9
theorem f_pl_eq (l : LT) (m : Nat) : f_pl l.1 l.2.1 l.2.2.1 (nI m) = nI (plN l m) := f_rd_eq _
theorem f_tm_eq {b : Nat} (hb : b ≤ 5) (fi pl : Int32) : f_tm (nI b) fi pl = nI (tmN b fi pl) := by
  unfold f_tm tmN
  rw [f_rd_eq]
  have h0 := rdN_lt (pl - fi)
  by_cases h1 : rdN (pl - fi) < b
  · rw [if_pos h1, if_pos ((nI_ltI (by omega) (by omega)).mpr h1)]
    by_cases h2 : rdN (pl - fi) = 0
    · rw [if_pos h2, if_pos (by rw [h2]; rfl)]
      rfl
    · rw [if_neg h2, if_neg (nI_ne0 (by omega) (by omega)), show nI b - 1 = nI (b - 1) from pk_sub (a := b) (b := 1) (by omega)]
      by_cases h3 : rdN (pl - fi) = b - 1
      · rw [if_pos h3, if_pos (by rw [h3])]
        rfl
      · rw [if_neg h3, if_neg (fun z => h3 ((nI_eq (by omega) (by omega)).mp z))]
        rfl
  · rw [if_neg h1, if_neg (fun z => h1 ((nI_ltI (by omega) (by omega)).mp z))]
    rfl
theorem f_of_3 (k : Int32) : ¬ f_of k 3 = 0 ↔ k = 3 ∨ k = 5 := by
  unfold f_of
  by_cases h1 : k = 3
  · simp [h1]
  · by_cases h2 : k = 5
    · simp [h2]
    · simp [h1, h2]
theorem f_rem_nI {m d : Nat} (hm : m < 2 ^ 31) (h0 : 0 < d) (hd : d < 2 ^ 31) : f_rem (nI m) (nI d) = nI (m % d) := pk_rem hm h0 hd
theorem f_br_eq {l : LT} (hl : l.2.2.2 ≤ 9) {m : Nat} (hm : m < 2 ^ 31) : f_br l.1 (nI l.2.2.2) (nI m) = nI (brN l m) := by
  unfold f_br brN
  rw [show f_rem (nI m) 4 = nI (m % 4) from f_rem_nI (d := 4) hm (by decide) (by decide), show f_rem (nI m) 2 = nI (m % 2) from f_rem_nI (d := 2) hm (by decide) (by decide)]
  have e4 : nI (m % 4) = 0 ↔ m % 4 = 0 := nI_eq (b := 0) (by omega) (by omega)
  have e2 : ¬ nI (m % 2) = 0 ↔ m % 2 = 1 := by
    rw [show (nI (m % 2) = 0 ↔ m % 2 = 0) from nI_eq (b := 0) (by omega) (by omega)]
    omega
  have e3 : nI l.2.2.2 / 2 = nI (l.2.2.2 / 2) := pk_div (d := 2) (by omega) (by decide) (by decide)
  simp only [e4, e2, f_of_3, e3]
  split
  · split
    · exact nI_add _ 3
    · exact nI_add _ 3
  · split <;> rfl
theorem gn_eq {b : Nat} (hb : b ≤ 5) {l : LT} (hl : l.2.2.2 ≤ 9) (fi : Int32) {m : Nat} (hm : m < 2 ^ 31) : f_tm (nI b) fi (f_pl l.1 l.2.1 l.2.2.1 (nI m)) * f_br l.1 (nI l.2.2.2) (nI m) = nI (gnN b l fi m) := by
  rw [f_pl_eq, f_tm_eq hb, f_br_eq hl hm, pk_mul]
  rfl
/-- the class's light i, the reference's light i -/
def cL (I : Nat → Nat → Int32) (a : Nat) : LT := (I a 0, I a 1, I a 2, tn (I a 3))
def mL (A : Nat → Nat → Int32) (i : Nat) : LT := (A 53 i, A 54 i, A 55 i, tn (A 56 i))
def mLk (A : Nat → Nat → Int32) : Prop := ∀ i, i < 5 → lOK (mL A i) ∧ A 56 i = nI (tn (A 56 i))
theorem sX9_in {X : XX} {h : XH} (a b c : Int64) : x_ev X xT 1 149 [.long a, .long b, .long c] h (some (.int (f_inL a b c))) h := by
  refine q_ev (L := [some (.long a), none, some (.long b), none, some (.long c), none]) tX9_in (Nat.le_of_ble_eq_true rfl) rfl ?_
  refine q_lload_n rfl rfl ?_
  refine q_lload_n rfl rfl ?_
  refine q_lcmp rfl ?_
  refine q_if_lt rfl (fun hc3 => ?_) (fun hc3 => ?_)
  · refine q_iconst (v := 0) rfl rfl ?_
    refine q_zret rfl rfl (by decide) ?_
    exact ⟨by simp [f_inL, *], rfl⟩
  · refine q_lload_n rfl rfl ?_
    refine q_lload rfl rfl ?_
    refine q_lcmp rfl ?_
    refine q_if_gt rfl (fun hc10 => ?_) (fun hc10 => ?_)
    · refine q_iconst (v := 0) rfl rfl ?_
      refine q_zret rfl rfl (by decide) ?_
      exact ⟨by simp [f_inL, *], rfl⟩
    · refine q_iconst (v := 1) rfl rfl ?_
      refine q_goto rfl ?_
      refine q_zret rfl rfl (by decide) ?_
      exact ⟨by simp [f_inL, *], rfl⟩
theorem sX9_find {X : XX} {I A : Nat → Nat → Int32} {J B : Nat → Nat → Int64} {F : Nat → Nat} (n : Nat) (hn : n < 6) : x_ev X xT 1 151 [.ref 51, .int (nI n)] (HX I A J B F) (some (.int (-3))) (HX (u2 I 51 15 (nI n)) (f_cnt A 61 n) J B F) := by
  refine q_ev (L := [some (.ref 51), some (.int (nI n))]) tX9_find (Nat.le_of_ble_eq_true rfl) rfl ?_
  refine q_aload_n rfl rfl ?_
  refine q_iload_n rfl rfl ?_
  refine q_putfield rfl hx_51 rfl (Nat.le_of_ble_eq_true rfl) (rfl) (by decide +kernel) ?_
  refine q_heap (hs_51_15 _) ?_
  refine q_aload_n rfl rfl ?_
  refine q_getfield rfl hx_51 rfl ?_
  refine q_iload_n rfl rfl ?_
  refine q_dup2 rfl ?_
  refine q_iald rfl (by decide) hx_61 (by omega) (by decide) (rfl) ?_
  refine q_iconst (v := nI 1) rfl rfl ?_
  refine q_iadd rfl ?_
  refine q_iastN rfl hx_61 (by omega) (by decide) ?_
  refine q_heap (ha_61 _) ?_
  refine q_bipush (v := (-3)) rfl rfl ?_
  refine q_iret rfl rfl ?_
  exact ⟨rfl, rfl⟩
theorem sX9_tell {X : XX} {I A : Nat → Nat → Int32} {J B : Nat → Nat → Int64} {F : Nat → Nat} (v : Int32) : x_ev X xT 1 152 [.ref 51, .int v] (HX I A J B F) (some (.int (nI 1))) (HX (u2 I 51 12 v) A J B F) := by
  refine q_ev (L := [some (.ref 51), some (.int v)]) tX9_tell (Nat.le_of_ble_eq_true rfl) rfl ?_
  refine q_aload_n rfl rfl ?_
  refine q_iload_n rfl rfl ?_
  refine q_putfield rfl hx_51 rfl (Nat.le_of_ble_eq_true rfl) (rfl) (by decide +kernel) ?_
  refine q_heap (hs_51_12 _) ?_
  refine q_iconst (v := nI 1) rfl rfl ?_
  refine q_iret rfl rfl ?_
  exact ⟨rfl, rfl⟩
theorem f_lt1 {x : Int32} {n : Nat} (hn : n < 2 ^ 30) (h : nI (n + 1) ≤ x) : nI n < x := by
  rw [Int32.le_iff_toInt_le, nI_toInt (by omega)] at h
  rw [Int32.lt_iff_toInt_lt, nI_toInt (by omega)]
  omega
theorem f_le1 {x : Int32} {n : Nat} (hn : n < 2 ^ 30) (h : nI n < x) : nI (n + 1) ≤ x := by
  rw [Int32.lt_iff_toInt_lt, nI_toInt (by omega)] at h
  rw [Int32.le_iff_toInt_le, nI_toInt (by omega)]
  omega
theorem f_ltm {x : Int32} {n : Nat} (hn : n < 2 ^ 30) (hx : ¬ x < 0) (h : nI n ≤ x) : nI n - nI 1 < x := by
  rw [Int32.le_iff_toInt_le, nI_toInt (by omega)] at h
  rw [Int32.lt_iff_toInt_lt, Int32.toInt_zero] at hx
  rw [Int32.lt_iff_toInt_lt, pk_sub_toInt (by omega) (by omega)]
  omega
theorem sX9_isRow_1 {X : XX} {I A : Nat → Nat → Int32} {J B : Nat → Nat → Int64} {F : Nat → Nat} (k : Nat) (hk : k < 6) : x_ev X xT 2 153 [.int (nI k)] (HX I A J B F) (some (.int (nI 1))) (HX I A J B F) := by
  refine q_ev (L := [some (.int (nI k))]) tX9_isRow (Nat.le_of_ble_eq_true rfl) rfl ?_
  refine q_iload_n rfl rfl ?_
  refine q_i2l rfl ?_
  refine q_lconst (v := 0) rfl rfl ?_
  refine q_ldc2_w (v := 5) rfl rfl ?_
  refine q_callS3 rfl rfl (Nat.le_of_ble_eq_true rfl) (Nat.le_of_ble_eq_true rfl) (sX9_in _ _ _) ?_
  refine q_zret rfl rfl (Or.inr (f_in_1 (lo := nI 0) (hi := nI 5) rfl rfl (nI_pos (by omega)) (nI_nlt (by omega) (by omega)))) ?_
  exact ⟨vI (f_in_1 (lo := nI 0) (hi := nI 5) rfl rfl (nI_pos (by omega)) (nI_nlt (by omega) (by omega))), rfl⟩
theorem sX9_isRow_0 {X : XX} {I A : Nat → Nat → Int32} {J B : Nat → Nat → Int64} {F : Nat → Nat} (x : Int32) (hx : x < 0 ∨ 6 ≤ x) : x_ev X xT 2 153 [.int x] (HX I A J B F) (some (.int (nI 0))) (HX I A J B F) := by
  refine q_ev (L := [some (.int x)]) tX9_isRow (Nat.le_of_ble_eq_true rfl) rfl ?_
  refine q_iload_n rfl rfl ?_
  refine q_i2l rfl ?_
  refine q_lconst (v := 0) rfl rfl ?_
  refine q_ldc2_w (v := 5) rfl rfl ?_
  refine q_callS3 rfl rfl (Nat.le_of_ble_eq_true rfl) (Nat.le_of_ble_eq_true rfl) (sX9_in _ _ _) ?_
  refine q_zret rfl rfl (Or.inl (f_in_0 (lo := 0) (hi := nI 5) rfl rfl (hx.imp id (fun z => f_lt1 (n := 5) (by omega) z)))) ?_
  exact ⟨vI (f_in_0 (lo := 0) (hi := nI 5) rfl rfl (hx.imp id (fun z => f_lt1 (n := 5) (by omega) z))), rfl⟩
theorem sX9_isText_1 {X : XX} {I A : Nat → Nat → Int32} {J B : Nat → Nat → Int64} {F : Nat → Nat} (k : Nat) (hk : k < 4) : x_ev X xT 2 154 [.int (nI k)] (HX I A J B F) (some (.int (nI 1))) (HX I A J B F) := by
  refine q_ev (L := [some (.int (nI k))]) tX9_isText (Nat.le_of_ble_eq_true rfl) rfl ?_
  refine q_iload_n rfl rfl ?_
  refine q_i2l rfl ?_
  refine q_lconst (v := 0) rfl rfl ?_
  refine q_ldc2_w (v := 3) rfl rfl ?_
  refine q_callS3 rfl rfl (Nat.le_of_ble_eq_true rfl) (Nat.le_of_ble_eq_true rfl) (sX9_in _ _ _) ?_
  refine q_zret rfl rfl (Or.inr (f_in_1 (lo := nI 0) (hi := nI 3) rfl rfl (nI_pos (by omega)) (nI_nlt (by omega) (by omega)))) ?_
  exact ⟨vI (f_in_1 (lo := nI 0) (hi := nI 3) rfl rfl (nI_pos (by omega)) (nI_nlt (by omega) (by omega))), rfl⟩
theorem sX9_isText_0 {X : XX} {I A : Nat → Nat → Int32} {J B : Nat → Nat → Int64} {F : Nat → Nat} (x : Int32) (hx : x < 0 ∨ 4 ≤ x) : x_ev X xT 2 154 [.int x] (HX I A J B F) (some (.int (nI 0))) (HX I A J B F) := by
  refine q_ev (L := [some (.int x)]) tX9_isText (Nat.le_of_ble_eq_true rfl) rfl ?_
  refine q_iload_n rfl rfl ?_
  refine q_i2l rfl ?_
  refine q_lconst (v := 0) rfl rfl ?_
  refine q_ldc2_w (v := 3) rfl rfl ?_
  refine q_callS3 rfl rfl (Nat.le_of_ble_eq_true rfl) (Nat.le_of_ble_eq_true rfl) (sX9_in _ _ _) ?_
  refine q_zret rfl rfl (Or.inl (f_in_0 (lo := 0) (hi := nI 3) rfl rfl (hx.imp id (fun z => f_lt1 (n := 3) (by omega) z)))) ?_
  exact ⟨vI (f_in_0 (lo := 0) (hi := nI 3) rfl rfl (hx.imp id (fun z => f_lt1 (n := 3) (by omega) z))), rfl⟩
theorem sX9_isAhead_1 {X : XX} {I A : Nat → Nat → Int32} {J B : Nat → Nat → Int64} {F : Nat → Nat} (k : Nat) (hk : k < 100) : x_ev X xT 2 204 [.int (nI k)] (HX I A J B F) (some (.int (nI 1))) (HX I A J B F) := by
  refine q_ev (L := [some (.int (nI k))]) tX9_isAhead (Nat.le_of_ble_eq_true rfl) rfl ?_
  refine q_iload_n rfl rfl ?_
  refine q_i2l rfl ?_
  refine q_lconst (v := 0) rfl rfl ?_
  refine q_ldc2_w (v := 99) rfl rfl ?_
  refine q_callS3 rfl rfl (Nat.le_of_ble_eq_true rfl) (Nat.le_of_ble_eq_true rfl) (sX9_in _ _ _) ?_
  refine q_zret rfl rfl (Or.inr (f_in_1 (lo := nI 0) (hi := nI 99) rfl rfl (nI_pos (by omega)) (nI_nlt (by omega) (by omega)))) ?_
  exact ⟨vI (f_in_1 (lo := nI 0) (hi := nI 99) rfl rfl (nI_pos (by omega)) (nI_nlt (by omega) (by omega))), rfl⟩
theorem sX9_isAhead_0 {X : XX} {I A : Nat → Nat → Int32} {J B : Nat → Nat → Int64} {F : Nat → Nat} (x : Int32) (hx : x < 0 ∨ 100 ≤ x) : x_ev X xT 2 204 [.int x] (HX I A J B F) (some (.int (nI 0))) (HX I A J B F) := by
  refine q_ev (L := [some (.int x)]) tX9_isAhead (Nat.le_of_ble_eq_true rfl) rfl ?_
  refine q_iload_n rfl rfl ?_
  refine q_i2l rfl ?_
  refine q_lconst (v := 0) rfl rfl ?_
  refine q_ldc2_w (v := 99) rfl rfl ?_
  refine q_callS3 rfl rfl (Nat.le_of_ble_eq_true rfl) (Nat.le_of_ble_eq_true rfl) (sX9_in _ _ _) ?_
  refine q_zret rfl rfl (Or.inl (f_in_0 (lo := 0) (hi := nI 99) rfl rfl (hx.imp id (fun z => f_lt1 (n := 99) (by omega) z)))) ?_
  exact ⟨vI (f_in_0 (lo := 0) (hi := nI 99) rfl rfl (hx.imp id (fun z => f_lt1 (n := 99) (by omega) z))), rfl⟩
theorem sX9_isLight_1 {X : XX} {I A : Nat → Nat → Int32} {J B : Nat → Nat → Int64} {F : Nat → Nat} (k ln : Nat) (hk : k < ln) (hl : ln ≤ 5) (e : I 51 3 = nI ln) : x_ev X xT 2 176 [.ref 51, .int (nI k)] (HX I A J B F) (some (.int (nI 1))) (HX I A J B F) := by
  refine q_ev (L := [some (.ref 51), some (.int (nI k))]) tX9_isLight (Nat.le_of_ble_eq_true rfl) rfl ?_
  refine q_iload_n rfl rfl ?_
  refine q_i2l rfl ?_
  refine q_lconst (v := 0) rfl rfl ?_
  refine q_aload_n rfl rfl ?_
  refine q_getI rfl hx_51 rfl (e) ?_
  refine q_iconst (v := nI 1) rfl rfl ?_
  refine q_isubN rfl (by omega) ?_
  refine q_i2l rfl ?_
  refine q_callS3 rfl rfl (Nat.le_of_ble_eq_true rfl) (Nat.le_of_ble_eq_true rfl) (sX9_in _ _ _) ?_
  refine q_zret rfl rfl (Or.inr (f_in_1 (lo := nI 0) rfl rfl (nI_pos (by omega)) (nI_nlt (by omega) (by omega)))) ?_
  exact ⟨vI (f_in_1 (lo := nI 0) rfl rfl (nI_pos (by omega)) (nI_nlt (by omega) (by omega))), rfl⟩
theorem sX9_isLight_0 {X : XX} {I A : Nat → Nat → Int32} {J B : Nat → Nat → Int64} {F : Nat → Nat} (x : Int32) (ln : Nat) (hl : ln ≤ 5) (e : I 51 3 = nI ln) (hx : x < 0 ∨ nI ln ≤ x) : x_ev X xT 2 176 [.ref 51, .int x] (HX I A J B F) (some (.int (nI 0))) (HX I A J B F) := by
  refine q_ev (L := [some (.ref 51), some (.int x)]) tX9_isLight (Nat.le_of_ble_eq_true rfl) rfl ?_
  refine q_iload_n rfl rfl ?_
  refine q_i2l rfl ?_
  refine q_lconst (v := 0) rfl rfl ?_
  refine q_aload_n rfl rfl ?_
  refine q_getI rfl hx_51 rfl (e) ?_
  refine q_iconst (v := nI 1) rfl rfl ?_
  refine q_isub rfl ?_
  refine q_i2l rfl ?_
  refine q_callS3 rfl rfl (Nat.le_of_ble_eq_true rfl) (Nat.le_of_ble_eq_true rfl) (sX9_in _ _ _) ?_
  refine q_zret rfl rfl (Or.inl (f_in_0 (lo := 0) rfl rfl (by by_cases z : x < 0; exact Or.inl z; exact Or.inr (f_ltm (by omega) z (hx.resolve_left z))))) ?_
  exact ⟨vI (f_in_0 (lo := 0) rfl rfl (by by_cases z : x < 0; exact Or.inl z; exact Or.inr (f_ltm (by omega) z (hx.resolve_left z)))), rfl⟩
theorem sX9_ring {X : XX} {h : XH} (x : Int32) : x_ev X xT 1 177 [.int x] h (some (.int (nI (rdN x)))) h := by
  refine q_ev (L := [some (.int x)]) tX9_ring (Nat.le_of_ble_eq_true rfl) rfl ?_
  refine q_iload_n rfl rfl ?_
  refine q_bipush (v := 24) rfl rfl ?_
  refine q_irem rfl (by decide) ?_
  refine q_bipush (v := 24) rfl rfl ?_
  refine q_iadd rfl ?_
  refine q_bipush (v := 24) rfl rfl ?_
  refine q_irem rfl (by decide) ?_
  refine q_iret rfl rfl ?_
  exact ⟨by rw [← f_ring_eq], rfl⟩
theorem sX9_moved {X : XX} {h : XH} (kind speed m : Int32) (hk : f_kd kind) : x_ev X xT 1 178 [.int kind, .int speed, .int m] h (some (.int (f_mv kind speed m))) h := by
  refine q_ev (L := [some (.int kind), some (.int speed), some (.int m)]) tX9_moved (Nat.le_of_ble_eq_true rfl) rfl ?_
  refine q_iload_n rfl rfl ?_
  rcases hk with rfl | rfl | rfl | rfl | rfl | rfl
  · refine q_tsw (t := 48) rfl (by decide) ?_
    refine q_iload_n rfl rfl ?_
    refine q_iload_n rfl rfl ?_
    refine q_imul rfl ?_
    refine q_iret rfl rfl ?_
    exact ⟨by rfl, rfl⟩
  · refine q_tsw (t := 32) rfl (by decide) ?_
    refine q_iload_n rfl rfl ?_
    refine q_iload_n rfl rfl ?_
    refine q_iconst (v := 1) rfl rfl ?_
    refine q_iadd rfl ?_
    refine q_iconst (v := 2) rfl rfl ?_
    refine q_idiv rfl (by decide) ?_
    refine q_imul rfl ?_
    refine q_iret rfl rfl ?_
    exact ⟨by rfl, rfl⟩
  · refine q_tsw (t := 40) rfl (by decide) ?_
    refine q_iconst (v := 2) rfl rfl ?_
    refine q_iload_n rfl rfl ?_
    refine q_imul rfl ?_
    refine q_iload_n rfl rfl ?_
    refine q_imul rfl ?_
    refine q_iret rfl rfl ?_
    exact ⟨by rfl, rfl⟩
  · refine q_tsw (t := 48) rfl (by decide) ?_
    refine q_iload_n rfl rfl ?_
    refine q_iload_n rfl rfl ?_
    refine q_imul rfl ?_
    refine q_iret rfl rfl ?_
    exact ⟨by rfl, rfl⟩
  · refine q_tsw (t := 46) rfl (by decide) ?_
    refine q_iconst (v := 0) rfl rfl ?_
    refine q_iret rfl rfl ?_
    exact ⟨by rfl, rfl⟩
  · refine q_tsw (t := 48) rfl (by decide) ?_
    refine q_iload_n rfl rfl ?_
    refine q_iload_n rfl rfl ?_
    refine q_imul rfl ?_
    refine q_iret rfl rfl ?_
    exact ⟨by rfl, rfl⟩
theorem sX9_placeAt {X : XX} {I A : Nat → Nat → Int32} {J B : Nat → Nat → Int64} {F : Nat → Nat} (i : Nat) (hi : i < 5) (hl : mLk A) (m : Nat) : x_ev X xT 2 179 [.ref 51, .int (nI i), .int (nI m)] (HX I A J B F) (some (.int (nI (plN (mL A i) m)))) (HX I A J B F) := by
  refine q_ev (L := [some (.ref 51), some (.int (nI i)), some (.int (nI m))]) tX9_placeAt (Nat.le_of_ble_eq_true rfl) rfl ?_
  refine q_aload_n rfl rfl ?_
  refine q_getfield rfl hx_51 rfl ?_
  refine q_iload_n rfl rfl ?_
  refine q_iald rfl (by decide) hx_54 (by omega) (by decide) (rfl) ?_
  refine q_aload_n rfl rfl ?_
  refine q_getfield rfl hx_51 rfl ?_
  refine q_iload_n rfl rfl ?_
  refine q_iald rfl (by decide) hx_53 (by omega) (by decide) (rfl) ?_
  refine q_aload_n rfl rfl ?_
  refine q_getfield rfl hx_51 rfl ?_
  refine q_iload_n rfl rfl ?_
  refine q_iald rfl (by decide) hx_55 (by omega) (by decide) (rfl) ?_
  refine q_iload_n rfl rfl ?_
  refine q_callS3 rfl rfl (Nat.le_of_ble_eq_true rfl) (Nat.le_of_ble_eq_true rfl) (sX9_moved _ _ _ (hl i hi).1.1) ?_
  refine q_iadd rfl ?_
  refine q_callS1 rfl rfl (Nat.le_of_ble_eq_true rfl) (Nat.le_of_ble_eq_true rfl) (sX9_ring _) ?_
  refine q_iret rfl rfl ?_
  exact ⟨rfl, rfl⟩
theorem sX9_now {X : XX} {I A : Nat → Nat → Int32} {J B : Nat → Nat → Int64} {F : Nat → Nat} (i : Nat) (hi : i < 5) (hl : mLk A) (m : Nat) (hm : A 52 1 = nI m) : x_ev X xT 3 180 [.ref 51, .int (nI i)] (HX I A J B F) (some (.int (nI (plN (mL A i) m)))) (HX I A J B F) := by
  refine q_ev (L := [some (.ref 51), some (.int (nI i))]) tX9_now (Nat.le_of_ble_eq_true rfl) rfl ?_
  refine q_aload_n rfl rfl ?_
  refine q_iload_n rfl rfl ?_
  refine q_aload_n rfl rfl ?_
  refine q_getfield rfl hx_51 rfl ?_
  refine q_iconst (v := nI 1) rfl rfl ?_
  refine q_iald rfl (by decide) hx_52 (by decide) (by decide) (hm) ?_
  refine q_callV2 rfl hx_51 (Nat.le_of_ble_eq_true rfl) (Nat.le_of_ble_eq_true rfl) (sX9_placeAt i hi hl m) ?_
  refine q_iret rfl rfl ?_
  exact ⟨rfl, rfl⟩
theorem sX9_brightOf {X : XX} {h : XH} (kd st sp : Int32) (b : Nat) (hb : b ≤ 9) (m : Nat) (hm : m < 2 ^ 30) : x_ev X xT 1 181 [.int kd, .int (nI b), .int (nI m)] h (some (.int (nI (brN (kd, st, sp, b) m)))) h := by
  refine q_ev (L := [some (.int kd), some (.int (nI b)), some (.int (nI m)), none]) tX9_brightOf (Nat.le_of_ble_eq_true rfl) rfl ?_
  refine q_iload_n rfl rfl ?_
  refine q_iconst (v := 3) rfl rfl ?_
  refine q_icmp_eq rfl (fun hc2 => ?_) (fun hc2 => ?_)
  · refine q_iload_n rfl rfl ?_
    refine q_iconst (v := nI 2) rfl rfl ?_
    refine q_iremN rfl (by omega) (by decide) (by decide) ?_
    refine q_iconst (v := nI 1) rfl rfl ?_
    refine q_icmp_neN rfl (by omega) (by omega) (fun hc14 => ?_) (fun hc14 => ?_)
    · refine q_iload_n rfl rfl ?_
      refine q_istore_n (L' := [_, _, _, _]) rfl rfl ?_
      refine q_iload_n rfl rfl ?_
      refine q_iconst (v := 5) rfl rfl ?_
      refine q_icmp_ne rfl (fun hc27 => ?_) (fun hc27 => ?_)
      · refine q_iload_n rfl rfl ?_
        refine q_iret rfl rfl ?_
        exact ⟨by simp_all [brN], rfl⟩
      · refine q_iload_n rfl rfl ?_
        refine q_iconst (v := nI 4) rfl rfl ?_
        refine q_iremN rfl (by omega) (by decide) (by decide) ?_
        refine q_if_neN rfl (by omega) (fun hc33 => ?_) (fun hc33 => ?_)
        · refine q_iload_n rfl rfl ?_
          refine q_iret rfl rfl ?_
          exact ⟨by simp_all [brN], rfl⟩
        · refine q_iload_n rfl rfl ?_
          refine q_iconst (v := nI 3) rfl rfl ?_
          refine q_iaddN rfl ?_
          refine q_goto rfl ?_
          refine q_iret rfl rfl ?_
          exact ⟨by simp_all [brN], rfl⟩
    · refine q_iload_n rfl rfl ?_
      refine q_iconst (v := nI 2) rfl rfl ?_
      refine q_idivN rfl (by omega) (by decide) (by decide) ?_
      refine q_goto rfl ?_
      refine q_istore_n (L' := [_, _, _, _]) rfl rfl ?_
      refine q_iload_n rfl rfl ?_
      refine q_iconst (v := 5) rfl rfl ?_
      refine q_icmp_ne rfl (fun hc27 => ?_) (fun hc27 => ?_)
      · refine q_iload_n rfl rfl ?_
        refine q_iret rfl rfl ?_
        exact ⟨by simp_all [brN], rfl⟩
      · refine q_iload_n rfl rfl ?_
        refine q_iconst (v := nI 4) rfl rfl ?_
        refine q_iremN rfl (by omega) (by decide) (by decide) ?_
        refine q_if_neN rfl (by omega) (fun hc33 => ?_) (fun hc33 => ?_)
        · refine q_iload_n rfl rfl ?_
          refine q_iret rfl rfl ?_
          exact ⟨by simp_all [brN], rfl⟩
        · refine q_iload_n rfl rfl ?_
          refine q_iconst (v := nI 3) rfl rfl ?_
          refine q_iaddN rfl ?_
          refine q_goto rfl ?_
          refine q_iret rfl rfl ?_
          exact ⟨by simp_all [brN], rfl⟩
  · refine q_iload_n rfl rfl ?_
    refine q_iconst (v := 5) rfl rfl ?_
    refine q_icmp_ne rfl (fun hc7 => ?_) (fun hc7 => ?_)
    · refine q_iload_n rfl rfl ?_
      refine q_istore_n (L' := [_, _, _, _]) rfl rfl ?_
      refine q_iload_n rfl rfl ?_
      refine q_iconst (v := 5) rfl rfl ?_
      refine q_icmp_ne rfl (fun hc27 => ?_) (fun hc27 => ?_)
      · refine q_iload_n rfl rfl ?_
        refine q_iret rfl rfl ?_
        exact ⟨by simp_all [brN], rfl⟩
      · refine q_iload_n rfl rfl ?_
        refine q_iconst (v := nI 4) rfl rfl ?_
        refine q_iremN rfl (by omega) (by decide) (by decide) ?_
        refine q_if_neN rfl (by omega) (fun hc33 => ?_) (fun hc33 => ?_)
        · refine q_iload_n rfl rfl ?_
          refine q_iret rfl rfl ?_
          exact ⟨by simp_all [brN], rfl⟩
        · refine q_iload_n rfl rfl ?_
          refine q_iconst (v := nI 3) rfl rfl ?_
          refine q_iaddN rfl ?_
          refine q_goto rfl ?_
          refine q_iret rfl rfl ?_
          exact ⟨by simp_all [brN], rfl⟩
    · refine q_iload_n rfl rfl ?_
      refine q_iconst (v := nI 2) rfl rfl ?_
      refine q_iremN rfl (by omega) (by decide) (by decide) ?_
      refine q_iconst (v := nI 1) rfl rfl ?_
      refine q_icmp_neN rfl (by omega) (by omega) (fun hc14 => ?_) (fun hc14 => ?_)
      · refine q_iload_n rfl rfl ?_
        refine q_istore_n (L' := [_, _, _, _]) rfl rfl ?_
        refine q_iload_n rfl rfl ?_
        refine q_iconst (v := 5) rfl rfl ?_
        refine q_icmp_ne rfl (fun hc27 => ?_) (fun hc27 => ?_)
        · refine q_iload_n rfl rfl ?_
          refine q_iret rfl rfl ?_
          exact ⟨by simp_all [brN], rfl⟩
        · refine q_iload_n rfl rfl ?_
          refine q_iconst (v := nI 4) rfl rfl ?_
          refine q_iremN rfl (by omega) (by decide) (by decide) ?_
          refine q_if_neN rfl (by omega) (fun hc33 => ?_) (fun hc33 => ?_)
          · refine q_iload_n rfl rfl ?_
            refine q_iret rfl rfl ?_
            exact ⟨by simp_all [brN], rfl⟩
          · refine q_iload_n rfl rfl ?_
            refine q_iconst (v := nI 3) rfl rfl ?_
            refine q_iaddN rfl ?_
            refine q_goto rfl ?_
            refine q_iret rfl rfl ?_
            exact ⟨by simp_all [brN], rfl⟩
      · refine q_iload_n rfl rfl ?_
        refine q_iconst (v := nI 2) rfl rfl ?_
        refine q_idivN rfl (by omega) (by decide) (by decide) ?_
        refine q_goto rfl ?_
        refine q_istore_n (L' := [_, _, _, _]) rfl rfl ?_
        refine q_iload_n rfl rfl ?_
        refine q_iconst (v := 5) rfl rfl ?_
        refine q_icmp_ne rfl (fun hc27 => ?_) (fun hc27 => ?_)
        · refine q_iload_n rfl rfl ?_
          refine q_iret rfl rfl ?_
          exact ⟨by simp_all [brN], rfl⟩
        · refine q_iload_n rfl rfl ?_
          refine q_iconst (v := nI 4) rfl rfl ?_
          refine q_iremN rfl (by omega) (by decide) (by decide) ?_
          refine q_if_neN rfl (by omega) (fun hc33 => ?_) (fun hc33 => ?_)
          · refine q_iload_n rfl rfl ?_
            refine q_iret rfl rfl ?_
            exact ⟨by simp_all [brN], rfl⟩
          · refine q_iload_n rfl rfl ?_
            refine q_iconst (v := nI 3) rfl rfl ?_
            refine q_iaddN rfl ?_
            refine q_goto rfl ?_
            refine q_iret rfl rfl ?_
            exact ⟨by simp_all [brN], rfl⟩
theorem sX9_brightAt {X : XX} {I A : Nat → Nat → Int32} {J B : Nat → Nat → Int64} {F : Nat → Nat} (i : Nat) (hi : i < 5) (hl : mLk A) (m : Nat) (hm : m < 2 ^ 30) : x_ev X xT 2 182 [.ref 51, .int (nI i), .int (nI m)] (HX I A J B F) (some (.int (nI (brN (mL A i) m)))) (HX I A J B F) := by
  refine q_ev (L := [some (.ref 51), some (.int (nI i)), some (.int (nI m))]) tX9_brightAt (Nat.le_of_ble_eq_true rfl) rfl ?_
  refine q_aload_n rfl rfl ?_
  refine q_getfield rfl hx_51 rfl ?_
  refine q_iload_n rfl rfl ?_
  refine q_iald rfl (by decide) hx_53 (by omega) (by decide) (rfl) ?_
  refine q_aload_n rfl rfl ?_
  refine q_getfield rfl hx_51 rfl ?_
  refine q_iload_n rfl rfl ?_
  refine q_iald rfl (by decide) hx_56 (by omega) (by decide) ((hl i hi).2) ?_
  refine q_iload_n rfl rfl ?_
  refine q_callS3 rfl rfl (Nat.le_of_ble_eq_true rfl) (Nat.le_of_ble_eq_true rfl) (sX9_brightOf _ (A 54 i) (A 55 i) _ (hl i hi).1.2 m hm) ?_
  refine q_iret rfl rfl ?_
  exact ⟨rfl, rfl⟩
theorem sX9_times {X : XX} {I A : Nat → Nat → Int32} {J B : Nat → Nat → Int64} {F : Nat → Nat} (b : Nat) (hb : b ≤ 5) (eb : I 51 1 = nI b) (fi pl : Int32) : x_ev X xT 2 183 [.ref 51, .int pl, .int fi] (HX I A J B F) (some (.int (nI (tmN b fi pl)))) (HX I A J B F) := by
  refine q_ev (L := [some (.ref 51), some (.int pl), some (.int fi), none]) tX9_times (Nat.le_of_ble_eq_true rfl) rfl ?_
  refine q_iload_n rfl rfl ?_
  refine q_iload_n rfl rfl ?_
  refine q_isub rfl ?_
  refine q_callS1 rfl rfl (Nat.le_of_ble_eq_true rfl) (Nat.le_of_ble_eq_true rfl) (sX9_ring _) ?_
  refine q_istore_n (L' := [_, _, _, _]) rfl rfl ?_
  refine q_iload_n rfl rfl ?_
  refine q_aload_n rfl rfl ?_
  refine q_getI rfl hx_51 rfl (eb) ?_
  refine q_icmp_ltN rfl (by have := rdN_lt (pl - fi); omega) (by omega) (fun hc12 => ?_) (fun hc12 => ?_)
  · refine q_iload_n rfl rfl ?_
    refine q_if_eqN rfl (by have := rdN_lt (pl - fi); omega) (fun hc20 => ?_) (fun hc20 => ?_)
    · refine q_iconst (v := nI 1) rfl rfl ?_
      refine q_goto rfl ?_
      refine q_iret rfl rfl ?_
      exact ⟨vI (by unfold tmN; first | rw [if_pos hc12, if_pos hc20] | rw [if_pos hc12, if_neg hc20, if_neg hc30] | rw [if_pos hc12, if_neg hc20, if_pos hc30] | rw [if_neg hc12]), rfl⟩
    · refine q_iload_n rfl rfl ?_
      refine q_aload_n rfl rfl ?_
      refine q_getI rfl hx_51 rfl (eb) ?_
      refine q_iconst (v := nI 1) rfl rfl ?_
      refine q_isubN rfl (by omega) ?_
      refine q_icmp_neN rfl (by have := rdN_lt (pl - fi); omega) (by omega) (fun hc30 => ?_) (fun hc30 => ?_)
      · refine q_iconst (v := nI 2) rfl rfl ?_
        refine q_iret rfl rfl ?_
        exact ⟨vI (by unfold tmN; first | rw [if_pos hc12, if_pos hc20] | rw [if_pos hc12, if_neg hc20, if_neg hc30] | rw [if_pos hc12, if_neg hc20, if_pos hc30] | rw [if_neg hc12]), rfl⟩
      · refine q_iconst (v := nI 1) rfl rfl ?_
        refine q_goto rfl ?_
        refine q_iret rfl rfl ?_
        exact ⟨vI (by unfold tmN; first | rw [if_pos hc12, if_pos hc20] | rw [if_pos hc12, if_neg hc20, if_neg hc30] | rw [if_pos hc12, if_neg hc20, if_pos hc30] | rw [if_neg hc12]), rfl⟩
  · refine q_iconst (v := nI 0) rfl rfl ?_
    refine q_goto rfl ?_
    refine q_iret rfl rfl ?_
    exact ⟨vI (by unfold tmN; first | rw [if_pos hc12, if_pos hc20] | rw [if_pos hc12, if_neg hc20, if_neg hc30] | rw [if_pos hc12, if_neg hc20, if_pos hc30] | rw [if_neg hc12]), rfl⟩
theorem sX9_got {X : XX} {I A : Nat → Nat → Int32} {J B : Nat → Nat → Int64} {F : Nat → Nat} (i : Nat) (hi : i < 5) (hl : mLk A) (b : Nat) (hb : b ≤ 5) (eb : I 51 1 = nI b) (fi : Int32) (m : Nat) (hm : m < 2 ^ 30) : x_ev X xT 3 184 [.ref 51, .int (nI i), .int fi, .int (nI m)] (HX I A J B F) (some (.int (nI (gnN b (mL A i) fi m)))) (HX I A J B F) := by
  refine q_ev (L := [some (.ref 51), some (.int (nI i)), some (.int fi), some (.int (nI m))]) tX9_got (Nat.le_of_ble_eq_true rfl) rfl ?_
  refine q_aload_n rfl rfl ?_
  refine q_iload_n rfl rfl ?_
  refine q_iload_n rfl rfl ?_
  refine q_callV2 rfl hx_51 (Nat.le_of_ble_eq_true rfl) (Nat.le_of_ble_eq_true rfl) (sX9_brightAt i hi hl m hm) ?_
  refine q_aload_n rfl rfl ?_
  refine q_aload_n rfl rfl ?_
  refine q_iload_n rfl rfl ?_
  refine q_iload_n rfl rfl ?_
  refine q_callV2 rfl hx_51 (Nat.le_of_ble_eq_true rfl) (Nat.le_of_ble_eq_true rfl) (sX9_placeAt i hi hl m) ?_
  refine q_iload_n rfl rfl ?_
  refine q_callV2 rfl hx_51 (Nat.le_of_ble_eq_true rfl) (Nat.le_of_ble_eq_true rfl) (sX9_times b hb eb fi _) ?_
  refine q_imulN rfl ?_
  refine q_iret rfl rfl ?_
  exact ⟨by rw [Nat.mul_comm]; rfl, rfl⟩
