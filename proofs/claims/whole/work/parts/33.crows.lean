/-! rows and texts: the class's calls -/
theorem hz_u2 {I : Nat → Nat → Int32} {a b q : Nat} {v z : Int32} (h : b ≠ 1) (hz : I (20 + 2 * q) 1 = z) : u2 I a b v (20 + 2 * q) 1 = z := by
  unfold u2
  rw [if_neg (fun w => h w.2.symm)]
  exact hz
theorem rm_row {q : Nat} (h : q < 6) : rm q = 40 := if_pos h
theorem rm_txt {t : Nat} : rm (6 + t) = 60 := if_neg (by omega)
theorem nI_l0 {k : Nat} (h0 : 0 < k) (hk : k < 2 ^ 31) : ¬ (nI k).toInt64 = 0 := by
  rw [nI_l hk]
  intro z
  have e : lN k = lN 0 := z
  rw [pk_lEQ (by omega) (by omega)] at e
  omega
theorem cpy_ix {a b c m0 m1 : Nat} (h0 : a + c ≤ m0) (h1 : b + c ≤ m1) (m0h : m0 ≤ 100000) (m1h : m1 ≤ 100000) : ¬ (nI a < 0 ∨ nI b < 0 ∨ nI c < 0 ∨ m0 < (nI a).toNatClampNeg + (nI c).toNatClampNeg ∨ m1 < (nI b).toNatClampNeg + (nI c).toNatClampNeg ∨ 8 < (([] : List Value).map fun v => v.category).sum) := by
  rw [nI_clamp (show a < 2 ^ 31 by omega), nI_clamp (show b < 2 ^ 31 by omega), nI_clamp (show c < 2 ^ 31 by omega)]
  rintro (h | h | h | h | h | h)
  · exact nI_pos (by omega) h
  · exact nI_pos (by omega) h
  · exact nI_pos (by omega) h
  · omega
  · omega
  · exact absurd h (by decide)
theorem f_hr_1 {k a c : Nat} (h : a + c ≤ k) (hk : k < 2 ^ 30) : f_hr (nI k) (nI a) (nI c) = nI 1 := by
  unfold f_hr
  rw [if_neg (nI_pos (by omega)), if_neg (nI_nlt (by omega) (by omega)), if_neg (nI_pos (by omega)), pk_sub (by omega), if_neg (nI_nlt (by omega) (by omega))]
  rfl
theorem f_hr_0 {k c : Nat} {x : Int32} (hx : x < 0 ∨ ∃ a, a < 2 ^ 31 ∧ x = nI a ∧ k < a + c) (hk : k < 2 ^ 30) (hc : c < 2 ^ 31) : f_hr (nI k) x (nI c) = nI 0 := by
  unfold f_hr
  by_cases h1 : x < 0
  · rw [if_pos h1]
    rfl
  · obtain ⟨a, ha, rfl, hac⟩ := hx.resolve_left h1
    rw [if_neg h1]
    by_cases h2 : nI k < nI a
    · rw [if_pos h2]
      rfl
    · have h3 : a ≤ k := by
        rw [nI_ltI (by omega) ha] at h2
        omega
      rw [if_neg h2, if_neg (nI_pos hc), pk_sub h3, if_pos (nI_lt (by omega) hc)]
      rfl
theorem sX2_take {X : XX} {I A : Nat → Nat → Int32} {J B : Nat → Nat → Int64} {F : Nat → Nat} (q : Nat) (hq : q < 10) (p : Nat) (hp : p < 10) (k : Nat) (hk : k ≤ rm q) (hz : I (20 + 2 * q) 1 = nI k) (k2 : Nat) (hk2 : k2 ≤ rm p) (hz2 : I (20 + 2 * p) 1 = nI k2) (j i n : Nat) (h1 : j + n ≤ k) (h2 : i + n ≤ k2) : x_ev X xT 2 34 [.ref (20 + 2 * q), .int (nI j), .ref (20 + 2 * p), .int (nI i), .int (nI n)] (HX I A J B F) none (HX I (ua A (21 + 2 * q) (va_cpy (A (21 + 2 * p)) (A (21 + 2 * q)) i j n)) J B F) := by
  have r1 := rm_le q
  have r2 := rm_le p
  have e1 := sX2_holdsRun (X := X) (hx_lineZ (A := A) (J := J) (B := B) (F := F) p hp hz2) (nI i) (nI n)
  have e2 := sX2_holdsRun (X := X) (hx_lineZ (A := A) (J := J) (B := B) (F := F) q hq hz) (nI j) (nI n)
  rw [f_hr_1 h2 (by omega)] at e1
  rw [f_hr_1 h1 (by omega)] at e2
  refine q_ev (L := [some (.ref (20 + 2 * q)), some (.int (nI j)), some (.ref (20 + 2 * p)), some (.int (nI i)), some (.int (nI n))]) tX2_take (Nat.le_of_ble_eq_true rfl) rfl ?_
  refine q_aload_n rfl rfl ?_
  refine q_iload_n rfl rfl ?_
  refine q_iload rfl rfl ?_
  refine q_callV2 rfl (hx_line p hp) (Nat.le_of_ble_eq_true rfl) (Nat.le_of_ble_eq_true rfl) (e1) ?_
  refine q_if_eqN rfl (by omega) (fun hc7 => ?_) (fun hc7 => ?_)
  · exact absurd hc7 (by decide)
  · refine q_aload_n rfl rfl ?_
    refine q_iload_n rfl rfl ?_
    refine q_iload rfl rfl ?_
    refine q_callV2 rfl (hx_line q hq) (Nat.le_of_ble_eq_true rfl) (Nat.le_of_ble_eq_true rfl) (e2) ?_
    refine q_if_eqN rfl (by omega) (fun hc17 => ?_) (fun hc17 => ?_)
    · exact absurd hc17 (by decide)
    · refine q_aload_n rfl rfl ?_
      refine q_getfield rfl (hx_line p hp) rfl ?_
      refine q_iload_n rfl rfl ?_
      refine q_aload_n rfl rfl ?_
      refine q_getfield rfl (hx_line q hq) rfl ?_
      refine q_iload_n rfl rfl ?_
      refine q_iload rfl rfl ?_
      refine q_cpy rfl rfl (hx_lineC p hp) (hx_lineC q hq) (cpy_ix (by omega) (by omega) (by omega) (by omega)) ?_
      refine q_heap (ha_line q hq _) ?_
      refine q_vret rfl rfl ?_
      exact ⟨rfl, by rw [nI_clamp (show i < 2 ^ 31 by omega), nI_clamp (show j < 2 ^ 31 by omega), nI_clamp (show n < 2 ^ 31 by omega)]⟩
theorem c_row_bad {X : XX} {I A : Nat → Nat → Int32} {J B : Nat → Nat → Int64} {F : Nat → Nat} (x : Int32) (hx : x < 0 ∨ 6 ≤ x) (n : Int32) : x_ev X xT 4 80 [.ref 0, .int x, .int n] (HX I A J B F) (some (.int (-1))) (HX I A J B F) := by
  refine q_ev (L := [some (.ref 0), some (.int x), some (.int n)]) tX8_row (Nat.le_of_ble_eq_true rfl) rfl ?_
  refine q_aload_n rfl rfl ?_
  refine q_aload_n rfl rfl ?_
  refine q_getfield rfl hx_0 rfl ?_
  refine q_iload_n rfl rfl ?_
  refine q_callS2 rfl rfl (Nat.le_of_ble_eq_true rfl) (Nat.le_of_ble_eq_true rfl) (sX8_lineAt_rowN x hx) ?_
  refine q_iload_n rfl rfl ?_
  refine q_iconst (v := 0) rfl rfl ?_
  refine q_callV3 rfl hx_0 (Nat.le_of_ble_eq_true rfl) (Nat.le_of_ble_eq_true rfl) (sX8_renewed_N _ _) ?_
  refine q_iret rfl rfl ?_
  exact ⟨rfl, rfl⟩
theorem c_row_B {X : XX} {I A : Nat → Nat → Int32} {J B : Nat → Nat → Int64} {F : Nat → Nat} (q : Nat) (hr : q < 6) (n : Int32) (hn : nI 40 < n) : x_ev X xT 4 80 [.ref 0, .int (nI q), .int n] (HX I A J B F) (some (.int (-1))) (HX I A J B F) := by
  have hq : q < 10 := by omega
  refine q_ev (L := [some (.ref 0), some (.int (nI q)), some (.int n)]) tX8_row (Nat.le_of_ble_eq_true rfl) rfl ?_
  refine q_aload_n rfl rfl ?_
  refine q_aload_n rfl rfl ?_
  refine q_getfield rfl hx_0 rfl ?_
  refine q_iload_n rfl rfl ?_
  refine q_callS2 rfl rfl (Nat.le_of_ble_eq_true rfl) (Nat.le_of_ble_eq_true rfl) (sX8_lineAt_row q hr) ?_
  refine q_iload_n rfl rfl ?_
  refine q_iconst (v := 0) rfl rfl ?_
  refine q_callV3 rfl hx_0 (Nat.le_of_ble_eq_true rfl) (Nat.le_of_ble_eq_true rfl) (sX8_renewed_B (q) hq _ _ (by rw [rm_row hr]; exact hn)) ?_
  refine q_iret rfl rfl ?_
  exact ⟨rfl, rfl⟩
theorem c_row_S {X : XX} {I A : Nat → Nat → Int32} {J B : Nat → Nat → Int64} {F : Nat → Nat} (q : Nat) (hr : q < 6) (n : Int32) (hn : n < 0) : x_ev X xT 4 80 [.ref 0, .int (nI q), .int n] (HX I A J B F) (some (.int (-3))) (HX (u2 I 0 13 (nI 5)) (f_cnt A 19 5) J B F) := by
  have hq : q < 10 := by omega
  refine q_ev (L := [some (.ref 0), some (.int (nI q)), some (.int n)]) tX8_row (Nat.le_of_ble_eq_true rfl) rfl ?_
  refine q_aload_n rfl rfl ?_
  refine q_aload_n rfl rfl ?_
  refine q_getfield rfl hx_0 rfl ?_
  refine q_iload_n rfl rfl ?_
  refine q_callS2 rfl rfl (Nat.le_of_ble_eq_true rfl) (Nat.le_of_ble_eq_true rfl) (sX8_lineAt_row q hr) ?_
  refine q_iload_n rfl rfl ?_
  refine q_iconst (v := 0) rfl rfl ?_
  refine q_callV3 rfl hx_0 (Nat.le_of_ble_eq_true rfl) (Nat.le_of_ble_eq_true rfl) (sX8_renewed_S (q) hq _ _ hn) ?_
  refine q_iret rfl rfl ?_
  exact ⟨rfl, rfl⟩
theorem c_row_0 {X : XX} {I A : Nat → Nat → Int32} {J B : Nat → Nat → Int64} {F : Nat → Nat} (q : Nat) (hr : q < 6) (n : Nat) (hn : n ≤ 40) : x_ev X xT 4 80 [.ref 0, .int (nI q), .int (nI n)] (HX I A J B F) (some (.int (nI n))) (HX (u2 I (20 + 2 * (q)) 1 (nI n)) (ua A (21 + 2 * (q)) (f_fill (A (21 + 2 * (q))) 0 0 (rm (q)))) J B F) := by
  have hq : q < 10 := by omega
  refine q_ev (L := [some (.ref 0), some (.int (nI q)), some (.int (nI n))]) tX8_row (Nat.le_of_ble_eq_true rfl) rfl ?_
  refine q_aload_n rfl rfl ?_
  refine q_aload_n rfl rfl ?_
  refine q_getfield rfl hx_0 rfl ?_
  refine q_iload_n rfl rfl ?_
  refine q_callS2 rfl rfl (Nat.le_of_ble_eq_true rfl) (Nat.le_of_ble_eq_true rfl) (sX8_lineAt_row q hr) ?_
  refine q_iload_n rfl rfl ?_
  refine q_iconst (v := 0) rfl rfl ?_
  refine q_callV3 rfl hx_0 (Nat.le_of_ble_eq_true rfl) (Nat.le_of_ble_eq_true rfl) (sX8_renewed_0 (q) hq n (by rw [rm_row hr]; exact hn) _) ?_
  refine q_iret rfl rfl ?_
  exact ⟨rfl, rfl⟩
theorem c_text_bad {X : XX} {I A : Nat → Nat → Int32} {J B : Nat → Nat → Int64} {F : Nat → Nat} (x : Int32) (hx : x < 0 ∨ 4 ≤ x) (n : Int32) : x_ev X xT 4 86 [.ref 0, .int x, .int n] (HX I A J B F) (some (.int (-1))) (HX I A J B F) := by
  refine q_ev (L := [some (.ref 0), some (.int x), some (.int n)]) tX8_text (Nat.le_of_ble_eq_true rfl) rfl ?_
  refine q_aload_n rfl rfl ?_
  refine q_aload_n rfl rfl ?_
  refine q_getfield rfl hx_0 rfl ?_
  refine q_iload_n rfl rfl ?_
  refine q_callS2 rfl rfl (Nat.le_of_ble_eq_true rfl) (Nat.le_of_ble_eq_true rfl) (sX8_lineAt_txtN x hx) ?_
  refine q_iload_n rfl rfl ?_
  refine q_bipush (v := 32) rfl rfl ?_
  refine q_callV3 rfl hx_0 (Nat.le_of_ble_eq_true rfl) (Nat.le_of_ble_eq_true rfl) (sX8_renewed_N _ _) ?_
  refine q_iret rfl rfl ?_
  exact ⟨rfl, rfl⟩
theorem c_text_B {X : XX} {I A : Nat → Nat → Int32} {J B : Nat → Nat → Int64} {F : Nat → Nat} (t : Nat) (ht : t < 4) (n : Int32) (hn : nI 60 < n) : x_ev X xT 4 86 [.ref 0, .int (nI t), .int n] (HX I A J B F) (some (.int (-1))) (HX I A J B F) := by
  have hq : 6 + t < 10 := by omega
  refine q_ev (L := [some (.ref 0), some (.int (nI t)), some (.int n)]) tX8_text (Nat.le_of_ble_eq_true rfl) rfl ?_
  refine q_aload_n rfl rfl ?_
  refine q_aload_n rfl rfl ?_
  refine q_getfield rfl hx_0 rfl ?_
  refine q_iload_n rfl rfl ?_
  refine q_callS2 rfl rfl (Nat.le_of_ble_eq_true rfl) (Nat.le_of_ble_eq_true rfl) (sX8_lineAt_t t ht) ?_
  refine q_iload_n rfl rfl ?_
  refine q_bipush (v := 32) rfl rfl ?_
  refine q_callV3 rfl hx_0 (Nat.le_of_ble_eq_true rfl) (Nat.le_of_ble_eq_true rfl) (sX8_renewed_B (6 + t) hq _ _ (by rw [rm_txt]; exact hn)) ?_
  refine q_iret rfl rfl ?_
  exact ⟨rfl, rfl⟩
theorem c_text_S {X : XX} {I A : Nat → Nat → Int32} {J B : Nat → Nat → Int64} {F : Nat → Nat} (t : Nat) (ht : t < 4) (n : Int32) (hn : n < 0) : x_ev X xT 4 86 [.ref 0, .int (nI t), .int n] (HX I A J B F) (some (.int (-3))) (HX (u2 I 0 13 (nI 5)) (f_cnt A 19 5) J B F) := by
  have hq : 6 + t < 10 := by omega
  refine q_ev (L := [some (.ref 0), some (.int (nI t)), some (.int n)]) tX8_text (Nat.le_of_ble_eq_true rfl) rfl ?_
  refine q_aload_n rfl rfl ?_
  refine q_aload_n rfl rfl ?_
  refine q_getfield rfl hx_0 rfl ?_
  refine q_iload_n rfl rfl ?_
  refine q_callS2 rfl rfl (Nat.le_of_ble_eq_true rfl) (Nat.le_of_ble_eq_true rfl) (sX8_lineAt_t t ht) ?_
  refine q_iload_n rfl rfl ?_
  refine q_bipush (v := 32) rfl rfl ?_
  refine q_callV3 rfl hx_0 (Nat.le_of_ble_eq_true rfl) (Nat.le_of_ble_eq_true rfl) (sX8_renewed_S (6 + t) hq _ _ hn) ?_
  refine q_iret rfl rfl ?_
  exact ⟨rfl, rfl⟩
theorem c_text_0 {X : XX} {I A : Nat → Nat → Int32} {J B : Nat → Nat → Int64} {F : Nat → Nat} (t : Nat) (ht : t < 4) (n : Nat) (hn : n ≤ 60) : x_ev X xT 4 86 [.ref 0, .int (nI t), .int (nI n)] (HX I A J B F) (some (.int (nI n))) (HX (u2 I (20 + 2 * (6 + t)) 1 (nI n)) (ua A (21 + 2 * (6 + t)) (f_fill (A (21 + 2 * (6 + t))) 32 0 (rm (6 + t)))) J B F) := by
  have hq : 6 + t < 10 := by omega
  refine q_ev (L := [some (.ref 0), some (.int (nI t)), some (.int (nI n))]) tX8_text (Nat.le_of_ble_eq_true rfl) rfl ?_
  refine q_aload_n rfl rfl ?_
  refine q_aload_n rfl rfl ?_
  refine q_getfield rfl hx_0 rfl ?_
  refine q_iload_n rfl rfl ?_
  refine q_callS2 rfl rfl (Nat.le_of_ble_eq_true rfl) (Nat.le_of_ble_eq_true rfl) (sX8_lineAt_t t ht) ?_
  refine q_iload_n rfl rfl ?_
  refine q_bipush (v := 32) rfl rfl ?_
  refine q_callV3 rfl hx_0 (Nat.le_of_ble_eq_true rfl) (Nat.le_of_ble_eq_true rfl) (sX8_renewed_0 (6 + t) hq n (by rw [rm_txt]; exact hn) _) ?_
  refine q_iret rfl rfl ?_
  exact ⟨rfl, rfl⟩
theorem c_lay_bad {X : XX} {I A : Nat → Nat → Int32} {J B : Nat → Nat → Int64} {F : Nat → Nat} (x : Int32) (hx : x < 0 ∨ 6 ≤ x) (i : Int32) (v : Int32) : x_ev X xT 4 81 [.ref 0, .int x, .int i, .int v] (HX I A J B F) (some (.int (-1))) (HX I A J B F) := by
  refine q_ev (L := [some (.ref 0), some (.int x), some (.int i), some (.int v), none, none]) tX8_lay (Nat.le_of_ble_eq_true rfl) rfl ?_
  refine q_aload_n rfl rfl ?_
  refine q_getfield rfl hx_0 rfl ?_
  refine q_iload_n rfl rfl ?_
  refine q_callS2 rfl rfl (Nat.le_of_ble_eq_true rfl) (Nat.le_of_ble_eq_true rfl) (sX8_lineAt_rowN x hx) ?_
  refine q_astoreN (L' := [_, _, _, _, _, _]) rfl rfl ?_
  refine q_aload_n rfl rfl ?_
  refine q_aloadN rfl rfl ?_
  refine q_iload_n rfl rfl ?_
  refine q_callV2 rfl hx_0 (Nat.le_of_ble_eq_true rfl) (Nat.le_of_ble_eq_true rfl) (sX8_refusePlace_N _) ?_
  refine q_istore (L' := [_, _, _, _, _, _]) rfl rfl ?_
  refine q_aloadN rfl rfl ?_
  refine q_ifnullN rfl ?_
  refine q_iload rfl rfl ?_
  refine q_iret rfl rfl ?_
  exact ⟨rfl, rfl⟩
theorem c_lay_M {X : XX} {I A : Nat → Nat → Int32} {J B : Nat → Nat → Int64} {F : Nat → Nat} (q : Nat) (hr : q < 6) (hz : I (20 + 2 * q) 1 = -1) (i : Int32) (v : Int32) : x_ev X xT 4 81 [.ref 0, .int (nI q), .int i, .int v] (HX I A J B F) (some (.int (-3))) (HX (u2 I 0 13 (nI 1)) (f_cnt A 19 1) J B F) := by
  have hq : q < 10 := by omega
  refine q_ev (L := [some (.ref 0), some (.int (nI q)), some (.int i), some (.int v), none, none]) tX8_lay (Nat.le_of_ble_eq_true rfl) rfl ?_
  refine q_aload_n rfl rfl ?_
  refine q_getfield rfl hx_0 rfl ?_
  refine q_iload_n rfl rfl ?_
  refine q_callS2 rfl rfl (Nat.le_of_ble_eq_true rfl) (Nat.le_of_ble_eq_true rfl) (sX8_lineAt_row q hr) ?_
  refine q_astore (L' := [_, _, _, _, _, _]) rfl rfl ?_
  refine q_aload_n rfl rfl ?_
  refine q_aload rfl rfl ?_
  refine q_iload_n rfl rfl ?_
  refine q_callV2 rfl hx_0 (Nat.le_of_ble_eq_true rfl) (Nat.le_of_ble_eq_true rfl) (sX8_refusePlace_M q hq hz _) ?_
  refine q_istore (L' := [_, _, _, _, _, _]) rfl rfl ?_
  refine q_aload rfl rfl ?_
  refine q_ifnull rfl ?_
  refine q_iload rfl rfl ?_
  refine q_if_eq rfl (fun hc26 => ?_) (fun hc26 => ?_)
  · exact absurd hc26 (by decide)
  · refine q_iload rfl rfl ?_
    refine q_iret rfl rfl ?_
    exact ⟨rfl, rfl⟩
theorem c_lay_B {X : XX} {I A : Nat → Nat → Int32} {J B : Nat → Nat → Int64} {F : Nat → Nat} (q : Nat) (hr : q < 6) (k : Nat) (hk : k ≤ rm (q)) (hz : I (20 + 2 * (q)) 1 = nI k) (i : Int32) (hi : i < 0 ∨ nI k ≤ i) (v : Int32) : x_ev X xT 4 81 [.ref 0, .int (nI q), .int i, .int v] (HX I A J B F) (some (.int (-3))) (HX (u2 I 0 13 (nI 2)) (f_cnt A 19 2) J B F) := by
  have hq : q < 10 := by omega
  refine q_ev (L := [some (.ref 0), some (.int (nI q)), some (.int i), some (.int v), none, none]) tX8_lay (Nat.le_of_ble_eq_true rfl) rfl ?_
  refine q_aload_n rfl rfl ?_
  refine q_getfield rfl hx_0 rfl ?_
  refine q_iload_n rfl rfl ?_
  refine q_callS2 rfl rfl (Nat.le_of_ble_eq_true rfl) (Nat.le_of_ble_eq_true rfl) (sX8_lineAt_row q hr) ?_
  refine q_astore (L' := [_, _, _, _, _, _]) rfl rfl ?_
  refine q_aload_n rfl rfl ?_
  refine q_aload rfl rfl ?_
  refine q_iload_n rfl rfl ?_
  refine q_callV2 rfl hx_0 (Nat.le_of_ble_eq_true rfl) (Nat.le_of_ble_eq_true rfl) (sX8_refusePlace_B q hq k hk hz _ hi) ?_
  refine q_istore (L' := [_, _, _, _, _, _]) rfl rfl ?_
  refine q_aload rfl rfl ?_
  refine q_ifnull rfl ?_
  refine q_iload rfl rfl ?_
  refine q_if_eq rfl (fun hc26 => ?_) (fun hc26 => ?_)
  · exact absurd hc26 (by decide)
  · refine q_iload rfl rfl ?_
    refine q_iret rfl rfl ?_
    exact ⟨rfl, rfl⟩
theorem c_lay_0 {X : XX} {I A : Nat → Nat → Int32} {J B : Nat → Nat → Int64} {F : Nat → Nat} (q : Nat) (hr : q < 6) (k : Nat) (hk : k ≤ rm (q)) (hz : I (20 + 2 * (q)) 1 = nI k) (j : Nat) (hj : j < k) (v : Int32) : x_ev X xT 4 81 [.ref 0, .int (nI q), .int (nI j), .int v] (HX I A J B F) (some (.int (nI 1))) (HX (u2 I 0 14 (A (21 + 2 * q) j)) (ua A (21 + 2 * q) (upd (A (21 + 2 * q)) j v)) J B F) := by
  have hq : q < 10 := by omega
  refine q_ev (L := [some (.ref 0), some (.int (nI q)), some (.int (nI j)), some (.int v), none, none]) tX8_lay (Nat.le_of_ble_eq_true rfl) rfl ?_
  refine q_aload_n rfl rfl ?_
  refine q_getfield rfl hx_0 rfl ?_
  refine q_iload_n rfl rfl ?_
  refine q_callS2 rfl rfl (Nat.le_of_ble_eq_true rfl) (Nat.le_of_ble_eq_true rfl) (sX8_lineAt_row q hr) ?_
  refine q_astore (L' := [_, _, _, _, _, _]) rfl rfl ?_
  refine q_aload_n rfl rfl ?_
  refine q_aload rfl rfl ?_
  refine q_iload_n rfl rfl ?_
  refine q_callV2 rfl hx_0 (Nat.le_of_ble_eq_true rfl) (Nat.le_of_ble_eq_true rfl) (sX8_refusePlace_0 q hq k hk hz j hj) ?_
  refine q_istore (L' := [_, _, _, _, _, _]) rfl rfl ?_
  refine q_aload rfl rfl ?_
  refine q_ifnull rfl ?_
  refine q_iload rfl rfl ?_
  refine q_if_eqN rfl (by omega) (fun hc26 => ?_) (fun hc26 => ?_)
  · refine q_aload_n rfl rfl ?_
    refine q_aload rfl rfl ?_
    refine q_iload_n rfl rfl ?_
    refine q_callV1 rfl (hx_line q hq) (Nat.le_of_ble_eq_true rfl) (Nat.le_of_ble_eq_true rfl) (sL_read q hq k hk hz j hj) ?_
    refine q_putfield rfl hx_0 rfl (Nat.le_of_ble_eq_true rfl) (rfl) (by decide +kernel) ?_
    refine q_heap (hs_0_14 _) ?_
    refine q_aload rfl rfl ?_
    refine q_iload_n rfl rfl ?_
    refine q_iload_n rfl rfl ?_
    refine q_callV2 rfl (hx_line q hq) (Nat.le_of_ble_eq_true rfl) (Nat.le_of_ble_eq_true rfl) (sL_write q hq k hk (hz_u2 (by decide) hz) j hj v) ?_
    refine q_iconst (v := nI 1) rfl rfl ?_
    refine q_iret rfl rfl ?_
    exact ⟨rfl, rfl⟩
  · exact absurd hc26 (by decide)
theorem c_at_bad {X : XX} {I A : Nat → Nat → Int32} {J B : Nat → Nat → Int64} {F : Nat → Nat} (x : Int32) (hx : x < 0 ∨ 6 ≤ x) (i : Int32)  : x_ev X xT 4 82 [.ref 0, .int x, .int i] (HX I A J B F) (some (.int (-1))) (HX I A J B F) := by
  refine q_ev (L := [some (.ref 0), some (.int x), some (.int i), none, none]) tX8_at (Nat.le_of_ble_eq_true rfl) rfl ?_
  refine q_aload_n rfl rfl ?_
  refine q_getfield rfl hx_0 rfl ?_
  refine q_iload_n rfl rfl ?_
  refine q_callS2 rfl rfl (Nat.le_of_ble_eq_true rfl) (Nat.le_of_ble_eq_true rfl) (sX8_lineAt_rowN x hx) ?_
  refine q_astore_nN (L' := [_, _, _, _, _]) rfl rfl ?_
  refine q_aload_n rfl rfl ?_
  refine q_aload_nN rfl rfl ?_
  refine q_iload_n rfl rfl ?_
  refine q_callV2 rfl hx_0 (Nat.le_of_ble_eq_true rfl) (Nat.le_of_ble_eq_true rfl) (sX8_refusePlace_N _) ?_
  refine q_istore (L' := [_, _, _, _, _]) rfl rfl ?_
  refine q_aload_nN rfl rfl ?_
  refine q_ifnullN rfl ?_
  refine q_iload rfl rfl ?_
  refine q_iret rfl rfl ?_
  exact ⟨rfl, rfl⟩
theorem c_at_M {X : XX} {I A : Nat → Nat → Int32} {J B : Nat → Nat → Int64} {F : Nat → Nat} (q : Nat) (hr : q < 6) (hz : I (20 + 2 * q) 1 = -1) (i : Int32)  : x_ev X xT 4 82 [.ref 0, .int (nI q), .int i] (HX I A J B F) (some (.int (-3))) (HX (u2 I 0 13 (nI 1)) (f_cnt A 19 1) J B F) := by
  have hq : q < 10 := by omega
  refine q_ev (L := [some (.ref 0), some (.int (nI q)), some (.int i), none, none]) tX8_at (Nat.le_of_ble_eq_true rfl) rfl ?_
  refine q_aload_n rfl rfl ?_
  refine q_getfield rfl hx_0 rfl ?_
  refine q_iload_n rfl rfl ?_
  refine q_callS2 rfl rfl (Nat.le_of_ble_eq_true rfl) (Nat.le_of_ble_eq_true rfl) (sX8_lineAt_row q hr) ?_
  refine q_astore_n (L' := [_, _, _, _, _]) rfl rfl ?_
  refine q_aload_n rfl rfl ?_
  refine q_aload_n rfl rfl ?_
  refine q_iload_n rfl rfl ?_
  refine q_callV2 rfl hx_0 (Nat.le_of_ble_eq_true rfl) (Nat.le_of_ble_eq_true rfl) (sX8_refusePlace_M q hq hz _) ?_
  refine q_istore (L' := [_, _, _, _, _]) rfl rfl ?_
  refine q_aload_n rfl rfl ?_
  refine q_ifnull rfl ?_
  refine q_iload rfl rfl ?_
  refine q_if_eq rfl (fun hc23 => ?_) (fun hc23 => ?_)
  · exact absurd hc23 (by decide)
  · refine q_iload rfl rfl ?_
    refine q_iret rfl rfl ?_
    exact ⟨rfl, rfl⟩
theorem c_at_B {X : XX} {I A : Nat → Nat → Int32} {J B : Nat → Nat → Int64} {F : Nat → Nat} (q : Nat) (hr : q < 6) (k : Nat) (hk : k ≤ rm (q)) (hz : I (20 + 2 * (q)) 1 = nI k) (i : Int32) (hi : i < 0 ∨ nI k ≤ i)  : x_ev X xT 4 82 [.ref 0, .int (nI q), .int i] (HX I A J B F) (some (.int (-3))) (HX (u2 I 0 13 (nI 2)) (f_cnt A 19 2) J B F) := by
  have hq : q < 10 := by omega
  refine q_ev (L := [some (.ref 0), some (.int (nI q)), some (.int i), none, none]) tX8_at (Nat.le_of_ble_eq_true rfl) rfl ?_
  refine q_aload_n rfl rfl ?_
  refine q_getfield rfl hx_0 rfl ?_
  refine q_iload_n rfl rfl ?_
  refine q_callS2 rfl rfl (Nat.le_of_ble_eq_true rfl) (Nat.le_of_ble_eq_true rfl) (sX8_lineAt_row q hr) ?_
  refine q_astore_n (L' := [_, _, _, _, _]) rfl rfl ?_
  refine q_aload_n rfl rfl ?_
  refine q_aload_n rfl rfl ?_
  refine q_iload_n rfl rfl ?_
  refine q_callV2 rfl hx_0 (Nat.le_of_ble_eq_true rfl) (Nat.le_of_ble_eq_true rfl) (sX8_refusePlace_B q hq k hk hz _ hi) ?_
  refine q_istore (L' := [_, _, _, _, _]) rfl rfl ?_
  refine q_aload_n rfl rfl ?_
  refine q_ifnull rfl ?_
  refine q_iload rfl rfl ?_
  refine q_if_eq rfl (fun hc23 => ?_) (fun hc23 => ?_)
  · exact absurd hc23 (by decide)
  · refine q_iload rfl rfl ?_
    refine q_iret rfl rfl ?_
    exact ⟨rfl, rfl⟩
theorem c_at_0 {X : XX} {I A : Nat → Nat → Int32} {J B : Nat → Nat → Int64} {F : Nat → Nat} (q : Nat) (hr : q < 6) (k : Nat) (hk : k ≤ rm (q)) (hz : I (20 + 2 * (q)) 1 = nI k) (j : Nat) (hj : j < k)  : x_ev X xT 4 82 [.ref 0, .int (nI q), .int (nI j)] (HX I A J B F) (some (.int (nI 1))) (HX (u2 I 0 14 (A (21 + 2 * q) j)) A J B F) := by
  have hq : q < 10 := by omega
  refine q_ev (L := [some (.ref 0), some (.int (nI q)), some (.int (nI j)), none, none]) tX8_at (Nat.le_of_ble_eq_true rfl) rfl ?_
  refine q_aload_n rfl rfl ?_
  refine q_getfield rfl hx_0 rfl ?_
  refine q_iload_n rfl rfl ?_
  refine q_callS2 rfl rfl (Nat.le_of_ble_eq_true rfl) (Nat.le_of_ble_eq_true rfl) (sX8_lineAt_row q hr) ?_
  refine q_astore_n (L' := [_, _, _, _, _]) rfl rfl ?_
  refine q_aload_n rfl rfl ?_
  refine q_aload_n rfl rfl ?_
  refine q_iload_n rfl rfl ?_
  refine q_callV2 rfl hx_0 (Nat.le_of_ble_eq_true rfl) (Nat.le_of_ble_eq_true rfl) (sX8_refusePlace_0 q hq k hk hz j hj) ?_
  refine q_istore (L' := [_, _, _, _, _]) rfl rfl ?_
  refine q_aload_n rfl rfl ?_
  refine q_ifnull rfl ?_
  refine q_iload rfl rfl ?_
  refine q_if_eqN rfl (by omega) (fun hc23 => ?_) (fun hc23 => ?_)
  · refine q_aload_n rfl rfl ?_
    refine q_aload_n rfl rfl ?_
    refine q_iload_n rfl rfl ?_
    refine q_callV1 rfl (hx_line q hq) (Nat.le_of_ble_eq_true rfl) (Nat.le_of_ble_eq_true rfl) (sL_read q hq k hk hz j hj) ?_
    refine q_putfield rfl hx_0 rfl (Nat.le_of_ble_eq_true rfl) (rfl) (by decide +kernel) ?_
    refine q_heap (hs_0_14 _) ?_
    refine q_iconst (v := nI 1) rfl rfl ?_
    refine q_iret rfl rfl ?_
    exact ⟨rfl, rfl⟩
  · exact absurd hc23 (by decide)
theorem c_tear_bad {X : XX} {I A : Nat → Nat → Int32} {J B : Nat → Nat → Int64} {F : Nat → Nat} (x : Int32) (hx : x < 0 ∨ 6 ≤ x)  : x_ev X xT 3 83 [.ref 0, .int x] (HX I A J B F) (some (.int (-1))) (HX I A J B F) := by
  refine q_ev (L := [some (.ref 0), some (.int x), none, none]) tX8_tear (Nat.le_of_ble_eq_true rfl) rfl ?_
  refine q_aload_n rfl rfl ?_
  refine q_getfield rfl hx_0 rfl ?_
  refine q_iload_n rfl rfl ?_
  refine q_callS2 rfl rfl (Nat.le_of_ble_eq_true rfl) (Nat.le_of_ble_eq_true rfl) (sX8_lineAt_rowN x hx) ?_
  refine q_astore_nN (L' := [_, _, _, _]) rfl rfl ?_
  refine q_aload_n rfl rfl ?_
  refine q_aload_nN rfl rfl ?_
  refine q_callV1 rfl hx_0 (Nat.le_of_ble_eq_true rfl) (Nat.le_of_ble_eq_true rfl) (sX8_refuseLine_N) ?_
  refine q_istore_n (L' := [_, _, _, _]) rfl rfl ?_
  refine q_aload_nN rfl rfl ?_
  refine q_ifnullN rfl ?_
  refine q_iload_n rfl rfl ?_
  refine q_iret rfl rfl ?_
  exact ⟨rfl, rfl⟩
theorem c_tear_M {X : XX} {I A : Nat → Nat → Int32} {J B : Nat → Nat → Int64} {F : Nat → Nat} (q : Nat) (hr : q < 6) (hz : I (20 + 2 * q) 1 = -1)  : x_ev X xT 3 83 [.ref 0, .int (nI q)] (HX I A J B F) (some (.int (-3))) (HX (u2 I 0 13 (nI 1)) (f_cnt A 19 1) J B F) := by
  have hq : q < 10 := by omega
  refine q_ev (L := [some (.ref 0), some (.int (nI q)), none, none]) tX8_tear (Nat.le_of_ble_eq_true rfl) rfl ?_
  refine q_aload_n rfl rfl ?_
  refine q_getfield rfl hx_0 rfl ?_
  refine q_iload_n rfl rfl ?_
  refine q_callS2 rfl rfl (Nat.le_of_ble_eq_true rfl) (Nat.le_of_ble_eq_true rfl) (sX8_lineAt_row q hr) ?_
  refine q_astore_n (L' := [_, _, _, _]) rfl rfl ?_
  refine q_aload_n rfl rfl ?_
  refine q_aload_n rfl rfl ?_
  refine q_callV1 rfl hx_0 (Nat.le_of_ble_eq_true rfl) (Nat.le_of_ble_eq_true rfl) (sX8_refuseLine_M q hq hz) ?_
  refine q_istore_n (L' := [_, _, _, _]) rfl rfl ?_
  refine q_aload_n rfl rfl ?_
  refine q_ifnull rfl ?_
  refine q_iload_n rfl rfl ?_
  refine q_if_eq rfl (fun hc20 => ?_) (fun hc20 => ?_)
  · exact absurd hc20 (by decide)
  · refine q_iload_n rfl rfl ?_
    refine q_iret rfl rfl ?_
    exact ⟨rfl, rfl⟩
theorem c_tear_0 {X : XX} {I A : Nat → Nat → Int32} {J B : Nat → Nat → Int64} {F : Nat → Nat} (q : Nat) (hr : q < 6) (k : Nat) (hk : k ≤ rm (q)) (hz : I (20 + 2 * (q)) 1 = nI k)  : x_ev X xT 3 83 [.ref 0, .int (nI q)] (HX I A J B F) (some (.int (nI 1))) (HX (u2 I (20 + 2 * q) 1 (-1)) A J B F) := by
  have hq : q < 10 := by omega
  refine q_ev (L := [some (.ref 0), some (.int (nI q)), none, none]) tX8_tear (Nat.le_of_ble_eq_true rfl) rfl ?_
  refine q_aload_n rfl rfl ?_
  refine q_getfield rfl hx_0 rfl ?_
  refine q_iload_n rfl rfl ?_
  refine q_callS2 rfl rfl (Nat.le_of_ble_eq_true rfl) (Nat.le_of_ble_eq_true rfl) (sX8_lineAt_row q hr) ?_
  refine q_astore_n (L' := [_, _, _, _]) rfl rfl ?_
  refine q_aload_n rfl rfl ?_
  refine q_aload_n rfl rfl ?_
  refine q_callV1 rfl hx_0 (Nat.le_of_ble_eq_true rfl) (Nat.le_of_ble_eq_true rfl) (sX8_refuseLine_0 q hq k hk hz) ?_
  refine q_istore_n (L' := [_, _, _, _]) rfl rfl ?_
  refine q_aload_n rfl rfl ?_
  refine q_ifnull rfl ?_
  refine q_iload_n rfl rfl ?_
  refine q_if_eqN rfl (by omega) (fun hc20 => ?_) (fun hc20 => ?_)
  · refine q_aload_n rfl rfl ?_
    refine q_callV0 rfl (hx_line q hq) (Nat.le_of_ble_eq_true rfl) (Nat.le_of_ble_eq_true rfl) (sL_remove q hq) ?_
    refine q_iconst (v := nI 1) rfl rfl ?_
    refine q_iret rfl rfl ?_
    exact ⟨rfl, rfl⟩
  · exact absurd hc20 (by decide)
theorem c_mean_bad {X : XX} {I A : Nat → Nat → Int32} {J B : Nat → Nat → Int64} {F : Nat → Nat} (x : Int32) (hx : x < 0 ∨ 6 ≤ x)  : x_ev X xT 3 85 [.ref 0, .int x] (HX I A J B F) (some (.int (-1))) (HX I A J B F) := by
  refine q_ev (L := [some (.ref 0), some (.int x), none, none, none]) tX8_mean (Nat.le_of_ble_eq_true rfl) rfl ?_
  refine q_aload_n rfl rfl ?_
  refine q_getfield rfl hx_0 rfl ?_
  refine q_iload_n rfl rfl ?_
  refine q_callS2 rfl rfl (Nat.le_of_ble_eq_true rfl) (Nat.le_of_ble_eq_true rfl) (sX8_lineAt_rowN x hx) ?_
  refine q_astore_nN (L' := [_, _, _, _, _]) rfl rfl ?_
  refine q_aload_n rfl rfl ?_
  refine q_aload_nN rfl rfl ?_
  refine q_callV1 rfl hx_0 (Nat.le_of_ble_eq_true rfl) (Nat.le_of_ble_eq_true rfl) (sX8_refuseLine_N) ?_
  refine q_istore_n (L' := [_, _, _, _, _]) rfl rfl ?_
  refine q_aload_nN rfl rfl ?_
  refine q_ifnullN rfl ?_
  refine q_iload_n rfl rfl ?_
  refine q_iret rfl rfl ?_
  exact ⟨rfl, rfl⟩
theorem c_mean_M {X : XX} {I A : Nat → Nat → Int32} {J B : Nat → Nat → Int64} {F : Nat → Nat} (q : Nat) (hr : q < 6) (hz : I (20 + 2 * q) 1 = -1)  : x_ev X xT 3 85 [.ref 0, .int (nI q)] (HX I A J B F) (some (.int (-3))) (HX (u2 I 0 13 (nI 1)) (f_cnt A 19 1) J B F) := by
  have hq : q < 10 := by omega
  refine q_ev (L := [some (.ref 0), some (.int (nI q)), none, none, none]) tX8_mean (Nat.le_of_ble_eq_true rfl) rfl ?_
  refine q_aload_n rfl rfl ?_
  refine q_getfield rfl hx_0 rfl ?_
  refine q_iload_n rfl rfl ?_
  refine q_callS2 rfl rfl (Nat.le_of_ble_eq_true rfl) (Nat.le_of_ble_eq_true rfl) (sX8_lineAt_row q hr) ?_
  refine q_astore_n (L' := [_, _, _, _, _]) rfl rfl ?_
  refine q_aload_n rfl rfl ?_
  refine q_aload_n rfl rfl ?_
  refine q_callV1 rfl hx_0 (Nat.le_of_ble_eq_true rfl) (Nat.le_of_ble_eq_true rfl) (sX8_refuseLine_M q hq hz) ?_
  refine q_istore_n (L' := [_, _, _, _, _]) rfl rfl ?_
  refine q_aload_n rfl rfl ?_
  refine q_ifnull rfl ?_
  refine q_iload_n rfl rfl ?_
  refine q_if_eq rfl (fun hc20 => ?_) (fun hc20 => ?_)
  · exact absurd hc20 (by decide)
  · refine q_iload_n rfl rfl ?_
    refine q_iret rfl rfl ?_
    exact ⟨rfl, rfl⟩
theorem c_mean_E {X : XX} {I A : Nat → Nat → Int32} {J B : Nat → Nat → Int64} {F : Nat → Nat} (q : Nat) (hr : q < 6) (hz : I (20 + 2 * q) 1 = nI 0) : x_ev X xT 3 85 [.ref 0, .int (nI q)] (HX I A J B F) (some (.int (-3))) (HX (u2 I 0 13 (nI 4)) (f_cnt A 19 4) J B F) := by
  have hq : q < 10 := by omega
  refine q_ev (L := [some (.ref 0), some (.int (nI q)), none, none, none]) tX8_mean (Nat.le_of_ble_eq_true rfl) rfl ?_
  refine q_aload_n rfl rfl ?_
  refine q_getfield rfl hx_0 rfl ?_
  refine q_iload_n rfl rfl ?_
  refine q_callS2 rfl rfl (Nat.le_of_ble_eq_true rfl) (Nat.le_of_ble_eq_true rfl) (sX8_lineAt_row q hr) ?_
  refine q_astore_n (L' := [_, _, _, _, _]) rfl rfl ?_
  refine q_aload_n rfl rfl ?_
  refine q_aload_n rfl rfl ?_
  refine q_callV1 rfl hx_0 (Nat.le_of_ble_eq_true rfl) (Nat.le_of_ble_eq_true rfl) (sX8_refuseLine_0 q hq 0 (Nat.zero_le _) hz) ?_
  refine q_istore_n (L' := [_, _, _, _, _]) rfl rfl ?_
  refine q_aload_n rfl rfl ?_
  refine q_ifnull rfl ?_
  refine q_iload_n rfl rfl ?_
  refine q_if_eqN rfl (by omega) (fun hc20 => ?_) (fun hc20 => ?_)
  · refine q_aload_n rfl rfl ?_
    refine q_callV0 rfl (hx_line q hq) (Nat.le_of_ble_eq_true rfl) (Nat.le_of_ble_eq_true rfl) (sL_size q hq hz) ?_
    refine q_istore (L' := [_, _, _, _, _]) rfl rfl ?_
    refine q_iload rfl rfl ?_
    refine q_if_gtN rfl (by omega) (fun hc33 => ?_) (fun hc33 => ?_)
    · exact absurd hc33 (by decide)
    · refine q_aload_n rfl rfl ?_
      refine q_iconst (v := nI 4) rfl rfl ?_
      refine q_callV1 rfl hx_0 (Nat.le_of_ble_eq_true rfl) (Nat.le_of_ble_eq_true rfl) (sX8_found 4 (by decide)) ?_
      refine q_iret rfl rfl ?_
      exact ⟨rfl, rfl⟩
  · exact absurd hc20 (by decide)
theorem c_mean_0 {X : XX} {I A : Nat → Nat → Int32} {J B : Nat → Nat → Int64} {F : Nat → Nat} (q : Nat) (hr : q < 6) (k : Nat) (hk : k ≤ rm (q)) (hz : I (20 + 2 * (q)) 1 = nI k) (h0 : 0 < k) : x_ev X xT 3 85 [.ref 0, .int (nI q)] (HX I A J B F) (some (.int (nI 1))) (HX (u2 I 0 14 (f_sum (A (21 + 2 * q)) k 0 0 / (nI k).toInt64).toInt32) A J B F) := by
  have hq : q < 10 := by omega
  refine q_ev (L := [some (.ref 0), some (.int (nI q)), none, none, none]) tX8_mean (Nat.le_of_ble_eq_true rfl) rfl ?_
  refine q_aload_n rfl rfl ?_
  refine q_getfield rfl hx_0 rfl ?_
  refine q_iload_n rfl rfl ?_
  refine q_callS2 rfl rfl (Nat.le_of_ble_eq_true rfl) (Nat.le_of_ble_eq_true rfl) (sX8_lineAt_row q hr) ?_
  refine q_astore_n (L' := [_, _, _, _, _]) rfl rfl ?_
  refine q_aload_n rfl rfl ?_
  refine q_aload_n rfl rfl ?_
  refine q_callV1 rfl hx_0 (Nat.le_of_ble_eq_true rfl) (Nat.le_of_ble_eq_true rfl) (sX8_refuseLine_0 q hq k hk hz) ?_
  refine q_istore_n (L' := [_, _, _, _, _]) rfl rfl ?_
  refine q_aload_n rfl rfl ?_
  refine q_ifnull rfl ?_
  refine q_iload_n rfl rfl ?_
  refine q_if_eqN rfl (by omega) (fun hc20 => ?_) (fun hc20 => ?_)
  · refine q_aload_n rfl rfl ?_
    refine q_callV0 rfl (hx_line q hq) (Nat.le_of_ble_eq_true rfl) (Nat.le_of_ble_eq_true rfl) (sL_size q hq hz) ?_
    refine q_istore (L' := [_, _, _, _, _]) rfl rfl ?_
    refine q_iload rfl rfl ?_
    refine q_if_gtN rfl (by have := rm_le q; omega) (fun hc33 => ?_) (fun hc33 => ?_)
    · refine q_aload_n rfl rfl ?_
      refine q_aload_n rfl rfl ?_
      refine q_callV0 rfl (hx_line q hq) (Nat.le_of_ble_eq_true rfl) (Nat.le_of_ble_eq_true rfl) (sL_sum q hq k hk hz) ?_
      refine q_iload rfl rfl ?_
      refine q_i2l rfl ?_
      refine q_ldiv rfl (nI_l0 h0 (by have := rm_le q; omega)) ?_
      refine q_l2i rfl ?_
      refine q_putfield rfl hx_0 rfl (Nat.le_of_ble_eq_true rfl) (rfl) (by decide +kernel) ?_
      refine q_heap (hs_0_14 _) ?_
      refine q_iconst (v := nI 1) rfl rfl ?_
      refine q_iret rfl rfl ?_
      exact ⟨rfl, rfl⟩
    · omega
  · exact absurd hc20 (by decide)
theorem c_put_bad {X : XX} {I A : Nat → Nat → Int32} {J B : Nat → Nat → Int64} {F : Nat → Nat} (x : Int32) (hx : x < 0 ∨ 4 ≤ x) (i v : Int32) : x_ev X xT 4 87 [.ref 0, .int x, .int i, .int v] (HX I A J B F) (some (.int (-1))) (HX I A J B F) := by
  refine q_ev (L := [some (.ref 0), some (.int x), some (.int i), some (.int v), none, none, none]) tX8_put (Nat.le_of_ble_eq_true rfl) rfl ?_
  refine q_aload_n rfl rfl ?_
  refine q_getfield rfl hx_0 rfl ?_
  refine q_iload_n rfl rfl ?_
  refine q_callS2 rfl rfl (Nat.le_of_ble_eq_true rfl) (Nat.le_of_ble_eq_true rfl) (sX8_lineAt_txtN x hx) ?_
  refine q_astoreN (L' := [_, _, _, _, _, _, _]) rfl rfl ?_
  refine q_aload_n rfl rfl ?_
  refine q_aloadN rfl rfl ?_
  refine q_iload_n rfl rfl ?_
  refine q_callV2 rfl hx_0 (Nat.le_of_ble_eq_true rfl) (Nat.le_of_ble_eq_true rfl) (sX8_refusePlace_N _) ?_
  refine q_istore (L' := [_, _, _, _, _, _, _]) rfl rfl ?_
  refine q_aloadN rfl rfl ?_
  refine q_ifnullN rfl ?_
  refine q_iload rfl rfl ?_
  refine q_iret rfl rfl ?_
  exact ⟨rfl, rfl⟩
theorem c_put_M {X : XX} {I A : Nat → Nat → Int32} {J B : Nat → Nat → Int64} {F : Nat → Nat} (t : Nat) (ht : t < 4) (hz : I (20 + 2 * (6 + t)) 1 = -1) (i v : Int32) : x_ev X xT 4 87 [.ref 0, .int (nI t), .int i, .int v] (HX I A J B F) (some (.int (-3))) (HX (u2 I 0 13 (nI 1)) (f_cnt A 19 1) J B F) := by
  have hq : 6 + t < 10 := by omega
  refine q_ev (L := [some (.ref 0), some (.int (nI t)), some (.int i), some (.int v), none, none, none]) tX8_put (Nat.le_of_ble_eq_true rfl) rfl ?_
  refine q_aload_n rfl rfl ?_
  refine q_getfield rfl hx_0 rfl ?_
  refine q_iload_n rfl rfl ?_
  refine q_callS2 rfl rfl (Nat.le_of_ble_eq_true rfl) (Nat.le_of_ble_eq_true rfl) (sX8_lineAt_t t ht) ?_
  refine q_astore (L' := [_, _, _, _, _, _, _]) rfl rfl ?_
  refine q_aload_n rfl rfl ?_
  refine q_aload rfl rfl ?_
  refine q_iload_n rfl rfl ?_
  refine q_callV2 rfl hx_0 (Nat.le_of_ble_eq_true rfl) (Nat.le_of_ble_eq_true rfl) (sX8_refusePlace_M (6 + t) hq hz _) ?_
  refine q_istore (L' := [_, _, _, _, _, _, _]) rfl rfl ?_
  refine q_aload rfl rfl ?_
  refine q_ifnull rfl ?_
  refine q_iload rfl rfl ?_
  refine q_if_eq rfl (fun hc26 => ?_) (fun hc26 => ?_)
  · exact absurd hc26 (by decide)
  · refine q_iload rfl rfl ?_
    refine q_iret rfl rfl ?_
    exact ⟨rfl, rfl⟩
theorem c_put_B {X : XX} {I A : Nat → Nat → Int32} {J B : Nat → Nat → Int64} {F : Nat → Nat} (t : Nat) (ht : t < 4) (k : Nat) (hk : k ≤ rm (6 + t)) (hz : I (20 + 2 * (6 + t)) 1 = nI k) (i v : Int32) (hi : i < 0 ∨ nI k ≤ i) : x_ev X xT 4 87 [.ref 0, .int (nI t), .int i, .int v] (HX I A J B F) (some (.int (-3))) (HX (u2 I 0 13 (nI 2)) (f_cnt A 19 2) J B F) := by
  have hq : 6 + t < 10 := by omega
  refine q_ev (L := [some (.ref 0), some (.int (nI t)), some (.int i), some (.int v), none, none, none]) tX8_put (Nat.le_of_ble_eq_true rfl) rfl ?_
  refine q_aload_n rfl rfl ?_
  refine q_getfield rfl hx_0 rfl ?_
  refine q_iload_n rfl rfl ?_
  refine q_callS2 rfl rfl (Nat.le_of_ble_eq_true rfl) (Nat.le_of_ble_eq_true rfl) (sX8_lineAt_t t ht) ?_
  refine q_astore (L' := [_, _, _, _, _, _, _]) rfl rfl ?_
  refine q_aload_n rfl rfl ?_
  refine q_aload rfl rfl ?_
  refine q_iload_n rfl rfl ?_
  refine q_callV2 rfl hx_0 (Nat.le_of_ble_eq_true rfl) (Nat.le_of_ble_eq_true rfl) (sX8_refusePlace_B (6 + t) hq k hk hz _ hi) ?_
  refine q_istore (L' := [_, _, _, _, _, _, _]) rfl rfl ?_
  refine q_aload rfl rfl ?_
  refine q_ifnull rfl ?_
  refine q_iload rfl rfl ?_
  refine q_if_eq rfl (fun hc26 => ?_) (fun hc26 => ?_)
  · exact absurd hc26 (by decide)
  · refine q_iload rfl rfl ?_
    refine q_iret rfl rfl ?_
    exact ⟨rfl, rfl⟩
theorem c_put_0 {X : XX} {I A : Nat → Nat → Int32} {J B : Nat → Nat → Int64} {F : Nat → Nat} (t : Nat) (ht : t < 4) (k : Nat) (hk : k ≤ rm (6 + t)) (hz : I (20 + 2 * (6 + t)) 1 = nI k) (j : Nat) (hj : j < k) (v : Int32) : x_ev X xT 4 87 [.ref 0, .int (nI t), .int (nI j), .int v] (HX I A J B F) (some (.int (A (21 + 2 * (6 + t)) j + nI 1000))) (HX I (ua A (21 + 2 * (6 + t)) (upd (A (21 + 2 * (6 + t))) j v.toInt8.toInt32)) J B F) := by
  have hq : 6 + t < 10 := by omega
  refine q_ev (L := [some (.ref 0), some (.int (nI t)), some (.int (nI j)), some (.int v), none, none, none]) tX8_put (Nat.le_of_ble_eq_true rfl) rfl ?_
  refine q_aload_n rfl rfl ?_
  refine q_getfield rfl hx_0 rfl ?_
  refine q_iload_n rfl rfl ?_
  refine q_callS2 rfl rfl (Nat.le_of_ble_eq_true rfl) (Nat.le_of_ble_eq_true rfl) (sX8_lineAt_t t ht) ?_
  refine q_astore (L' := [_, _, _, _, _, _, _]) rfl rfl ?_
  refine q_aload_n rfl rfl ?_
  refine q_aload rfl rfl ?_
  refine q_iload_n rfl rfl ?_
  refine q_callV2 rfl hx_0 (Nat.le_of_ble_eq_true rfl) (Nat.le_of_ble_eq_true rfl) (sX8_refusePlace_0 (6 + t) hq k hk hz j hj) ?_
  refine q_istore (L' := [_, _, _, _, _, _, _]) rfl rfl ?_
  refine q_aload rfl rfl ?_
  refine q_ifnull rfl ?_
  refine q_iload rfl rfl ?_
  refine q_if_eqN rfl (by omega) (fun hc26 => ?_) (fun hc26 => ?_)
  · refine q_aload rfl rfl ?_
    refine q_iload_n rfl rfl ?_
    refine q_callV1 rfl (hx_line (6 + t) hq) (Nat.le_of_ble_eq_true rfl) (Nat.le_of_ble_eq_true rfl) (sL_read (6 + t) hq k hk hz j hj) ?_
    refine q_istore (L' := [_, _, _, _, _, _, _]) rfl rfl ?_
    refine q_aload rfl rfl ?_
    refine q_iload_n rfl rfl ?_
    refine q_iload_n rfl rfl ?_
    refine q_i2b rfl ?_
    refine q_callV2 rfl (hx_line (6 + t) hq) (Nat.le_of_ble_eq_true rfl) (Nat.le_of_ble_eq_true rfl) (sL_write (6 + t) hq k hk hz j hj _) ?_
    refine q_iload rfl rfl ?_
    refine q_sipush (v := nI 1000) rfl rfl ?_
    refine q_iadd rfl ?_
    refine q_iret rfl rfl ?_
    exact ⟨rfl, rfl⟩
  · exact absurd hc26 (by decide)
theorem c_copy_bb {X : XX} {I A : Nat → Nat → Int32} {J B : Nat → Nat → Int64} {F : Nat → Nat} (x : Int32) (hx : x < 0 ∨ 6 ≤ x) (y i j n : Int32) (hy : y < 0 ∨ 6 ≤ y) : x_ev X xT 3 84 [.ref 0, .int x, .int i, .int y, .int j, .int n] (HX I A J B F) (some (.int (-1))) (HX I A J B F) := by
  refine q_ev (L := [some (.ref 0), some (.int x), some (.int i), some (.int y), some (.int j), some (.int n), none, none]) tX8_copy (Nat.le_of_ble_eq_true rfl) rfl ?_
  refine q_aload_n rfl rfl ?_
  refine q_getfield rfl hx_0 rfl ?_
  refine q_iload_n rfl rfl ?_
  refine q_callS2 rfl rfl (Nat.le_of_ble_eq_true rfl) (Nat.le_of_ble_eq_true rfl) (sX8_lineAt_rowN x hx) ?_
  refine q_astoreN (L' := [_, _, _, _, _, _, _, _]) rfl rfl ?_
  refine q_aload_n rfl rfl ?_
  refine q_getfield rfl hx_0 rfl ?_
  refine q_iload_n rfl rfl ?_
  refine q_callS2 rfl rfl (Nat.le_of_ble_eq_true rfl) (Nat.le_of_ble_eq_true rfl) (sX8_lineAt_rowN y hy) ?_
  refine q_astoreN (L' := [_, _, _, _, _, _, _, _]) rfl rfl ?_
  refine q_aloadN rfl rfl ?_
  refine q_ifnullN rfl ?_
  refine q_iconst (v := (-1)) rfl rfl ?_
  refine q_iret rfl rfl ?_
  exact ⟨rfl, rfl⟩
theorem c_copy_bo {X : XX} {I A : Nat → Nat → Int32} {J B : Nat → Nat → Int64} {F : Nat → Nat} (x : Int32) (hx : x < 0 ∨ 6 ≤ x) (p : Nat) (hp6 : p < 6) (i j n : Int32) : x_ev X xT 3 84 [.ref 0, .int x, .int i, .int (nI p), .int j, .int n] (HX I A J B F) (some (.int (-1))) (HX I A J B F) := by
  refine q_ev (L := [some (.ref 0), some (.int x), some (.int i), some (.int (nI p)), some (.int j), some (.int n), none, none]) tX8_copy (Nat.le_of_ble_eq_true rfl) rfl ?_
  refine q_aload_n rfl rfl ?_
  refine q_getfield rfl hx_0 rfl ?_
  refine q_iload_n rfl rfl ?_
  refine q_callS2 rfl rfl (Nat.le_of_ble_eq_true rfl) (Nat.le_of_ble_eq_true rfl) (sX8_lineAt_rowN x hx) ?_
  refine q_astoreN (L' := [_, _, _, _, _, _, _, _]) rfl rfl ?_
  refine q_aload_n rfl rfl ?_
  refine q_getfield rfl hx_0 rfl ?_
  refine q_iload_n rfl rfl ?_
  refine q_callS2 rfl rfl (Nat.le_of_ble_eq_true rfl) (Nat.le_of_ble_eq_true rfl) (sX8_lineAt_row p hp6) ?_
  refine q_astore (L' := [_, _, _, _, _, _, _, _]) rfl rfl ?_
  refine q_aloadN rfl rfl ?_
  refine q_ifnullN rfl ?_
  refine q_iconst (v := (-1)) rfl rfl ?_
  refine q_iret rfl rfl ?_
  exact ⟨rfl, rfl⟩
theorem c_copy_ob {X : XX} {I A : Nat → Nat → Int32} {J B : Nat → Nat → Int64} {F : Nat → Nat} (q : Nat) (hr : q < 6) (y i j n : Int32) (hy : y < 0 ∨ 6 ≤ y) : x_ev X xT 3 84 [.ref 0, .int (nI q), .int i, .int y, .int j, .int n] (HX I A J B F) (some (.int (-1))) (HX I A J B F) := by
  refine q_ev (L := [some (.ref 0), some (.int (nI q)), some (.int i), some (.int y), some (.int j), some (.int n), none, none]) tX8_copy (Nat.le_of_ble_eq_true rfl) rfl ?_
  refine q_aload_n rfl rfl ?_
  refine q_getfield rfl hx_0 rfl ?_
  refine q_iload_n rfl rfl ?_
  refine q_callS2 rfl rfl (Nat.le_of_ble_eq_true rfl) (Nat.le_of_ble_eq_true rfl) (sX8_lineAt_row q hr) ?_
  refine q_astore (L' := [_, _, _, _, _, _, _, _]) rfl rfl ?_
  refine q_aload_n rfl rfl ?_
  refine q_getfield rfl hx_0 rfl ?_
  refine q_iload_n rfl rfl ?_
  refine q_callS2 rfl rfl (Nat.le_of_ble_eq_true rfl) (Nat.le_of_ble_eq_true rfl) (sX8_lineAt_rowN y hy) ?_
  refine q_astoreN (L' := [_, _, _, _, _, _, _, _]) rfl rfl ?_
  refine q_aload rfl rfl ?_
  refine q_ifnull rfl ?_
  refine q_aloadN rfl rfl ?_
  refine q_ifnonnullN rfl ?_
  refine q_iconst (v := (-1)) rfl rfl ?_
  refine q_iret rfl rfl ?_
  exact ⟨rfl, rfl⟩
theorem c_copy_S {X : XX} {I A : Nat → Nat → Int32} {J B : Nat → Nat → Int64} {F : Nat → Nat} (q : Nat) (hr : q < 6) (p : Nat) (hp6 : p < 6) (i j n : Int32) (hn : n < 0) : x_ev X xT 3 84 [.ref 0, .int (nI q), .int i, .int (nI p), .int j, .int n] (HX I A J B F) (some (.int (-3))) (HX (u2 I 0 13 (nI 5)) (f_cnt A 19 5) J B F) := by
  have hq : q < 10 := by omega
  have hp : p < 10 := by omega
  refine q_ev (L := [some (.ref 0), some (.int (nI q)), some (.int i), some (.int (nI p)), some (.int j), some (.int n), none, none]) tX8_copy (Nat.le_of_ble_eq_true rfl) rfl ?_
  refine q_aload_n rfl rfl ?_
  refine q_getfield rfl hx_0 rfl ?_
  refine q_iload_n rfl rfl ?_
  refine q_callS2 rfl rfl (Nat.le_of_ble_eq_true rfl) (Nat.le_of_ble_eq_true rfl) (sX8_lineAt_row q hr) ?_
  refine q_astore (L' := [_, _, _, _, _, _, _, _]) rfl rfl ?_
  refine q_aload_n rfl rfl ?_
  refine q_getfield rfl hx_0 rfl ?_
  refine q_iload_n rfl rfl ?_
  refine q_callS2 rfl rfl (Nat.le_of_ble_eq_true rfl) (Nat.le_of_ble_eq_true rfl) (sX8_lineAt_row p hp6) ?_
  refine q_astore (L' := [_, _, _, _, _, _, _, _]) rfl rfl ?_
  refine q_aload rfl rfl ?_
  refine q_ifnull rfl ?_
  refine q_aload rfl rfl ?_
  refine q_ifnonnull rfl ?_
  refine q_iload rfl rfl ?_
  refine q_if_ge rfl (fun hc34 => ?_) (fun hc34 => ?_)
  · exact absurd hn (Int32.not_lt.mpr hc34)
  · refine q_aload_n rfl rfl ?_
    refine q_iconst (v := nI 5) rfl rfl ?_
    refine q_callV1 rfl hx_0 (Nat.le_of_ble_eq_true rfl) (Nat.le_of_ble_eq_true rfl) (sX8_found 5 (by decide)) ?_
    refine q_iret rfl rfl ?_
    exact ⟨rfl, rfl⟩
theorem c_copy_M1 {X : XX} {I A : Nat → Nat → Int32} {J B : Nat → Nat → Int64} {F : Nat → Nat} (q : Nat) (hr : q < 6) (p : Nat) (hp6 : p < 6) (i j : Int32) (n : Nat) (hn : n < 2 ^ 31) (hz : I (20 + 2 * q) 1 = -1)  : x_ev X xT 3 84 [.ref 0, .int (nI q), .int i, .int (nI p), .int j, .int (nI n)] (HX I A J B F) (some (.int (-3))) (HX (u2 I 0 13 (nI 1)) (f_cnt A 19 1) J B F) := by
  have hq : q < 10 := by omega
  have hp : p < 10 := by omega
  refine q_ev (L := [some (.ref 0), some (.int (nI q)), some (.int i), some (.int (nI p)), some (.int j), some (.int (nI n)), none, none]) tX8_copy (Nat.le_of_ble_eq_true rfl) rfl ?_
  refine q_aload_n rfl rfl ?_
  refine q_getfield rfl hx_0 rfl ?_
  refine q_iload_n rfl rfl ?_
  refine q_callS2 rfl rfl (Nat.le_of_ble_eq_true rfl) (Nat.le_of_ble_eq_true rfl) (sX8_lineAt_row q hr) ?_
  refine q_astore (L' := [_, _, _, _, _, _, _, _]) rfl rfl ?_
  refine q_aload_n rfl rfl ?_
  refine q_getfield rfl hx_0 rfl ?_
  refine q_iload_n rfl rfl ?_
  refine q_callS2 rfl rfl (Nat.le_of_ble_eq_true rfl) (Nat.le_of_ble_eq_true rfl) (sX8_lineAt_row p hp6) ?_
  refine q_astore (L' := [_, _, _, _, _, _, _, _]) rfl rfl ?_
  refine q_aload rfl rfl ?_
  refine q_ifnull rfl ?_
  refine q_aload rfl rfl ?_
  refine q_ifnonnull rfl ?_
  refine q_iload rfl rfl ?_
  refine q_if_geN rfl (by omega) (fun hc34 => ?_) (fun hc34 => ?_)
  · refine q_aload rfl rfl ?_
    refine q_callV0 rfl (hx_line q hq) (Nat.le_of_ble_eq_true rfl) (Nat.le_of_ble_eq_true rfl) (sL_miss1 q hq hz) ?_
    refine q_if_neN rfl (by omega) (fun hc48 => ?_) (fun hc48 => ?_)
    · refine q_aload_n rfl rfl ?_
      refine q_iconst (v := nI 1) rfl rfl ?_
      refine q_callV1 rfl hx_0 (Nat.le_of_ble_eq_true rfl) (Nat.le_of_ble_eq_true rfl) (sX8_found 1 (by decide)) ?_
      refine q_iret rfl rfl ?_
      exact ⟨rfl, rfl⟩
    · exact absurd hc48 (by decide)
  · omega
theorem c_copy_M2 {X : XX} {I A : Nat → Nat → Int32} {J B : Nat → Nat → Int64} {F : Nat → Nat} (q : Nat) (hr : q < 6) (p : Nat) (hp6 : p < 6) (i j : Int32) (n : Nat) (hn : n < 2 ^ 31) (k : Nat) (hk : k ≤ rm (q)) (hz : I (20 + 2 * (q)) 1 = nI k) (hz2 : I (20 + 2 * p) 1 = -1) : x_ev X xT 3 84 [.ref 0, .int (nI q), .int i, .int (nI p), .int j, .int (nI n)] (HX I A J B F) (some (.int (-3))) (HX (u2 I 0 13 (nI 1)) (f_cnt A 19 1) J B F) := by
  have hq : q < 10 := by omega
  have hp : p < 10 := by omega
  refine q_ev (L := [some (.ref 0), some (.int (nI q)), some (.int i), some (.int (nI p)), some (.int j), some (.int (nI n)), none, none]) tX8_copy (Nat.le_of_ble_eq_true rfl) rfl ?_
  refine q_aload_n rfl rfl ?_
  refine q_getfield rfl hx_0 rfl ?_
  refine q_iload_n rfl rfl ?_
  refine q_callS2 rfl rfl (Nat.le_of_ble_eq_true rfl) (Nat.le_of_ble_eq_true rfl) (sX8_lineAt_row q hr) ?_
  refine q_astore (L' := [_, _, _, _, _, _, _, _]) rfl rfl ?_
  refine q_aload_n rfl rfl ?_
  refine q_getfield rfl hx_0 rfl ?_
  refine q_iload_n rfl rfl ?_
  refine q_callS2 rfl rfl (Nat.le_of_ble_eq_true rfl) (Nat.le_of_ble_eq_true rfl) (sX8_lineAt_row p hp6) ?_
  refine q_astore (L' := [_, _, _, _, _, _, _, _]) rfl rfl ?_
  refine q_aload rfl rfl ?_
  refine q_ifnull rfl ?_
  refine q_aload rfl rfl ?_
  refine q_ifnonnull rfl ?_
  refine q_iload rfl rfl ?_
  refine q_if_geN rfl (by omega) (fun hc34 => ?_) (fun hc34 => ?_)
  · refine q_aload rfl rfl ?_
    refine q_callV0 rfl (hx_line q hq) (Nat.le_of_ble_eq_true rfl) (Nat.le_of_ble_eq_true rfl) (sL_miss0 q hq k (by have := rm_le q; omega) hz) ?_
    refine q_if_neN rfl (by omega) (fun hc48 => ?_) (fun hc48 => ?_)
    · exact absurd hc48 (by decide)
    · refine q_aload rfl rfl ?_
      refine q_callV0 rfl (hx_line p hp) (Nat.le_of_ble_eq_true rfl) (Nat.le_of_ble_eq_true rfl) (sL_miss1 p hp hz2) ?_
      refine q_if_eqN rfl (by omega) (fun hc56 => ?_) (fun hc56 => ?_)
      · exact absurd hc56 (by decide)
      · refine q_aload_n rfl rfl ?_
        refine q_iconst (v := nI 1) rfl rfl ?_
        refine q_callV1 rfl hx_0 (Nat.le_of_ble_eq_true rfl) (Nat.le_of_ble_eq_true rfl) (sX8_found 1 (by decide)) ?_
        refine q_iret rfl rfl ?_
        exact ⟨rfl, rfl⟩
  · omega
theorem c_copy_B1 {X : XX} {I A : Nat → Nat → Int32} {J B : Nat → Nat → Int64} {F : Nat → Nat} (q : Nat) (hr : q < 6) (p : Nat) (hp6 : p < 6) (i j : Int32) (n : Nat) (hn : n < 2 ^ 31) (k : Nat) (hk : k ≤ rm (q)) (hz : I (20 + 2 * (q)) 1 = nI k) (k2 : Nat) (hk2 : k2 ≤ rm p) (hz2 : I (20 + 2 * p) 1 = nI k2) (hi : i < 0 ∨ ∃ a, a < 2 ^ 31 ∧ i = nI a ∧ k < a + n) : x_ev X xT 3 84 [.ref 0, .int (nI q), .int i, .int (nI p), .int j, .int (nI n)] (HX I A J B F) (some (.int (-3))) (HX (u2 I 0 13 (nI 2)) (f_cnt A 19 2) J B F) := by
  have hq : q < 10 := by omega
  have hp : p < 10 := by omega
  have r1 := rm_le q
  have r2 := rm_le p
  have e1 := sX2_holdsRun (X := X) (hx_lineZ (A := A) (J := J) (B := B) (F := F) q hq hz) (i) (nI n)
  rw [f_hr_0 hi (by omega) (by omega)] at e1
  
  refine q_ev (L := [some (.ref 0), some (.int (nI q)), some (.int i), some (.int (nI p)), some (.int j), some (.int (nI n)), none, none]) tX8_copy (Nat.le_of_ble_eq_true rfl) rfl ?_
  refine q_aload_n rfl rfl ?_
  refine q_getfield rfl hx_0 rfl ?_
  refine q_iload_n rfl rfl ?_
  refine q_callS2 rfl rfl (Nat.le_of_ble_eq_true rfl) (Nat.le_of_ble_eq_true rfl) (sX8_lineAt_row q hr) ?_
  refine q_astore (L' := [_, _, _, _, _, _, _, _]) rfl rfl ?_
  refine q_aload_n rfl rfl ?_
  refine q_getfield rfl hx_0 rfl ?_
  refine q_iload_n rfl rfl ?_
  refine q_callS2 rfl rfl (Nat.le_of_ble_eq_true rfl) (Nat.le_of_ble_eq_true rfl) (sX8_lineAt_row p hp6) ?_
  refine q_astore (L' := [_, _, _, _, _, _, _, _]) rfl rfl ?_
  refine q_aload rfl rfl ?_
  refine q_ifnull rfl ?_
  refine q_aload rfl rfl ?_
  refine q_ifnonnull rfl ?_
  refine q_iload rfl rfl ?_
  refine q_if_geN rfl (by omega) (fun hc34 => ?_) (fun hc34 => ?_)
  · refine q_aload rfl rfl ?_
    refine q_callV0 rfl (hx_line q hq) (Nat.le_of_ble_eq_true rfl) (Nat.le_of_ble_eq_true rfl) (sL_miss0 q hq k (by have := rm_le q; omega) hz) ?_
    refine q_if_neN rfl (by omega) (fun hc48 => ?_) (fun hc48 => ?_)
    · exact absurd hc48 (by decide)
    · refine q_aload rfl rfl ?_
      refine q_callV0 rfl (hx_line p hp) (Nat.le_of_ble_eq_true rfl) (Nat.le_of_ble_eq_true rfl) (sL_miss0 p hp k2 (by have := rm_le p; omega) hz2) ?_
      refine q_if_eqN rfl (by omega) (fun hc56 => ?_) (fun hc56 => ?_)
      · refine q_aload rfl rfl ?_
        refine q_iload_n rfl rfl ?_
        refine q_iload rfl rfl ?_
        refine q_callV2 rfl (hx_line q hq) (Nat.le_of_ble_eq_true rfl) (Nat.le_of_ble_eq_true rfl) (e1) ?_
        refine q_if_eqN rfl (by omega) (fun hc73 => ?_) (fun hc73 => ?_)
        · refine q_aload_n rfl rfl ?_
          refine q_iconst (v := nI 2) rfl rfl ?_
          refine q_callV1 rfl hx_0 (Nat.le_of_ble_eq_true rfl) (Nat.le_of_ble_eq_true rfl) (sX8_found 2 (by decide)) ?_
          refine q_iret rfl rfl ?_
          exact ⟨rfl, rfl⟩
        · exact absurd hc73 (by decide)
      · exact absurd hc56 (by decide)
  · omega
theorem c_copy_B2 {X : XX} {I A : Nat → Nat → Int32} {J B : Nat → Nat → Int64} {F : Nat → Nat} (q : Nat) (hr : q < 6) (p : Nat) (hp6 : p < 6) (i : Nat) (j : Int32) (n : Nat) (hn : n < 2 ^ 31) (k : Nat) (hk : k ≤ rm (q)) (hz : I (20 + 2 * (q)) 1 = nI k) (k2 : Nat) (hk2 : k2 ≤ rm p) (hz2 : I (20 + 2 * p) 1 = nI k2) (hi : i + n ≤ k) (hj : j < 0 ∨ ∃ a, a < 2 ^ 31 ∧ j = nI a ∧ k2 < a + n) : x_ev X xT 3 84 [.ref 0, .int (nI q), .int (nI i), .int (nI p), .int j, .int (nI n)] (HX I A J B F) (some (.int (-3))) (HX (u2 I 0 13 (nI 2)) (f_cnt A 19 2) J B F) := by
  have hq : q < 10 := by omega
  have hp : p < 10 := by omega
  have r1 := rm_le q
  have r2 := rm_le p
  have e1 := sX2_holdsRun (X := X) (hx_lineZ (A := A) (J := J) (B := B) (F := F) q hq hz) (nI i) (nI n)
  rw [f_hr_1 hi (by omega)] at e1
  have e2 := sX2_holdsRun (X := X) (hx_lineZ (A := A) (J := J) (B := B) (F := F) p hp hz2) (j) (nI n)
  rw [f_hr_0 hj (by omega) (by omega)] at e2
  
  refine q_ev (L := [some (.ref 0), some (.int (nI q)), some (.int (nI i)), some (.int (nI p)), some (.int j), some (.int (nI n)), none, none]) tX8_copy (Nat.le_of_ble_eq_true rfl) rfl ?_
  refine q_aload_n rfl rfl ?_
  refine q_getfield rfl hx_0 rfl ?_
  refine q_iload_n rfl rfl ?_
  refine q_callS2 rfl rfl (Nat.le_of_ble_eq_true rfl) (Nat.le_of_ble_eq_true rfl) (sX8_lineAt_row q hr) ?_
  refine q_astore (L' := [_, _, _, _, _, _, _, _]) rfl rfl ?_
  refine q_aload_n rfl rfl ?_
  refine q_getfield rfl hx_0 rfl ?_
  refine q_iload_n rfl rfl ?_
  refine q_callS2 rfl rfl (Nat.le_of_ble_eq_true rfl) (Nat.le_of_ble_eq_true rfl) (sX8_lineAt_row p hp6) ?_
  refine q_astore (L' := [_, _, _, _, _, _, _, _]) rfl rfl ?_
  refine q_aload rfl rfl ?_
  refine q_ifnull rfl ?_
  refine q_aload rfl rfl ?_
  refine q_ifnonnull rfl ?_
  refine q_iload rfl rfl ?_
  refine q_if_geN rfl (by omega) (fun hc34 => ?_) (fun hc34 => ?_)
  · refine q_aload rfl rfl ?_
    refine q_callV0 rfl (hx_line q hq) (Nat.le_of_ble_eq_true rfl) (Nat.le_of_ble_eq_true rfl) (sL_miss0 q hq k (by have := rm_le q; omega) hz) ?_
    refine q_if_neN rfl (by omega) (fun hc48 => ?_) (fun hc48 => ?_)
    · exact absurd hc48 (by decide)
    · refine q_aload rfl rfl ?_
      refine q_callV0 rfl (hx_line p hp) (Nat.le_of_ble_eq_true rfl) (Nat.le_of_ble_eq_true rfl) (sL_miss0 p hp k2 (by have := rm_le p; omega) hz2) ?_
      refine q_if_eqN rfl (by omega) (fun hc56 => ?_) (fun hc56 => ?_)
      · refine q_aload rfl rfl ?_
        refine q_iload_n rfl rfl ?_
        refine q_iload rfl rfl ?_
        refine q_callV2 rfl (hx_line q hq) (Nat.le_of_ble_eq_true rfl) (Nat.le_of_ble_eq_true rfl) (e1) ?_
        refine q_if_eqN rfl (by omega) (fun hc73 => ?_) (fun hc73 => ?_)
        · exact absurd hc73 (by decide)
        · refine q_aload rfl rfl ?_
          refine q_iload rfl rfl ?_
          refine q_iload rfl rfl ?_
          refine q_callV2 rfl (hx_line p hp) (Nat.le_of_ble_eq_true rfl) (Nat.le_of_ble_eq_true rfl) (e2) ?_
          refine q_if_neN rfl (by omega) (fun hc85 => ?_) (fun hc85 => ?_)
          · exact absurd hc85 (by decide)
          · refine q_aload_n rfl rfl ?_
            refine q_iconst (v := nI 2) rfl rfl ?_
            refine q_callV1 rfl hx_0 (Nat.le_of_ble_eq_true rfl) (Nat.le_of_ble_eq_true rfl) (sX8_found 2 (by decide)) ?_
            refine q_iret rfl rfl ?_
            exact ⟨rfl, rfl⟩
      · exact absurd hc56 (by decide)
  · omega
theorem c_copy_0 {X : XX} {I A : Nat → Nat → Int32} {J B : Nat → Nat → Int64} {F : Nat → Nat} (q : Nat) (hr : q < 6) (p : Nat) (hp6 : p < 6) (i j : Nat) (n : Nat) (hn : n < 2 ^ 31) (k : Nat) (hk : k ≤ rm (q)) (hz : I (20 + 2 * (q)) 1 = nI k) (k2 : Nat) (hk2 : k2 ≤ rm p) (hz2 : I (20 + 2 * p) 1 = nI k2) (hi : i + n ≤ k) (hj : j + n ≤ k2) : x_ev X xT 3 84 [.ref 0, .int (nI q), .int (nI i), .int (nI p), .int (nI j), .int (nI n)] (HX I A J B F) (some (.int (nI 1))) (HX I (ua A (21 + 2 * p) (va_cpy (A (21 + 2 * q)) (A (21 + 2 * p)) i j n)) J B F) := by
  have hq : q < 10 := by omega
  have hp : p < 10 := by omega
  have r1 := rm_le q
  have r2 := rm_le p
  have e1 := sX2_holdsRun (X := X) (hx_lineZ (A := A) (J := J) (B := B) (F := F) q hq hz) (nI i) (nI n)
  rw [f_hr_1 hi (by omega)] at e1
  have e2 := sX2_holdsRun (X := X) (hx_lineZ (A := A) (J := J) (B := B) (F := F) p hp hz2) (nI j) (nI n)
  rw [f_hr_1 hj (by omega)] at e2
  
  refine q_ev (L := [some (.ref 0), some (.int (nI q)), some (.int (nI i)), some (.int (nI p)), some (.int (nI j)), some (.int (nI n)), none, none]) tX8_copy (Nat.le_of_ble_eq_true rfl) rfl ?_
  refine q_aload_n rfl rfl ?_
  refine q_getfield rfl hx_0 rfl ?_
  refine q_iload_n rfl rfl ?_
  refine q_callS2 rfl rfl (Nat.le_of_ble_eq_true rfl) (Nat.le_of_ble_eq_true rfl) (sX8_lineAt_row q hr) ?_
  refine q_astore (L' := [_, _, _, _, _, _, _, _]) rfl rfl ?_
  refine q_aload_n rfl rfl ?_
  refine q_getfield rfl hx_0 rfl ?_
  refine q_iload_n rfl rfl ?_
  refine q_callS2 rfl rfl (Nat.le_of_ble_eq_true rfl) (Nat.le_of_ble_eq_true rfl) (sX8_lineAt_row p hp6) ?_
  refine q_astore (L' := [_, _, _, _, _, _, _, _]) rfl rfl ?_
  refine q_aload rfl rfl ?_
  refine q_ifnull rfl ?_
  refine q_aload rfl rfl ?_
  refine q_ifnonnull rfl ?_
  refine q_iload rfl rfl ?_
  refine q_if_geN rfl (by omega) (fun hc34 => ?_) (fun hc34 => ?_)
  · refine q_aload rfl rfl ?_
    refine q_callV0 rfl (hx_line q hq) (Nat.le_of_ble_eq_true rfl) (Nat.le_of_ble_eq_true rfl) (sL_miss0 q hq k (by have := rm_le q; omega) hz) ?_
    refine q_if_neN rfl (by omega) (fun hc48 => ?_) (fun hc48 => ?_)
    · exact absurd hc48 (by decide)
    · refine q_aload rfl rfl ?_
      refine q_callV0 rfl (hx_line p hp) (Nat.le_of_ble_eq_true rfl) (Nat.le_of_ble_eq_true rfl) (sL_miss0 p hp k2 (by have := rm_le p; omega) hz2) ?_
      refine q_if_eqN rfl (by omega) (fun hc56 => ?_) (fun hc56 => ?_)
      · refine q_aload rfl rfl ?_
        refine q_iload_n rfl rfl ?_
        refine q_iload rfl rfl ?_
        refine q_callV2 rfl (hx_line q hq) (Nat.le_of_ble_eq_true rfl) (Nat.le_of_ble_eq_true rfl) (e1) ?_
        refine q_if_eqN rfl (by omega) (fun hc73 => ?_) (fun hc73 => ?_)
        · exact absurd hc73 (by decide)
        · refine q_aload rfl rfl ?_
          refine q_iload rfl rfl ?_
          refine q_iload rfl rfl ?_
          refine q_callV2 rfl (hx_line p hp) (Nat.le_of_ble_eq_true rfl) (Nat.le_of_ble_eq_true rfl) (e2) ?_
          refine q_if_neN rfl (by omega) (fun hc85 => ?_) (fun hc85 => ?_)
          · refine q_aload rfl rfl ?_
            refine q_iload rfl rfl ?_
            refine q_aload rfl rfl ?_
            refine q_iload_n rfl rfl ?_
            refine q_iload rfl rfl ?_
            refine q_callV4 rfl (hx_line p hp) (Nat.le_of_ble_eq_true rfl) (Nat.le_of_ble_eq_true rfl) (sX2_take p hp q hq k2 hk2 hz2 k hk hz j i n hj hi) ?_
            refine q_iconst (v := nI 1) rfl rfl ?_
            refine q_iret rfl rfl ?_
            exact ⟨rfl, rfl⟩
          · exact absurd hc85 (by decide)
      · exact absurd hc56 (by decide)
  · omega
