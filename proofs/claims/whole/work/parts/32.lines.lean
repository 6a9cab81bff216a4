/-! the class's lines over HX: rows are lines 0 to 5, texts lines 6 to 9 -/
def rm (q : Nat) : Nat := if q < 6 then 40 else 60
theorem rm_le (q : Nat) : rm q ≤ 60 := by
  unfold rm
  split <;> omega
theorem rm_ge (q : Nat) : 40 ≤ rm q := by
  unfold rm
  split <;> omega
section Lines
variable {X : XX} {I A : Nat → Nat → Int32} {J B : Nat → Nat → Int64} {F : Nat → Nat}
theorem hx_line (q : Nat) (hq : q < 10) : (HX I A J B F)[20 + 2 * q]? = some (.inr (2, [.ref (21 + 2 * q), .int (I (20 + 2 * q) 1)])) := by
  rcases (show q = 0 ∨ q = 1 ∨ q = 2 ∨ q = 3 ∨ q = 4 ∨ q = 5 ∨ q = 6 ∨ q = 7 ∨ q = 8 ∨ q = 9 by omega) with rfl | rfl | rfl | rfl | rfl | rfl | rfl | rfl | rfl | rfl <;> rfl
theorem hx_lineC (q : Nat) (hq : q < 10) : (HX I A J B F)[21 + 2 * q]? = some (.inl (0, rm q, .inl (A (21 + 2 * q)))) := by
  rcases (show q = 0 ∨ q = 1 ∨ q = 2 ∨ q = 3 ∨ q = 4 ∨ q = 5 ∨ q = 6 ∨ q = 7 ∨ q = 8 ∨ q = 9 by omega) with rfl | rfl | rfl | rfl | rfl | rfl | rfl | rfl | rfl | rfl <;> rfl
theorem hs_line (q : Nat) (hq : q < 10) (v : Int32) : (HX I A J B F).set (20 + 2 * q) (.inr (2, [.ref (21 + 2 * q), .int v])) = HX (u2 I (20 + 2 * q) 1 v) A J B F := by
  rcases (show q = 0 ∨ q = 1 ∨ q = 2 ∨ q = 3 ∨ q = 4 ∨ q = 5 ∨ q = 6 ∨ q = 7 ∨ q = 8 ∨ q = 9 by omega) with rfl | rfl | rfl | rfl | rfl | rfl | rfl | rfl | rfl | rfl <;> rfl
theorem ha_line (q : Nat) (hq : q < 10) (f : Nat → Int32) : (HX I A J B F).set (21 + 2 * q) (.inl (0, rm q, .inl f)) = HX I (ua A (21 + 2 * q) f) J B F := by
  rcases (show q = 0 ∨ q = 1 ∨ q = 2 ∨ q = 3 ∨ q = 4 ∨ q = 5 ∨ q = 6 ∨ q = 7 ∨ q = 8 ∨ q = 9 by omega) with rfl | rfl | rfl | rfl | rfl | rfl | rfl | rfl | rfl | rfl <;> rfl
theorem hx_lineZ (q : Nat) (hq : q < 10) {z : Int32} (hz : I (20 + 2 * q) 1 = z) : (HX I A J B F)[20 + 2 * q]? = some (.inr (2, [.ref (21 + 2 * q), .int z])) := by
  subst hz
  exact hx_line q hq
theorem f_neg_1 : f_neg (-1) = nI 1 := by decide
theorem f_neg_0 {k : Nat} (hk : k < 2 ^ 31) : f_neg (nI k) = nI 0 := by
  unfold f_neg
  rw [if_pos (nI_pos' hk)]
  rfl
theorem f_hd_1 {j k : Nat} (hj : j < k) (hk : k < 2 ^ 31) : f_hd (nI j) (nI k) = nI 1 := by
  unfold f_hd
  rw [if_neg (nI_pos (by omega)), if_neg (nI_ge hj hk)]
  rfl
theorem f_hd_0 {x : Int32} {k : Nat} (h : x < 0 ∨ nI k ≤ x) : f_hd x (nI k) = nI 0 := by
  unfold f_hd
  by_cases h1 : x < 0
  · rw [if_pos h1]
    rfl
  · rw [if_neg h1, if_pos (h.resolve_left h1)]
    rfl
theorem f_read_nI {f : Nat → Int32} {j k : Nat} (hj : j < k) (hk : k < 2 ^ 31) : f_read f (nI k) (nI j) = f j := by
  unfold f_read
  rw [if_neg (nI_pos (by omega)), if_neg (nI_ge hj hk), nI_clamp (by omega)]
theorem f_wr_nI {f : Nat → Int32} {j k : Nat} {v : Int32} (hj : j < k) (hk : k < 2 ^ 31) : f_wr f (nI k) (nI j) v = upd f j v := by
  unfold f_wr
  rw [if_neg (nI_pos (by omega)), if_neg (nI_ge hj hk), nI_clamp (by omega)]
theorem f_mm {j m : Nat} (hj : j ≤ m) (hm : m < 2 ^ 31) : f_max 0 (f_min (nI j) (nI m)) = nI j := by
  have e1 : f_min (nI j) (nI m) = nI j := by
    unfold f_min
    rw [if_neg (nI_nlt hj hm)]
  rw [e1]
  unfold f_max
  split
  · rfl
  · rename_i h
    have h1 : ¬ 0 < j := fun z => h (show nI 0 < nI j from nI_lt z (by omega))
    have h2 : j = 0 := by omega
    subst h2
    rfl
theorem nI_toI_le {k m : Nat} (h : k ≤ m) (hk : k < 2 ^ 31) : (nI k).toInt ≤ (m : Int) := by
  rw [nI_toInt hk]
  omega
theorem sL_miss1 (q : Nat) (hq : q < 10) (hz : I (20 + 2 * q) 1 = -1) : x_ev X xT 1 27 [.ref (20 + 2 * q)] (HX I A J B F) (some (.int (nI 1))) (HX I A J B F) := f_neg_1 ▸ sX2_isMissing (hx_lineZ q hq hz)
theorem sL_miss0 (q : Nat) (hq : q < 10) (k : Nat) (hk : k ≤ 60) (hz : I (20 + 2 * q) 1 = nI k) : x_ev X xT 1 27 [.ref (20 + 2 * q)] (HX I A J B F) (some (.int (nI 0))) (HX I A J B F) := f_neg_0 (k := k) (by omega) ▸ sX2_isMissing (hx_lineZ q hq hz)
theorem sL_size (q : Nat) (hq : q < 10) {z : Int32} (hz : I (20 + 2 * q) 1 = z) : x_ev X xT 1 26 [.ref (20 + 2 * q)] (HX I A J B F) (some (.int z)) (HX I A J B F) := sX2_size (hx_lineZ q hq hz)
theorem sL_room (q : Nat) (hq : q < 10) : x_ev X xT 1 25 [.ref (20 + 2 * q)] (HX I A J B F) (some (.int (nI (rm q)))) (HX I A J B F) := sX2_room (hx_line q hq) (hx_lineC q hq) (by omega)
theorem sL_holds1 (q : Nat) (hq : q < 10) (k : Nat) (hk : k ≤ 60) (hz : I (20 + 2 * q) 1 = nI k) (j : Nat) (hj : j < k) : x_ev X xT 1 30 [.ref (20 + 2 * q), .int (nI j)] (HX I A J B F) (some (.int (nI 1))) (HX I A J B F) := f_hd_1 (j := j) (k := k) hj (by omega) ▸ sX2_holds (hx_lineZ q hq hz) (nI j)
theorem sL_holds0 (q : Nat) (hq : q < 10) (k : Nat) (hz : I (20 + 2 * q) 1 = nI k) (x : Int32) (hx : x < 0 ∨ nI k ≤ x) : x_ev X xT 1 30 [.ref (20 + 2 * q), .int x] (HX I A J B F) (some (.int (nI 0))) (HX I A J B F) := f_hd_0 (k := k) hx ▸ sX2_holds (hx_lineZ q hq hz) x
theorem sL_read (q : Nat) (hq : q < 10) (k : Nat) (hk : k ≤ rm q) (hz : I (20 + 2 * q) 1 = nI k) (j : Nat) (hj : j < k) : x_ev X xT 2 32 [.ref (20 + 2 * q), .int (nI j)] (HX I A J B F) (some (.int (A (21 + 2 * q) j))) (HX I A J B F) := by
  have hr := rm_le q
  have e := sX2_read (X := X) (hx_lineZ (A := A) (J := J) (B := B) (F := F) q hq hz) (hx_lineC q hq) (by omega) (nI_toI_le hk (by omega)) (nI j)
  rw [f_read_nI hj (by omega)] at e
  exact e
theorem sL_write (q : Nat) (hq : q < 10) (k : Nat) (hk : k ≤ rm q) (hz : I (20 + 2 * q) 1 = nI k) (j : Nat) (hj : j < k) (v : Int32) : x_ev X xT 2 33 [.ref (20 + 2 * q), .int (nI j), .int v] (HX I A J B F) none (HX I (ua A (21 + 2 * q) (upd (A (21 + 2 * q)) j v)) J B F) := by
  have hr := rm_le q
  have e := sX2_write (X := X) (hx_lineZ (A := A) (J := J) (B := B) (F := F) q hq hz) (hx_lineC q hq) (by omega) (nI_toI_le hk (by omega)) (nI j) v
  rw [f_wr_nI hj (by omega), ha_line q hq] at e
  exact e
theorem sL_remove (q : Nat) (hq : q < 10) : x_ev X xT 1 28 [.ref (20 + 2 * q)] (HX I A J B F) none (HX (u2 I (20 + 2 * q) 1 (-1)) A J B F) := hs_line q hq (-1) ▸ sX2_remove (hx_line q hq)
theorem sL_renew (q : Nat) (hq : q < 10) (n : Nat) (hn : n ≤ rm q) (v : Int32) : x_ev X xT 2 29 [.ref (20 + 2 * q), .int (nI n), .int v] (HX I A J B F) none (HX (u2 I (20 + 2 * q) 1 (nI n)) (ua A (21 + 2 * q) (f_fill (A (21 + 2 * q)) v 0 (rm q))) J B F) := by
  have hr := rm_le q
  have e := sX2_renew (X := X) (hx_line (I := I) (A := A) (J := J) (B := B) (F := F) q hq) (hx_lineC q hq) (by omega) (by omega) (nI n) v
  rw [f_mm hn (by omega), hs_line q hq, ha_line q hq] at e
  exact e
theorem sL_sum (q : Nat) (hq : q < 10) (k : Nat) (hk : k ≤ rm q) (hz : I (20 + 2 * q) 1 = nI k) : x_ev X xT 1 35 [.ref (20 + 2 * q)] (HX I A J B F) (some (.long (f_sum (A (21 + 2 * q)) k 0 0))) (HX I A J B F) := sX2_sum (hx_lineZ q hq hz) (hx_lineC q hq) (by omega) hk (by have hr := rm_le q; omega)
theorem sL_all (q : Nat) (hq : q < 10) (k : Nat) (hk : k ≤ rm q) (hz : I (20 + 2 * q) 1 = nI k) (lo hi : Int32) : x_ev X xT 1 36 [.ref (20 + 2 * q), .int lo, .int hi] (HX I A J B F) (some (.int (f_all (A (21 + 2 * q)) lo hi k 0))) (HX I A J B F) := sX2_isAllWithin (hx_lineZ q hq hz) (hx_lineC q hq) (by omega) hk (by have hr := rm_le q; omega) lo hi
theorem sL_less (q : Nat) (hq : q < 10) (k : Nat) (hk : k ≤ rm q) (hz : I (20 + 2 * q) 1 = nI k) : x_ev X xT 1 37 [.ref (20 + 2 * q)] (HX I A J B F) (some (.int (f_less (A (21 + 2 * q)) (k - 1) 1))) (HX I A J B F) := sX2_firstLess (hx_lineZ q hq hz) (hx_lineC q hq) (by omega) hk (by have hr := rm_le q; omega)
theorem sL_mix (q : Nat) (hq : q < 10) (k : Nat) (hk : k ≤ rm q) (hz : I (20 + 2 * q) 1 = nI k) (s : Int64) : x_ev X xT 1 38 [.ref (20 + 2 * q), .long s] (HX I A J B F) (some (.long (f_mix (A (21 + 2 * q)) k 0 (31 * s + (nI k).toInt64)))) (HX I A J B F) := sX2_mixedInto (hx_lineZ q hq hz) (hx_lineC q hq) (by omega) hk (by have hr := rm_le q; omega) s
theorem sL_mix0 (q : Nat) (hq : q < 10) (hz : I (20 + 2 * q) 1 = -1) (s : Int64) : x_ev X xT 1 38 [.ref (20 + 2 * q), .long s] (HX I A J B F) (some (.long (31 * s + (-1 : Int32).toInt64))) (HX I A J B F) := sX2_mixedInto_no (hx_lineZ q hq hz) s
theorem sX8_lineAt_t (k : Nat) (hk : k < 4) : x_ev X xT 1 126 [.ref 2, .int (nI k)] (HX I A J B F) (some (.ref (20 + 2 * (6 + k)))) (HX I A J B F) := by
  rw [show 20 + 2 * (6 + k) = 32 + 2 * k by omega]
  exact sX8_lineAt_txt k hk
end Lines
theorem sX8_refuseLine_N {X : XX} {I A : Nat → Nat → Int32} {J B : Nat → Nat → Int64} {F : Nat → Nat}  : x_ev X xT 2 130 [.ref 0, .null] (HX I A J B F) (some (.int (-1))) (HX I A J B F) := by
  refine q_ev (L := [some (.ref 0), some (.null)]) tX8_refuseLine (Nat.le_of_ble_eq_true rfl) rfl ?_
  refine q_aload_nN rfl rfl ?_
  refine q_ifnonnullN rfl ?_
  refine q_iconst (v := (-1)) rfl rfl ?_
  refine q_iret rfl rfl ?_
  exact ⟨rfl, rfl⟩
theorem sX8_refuseLine_M {X : XX} {I A : Nat → Nat → Int32} {J B : Nat → Nat → Int64} {F : Nat → Nat} (q : Nat) (hq : q < 10) (hz : I (20 + 2 * q) 1 = -1)  : x_ev X xT 2 130 [.ref 0, .ref (20 + 2 * q)] (HX I A J B F) (some (.int (-3))) (HX (u2 I 0 13 (nI 1)) (f_cnt A 19 1) J B F) := by
  refine q_ev (L := [some (.ref 0), some (.ref (20 + 2 * q))]) tX8_refuseLine (Nat.le_of_ble_eq_true rfl) rfl ?_
  refine q_aload_n rfl rfl ?_
  refine q_ifnonnull rfl ?_
  refine q_aload_n rfl rfl ?_
  refine q_callV0 rfl (hx_line q hq) (Nat.le_of_ble_eq_true rfl) (Nat.le_of_ble_eq_true rfl) (sL_miss1 q hq hz) ?_
  refine q_if_eqN rfl (by omega) (fun hc10 => ?_) (fun hc10 => ?_)
  · exact absurd hc10 (by decide)
  · refine q_aload_n rfl rfl ?_
    refine q_iconst (v := nI 1) rfl rfl ?_
    refine q_callV1 rfl hx_0 (Nat.le_of_ble_eq_true rfl) (Nat.le_of_ble_eq_true rfl) (sX8_found 1 (by decide)) ?_
    refine q_goto rfl ?_
    refine q_iret rfl rfl ?_
    exact ⟨rfl, rfl⟩
theorem sX8_refuseLine_0 {X : XX} {I A : Nat → Nat → Int32} {J B : Nat → Nat → Int64} {F : Nat → Nat} (q : Nat) (hq : q < 10) (k : Nat) (hk : k ≤ rm q) (hz : I (20 + 2 * q) 1 = nI k)  : x_ev X xT 2 130 [.ref 0, .ref (20 + 2 * q)] (HX I A J B F) (some (.int (nI 0))) (HX I A J B F) := by
  refine q_ev (L := [some (.ref 0), some (.ref (20 + 2 * q))]) tX8_refuseLine (Nat.le_of_ble_eq_true rfl) rfl ?_
  refine q_aload_n rfl rfl ?_
  refine q_ifnonnull rfl ?_
  refine q_aload_n rfl rfl ?_
  refine q_callV0 rfl (hx_line q hq) (Nat.le_of_ble_eq_true rfl) (Nat.le_of_ble_eq_true rfl) (sL_miss0 q hq k (by have := rm_le q; omega) hz) ?_
  refine q_if_eqN rfl (by omega) (fun hc10 => ?_) (fun hc10 => ?_)
  · refine q_iconst (v := nI 0) rfl rfl ?_
    refine q_iret rfl rfl ?_
    exact ⟨rfl, rfl⟩
  · exact absurd hc10 (by decide)
theorem sX8_refusePlace_N {X : XX} {I A : Nat → Nat → Int32} {J B : Nat → Nat → Int64} {F : Nat → Nat} (x : Int32) : x_ev X xT 3 131 [.ref 0, .null, .int x] (HX I A J B F) (some (.int (-1))) (HX I A J B F) := by
  refine q_ev (L := [some (.ref 0), some (.null), some (.int x), none]) tX8_refusePlace (Nat.le_of_ble_eq_true rfl) rfl ?_
  refine q_aload_n rfl rfl ?_
  refine q_aload_nN rfl rfl ?_
  refine q_callV1 rfl hx_0 (Nat.le_of_ble_eq_true rfl) (Nat.le_of_ble_eq_true rfl) (sX8_refuseLine_N) ?_
  refine q_istore_n (L' := [_, _, _, _]) rfl rfl ?_
  refine q_aload_nN rfl rfl ?_
  refine q_ifnullN rfl ?_
  refine q_iload_n rfl rfl ?_
  refine q_iret rfl rfl ?_
  exact ⟨rfl, rfl⟩
theorem sX8_refusePlace_M {X : XX} {I A : Nat → Nat → Int32} {J B : Nat → Nat → Int64} {F : Nat → Nat} (q : Nat) (hq : q < 10) (hz : I (20 + 2 * q) 1 = -1) (x : Int32) : x_ev X xT 3 131 [.ref 0, .ref (20 + 2 * q), .int x] (HX I A J B F) (some (.int (-3))) (HX (u2 I 0 13 (nI 1)) (f_cnt A 19 1) J B F) := by
  refine q_ev (L := [some (.ref 0), some (.ref (20 + 2 * q)), some (.int x), none]) tX8_refusePlace (Nat.le_of_ble_eq_true rfl) rfl ?_
  refine q_aload_n rfl rfl ?_
  refine q_aload_n rfl rfl ?_
  refine q_callV1 rfl hx_0 (Nat.le_of_ble_eq_true rfl) (Nat.le_of_ble_eq_true rfl) (sX8_refuseLine_M q hq hz) ?_
  refine q_istore_n (L' := [_, _, _, _]) rfl rfl ?_
  refine q_aload_n rfl rfl ?_
  refine q_ifnull rfl ?_
  refine q_iload_n rfl rfl ?_
  refine q_if_eq rfl (fun hc11 => ?_) (fun hc11 => ?_)
  · exact absurd hc11 (by decide)
  · refine q_iload_n rfl rfl ?_
    refine q_iret rfl rfl ?_
    exact ⟨rfl, rfl⟩
theorem sX8_refusePlace_B {X : XX} {I A : Nat → Nat → Int32} {J B : Nat → Nat → Int64} {F : Nat → Nat} (q : Nat) (hq : q < 10) (k : Nat) (hk : k ≤ rm q) (hz : I (20 + 2 * q) 1 = nI k) (x : Int32) (hx : x < 0 ∨ nI k ≤ x) : x_ev X xT 3 131 [.ref 0, .ref (20 + 2 * q), .int x] (HX I A J B F) (some (.int (-3))) (HX (u2 I 0 13 (nI 2)) (f_cnt A 19 2) J B F) := by
  refine q_ev (L := [some (.ref 0), some (.ref (20 + 2 * q)), some (.int x), none]) tX8_refusePlace (Nat.le_of_ble_eq_true rfl) rfl ?_
  refine q_aload_n rfl rfl ?_
  refine q_aload_n rfl rfl ?_
  refine q_callV1 rfl hx_0 (Nat.le_of_ble_eq_true rfl) (Nat.le_of_ble_eq_true rfl) (sX8_refuseLine_0 q hq k hk hz) ?_
  refine q_istore_n (L' := [_, _, _, _]) rfl rfl ?_
  refine q_aload_n rfl rfl ?_
  refine q_ifnull rfl ?_
  refine q_iload_n rfl rfl ?_
  refine q_if_eqN rfl (by omega) (fun hc11 => ?_) (fun hc11 => ?_)
  · refine q_aload_n rfl rfl ?_
    refine q_iload_n rfl rfl ?_
    refine q_callV1 rfl (hx_line q hq) (Nat.le_of_ble_eq_true rfl) (Nat.le_of_ble_eq_true rfl) (sL_holds0 q hq k hz x hx) ?_
    refine q_if_eqN rfl (by omega) (fun hc21 => ?_) (fun hc21 => ?_)
    · refine q_aload_n rfl rfl ?_
      refine q_iconst (v := nI 2) rfl rfl ?_
      refine q_callV1 rfl hx_0 (Nat.le_of_ble_eq_true rfl) (Nat.le_of_ble_eq_true rfl) (sX8_found 2 (by decide)) ?_
      refine q_iret rfl rfl ?_
      exact ⟨rfl, rfl⟩
    · exact absurd hc21 (by decide)
  · exact absurd hc11 (by decide)
theorem sX8_refusePlace_0 {X : XX} {I A : Nat → Nat → Int32} {J B : Nat → Nat → Int64} {F : Nat → Nat} (q : Nat) (hq : q < 10) (k : Nat) (hk : k ≤ rm q) (hz : I (20 + 2 * q) 1 = nI k) (j : Nat) (hj : j < k) : x_ev X xT 3 131 [.ref 0, .ref (20 + 2 * q), .int (nI j)] (HX I A J B F) (some (.int (nI 0))) (HX I A J B F) := by
  refine q_ev (L := [some (.ref 0), some (.ref (20 + 2 * q)), some (.int (nI j)), none]) tX8_refusePlace (Nat.le_of_ble_eq_true rfl) rfl ?_
  refine q_aload_n rfl rfl ?_
  refine q_aload_n rfl rfl ?_
  refine q_callV1 rfl hx_0 (Nat.le_of_ble_eq_true rfl) (Nat.le_of_ble_eq_true rfl) (sX8_refuseLine_0 q hq k hk hz) ?_
  refine q_istore_n (L' := [_, _, _, _]) rfl rfl ?_
  refine q_aload_n rfl rfl ?_
  refine q_ifnull rfl ?_
  refine q_iload_n rfl rfl ?_
  refine q_if_eqN rfl (by omega) (fun hc11 => ?_) (fun hc11 => ?_)
  · refine q_aload_n rfl rfl ?_
    refine q_iload_n rfl rfl ?_
    refine q_callV1 rfl (hx_line q hq) (Nat.le_of_ble_eq_true rfl) (Nat.le_of_ble_eq_true rfl) (sL_holds1 q hq k (by have := rm_le q; omega) hz j hj) ?_
    refine q_if_eqN rfl (by omega) (fun hc21 => ?_) (fun hc21 => ?_)
    · exact absurd hc21 (by decide)
    · refine q_iconst (v := nI 0) rfl rfl ?_
      refine q_goto rfl ?_
      refine q_iret rfl rfl ?_
      exact ⟨rfl, rfl⟩
  · exact absurd hc11 (by decide)
theorem sX8_renewed_N {X : XX} {I A : Nat → Nat → Int32} {J B : Nat → Nat → Int64} {F : Nat → Nat} (n v : Int32) : x_ev X xT 3 129 [.ref 0, .null, .int n, .int v] (HX I A J B F) (some (.int (-1))) (HX I A J B F) := by
  refine q_ev (L := [some (.ref 0), some (.null), some (.int n), some (.int v)]) tX8_renewed (Nat.le_of_ble_eq_true rfl) rfl ?_
  refine q_aload_nN rfl rfl ?_
  refine q_ifnullN rfl ?_
  refine q_iconst (v := (-1)) rfl rfl ?_
  refine q_iret rfl rfl ?_
  exact ⟨rfl, rfl⟩
theorem sX8_renewed_B {X : XX} {I A : Nat → Nat → Int32} {J B : Nat → Nat → Int64} {F : Nat → Nat} (q : Nat) (hq : q < 10) (n v : Int32) (hn : nI (rm q) < n) : x_ev X xT 3 129 [.ref 0, .ref (20 + 2 * q), .int n, .int v] (HX I A J B F) (some (.int (-1))) (HX I A J B F) := by
  refine q_ev (L := [some (.ref 0), some (.ref (20 + 2 * q)), some (.int n), some (.int v)]) tX8_renewed (Nat.le_of_ble_eq_true rfl) rfl ?_
  refine q_aload_n rfl rfl ?_
  refine q_ifnull rfl ?_
  refine q_iload_n rfl rfl ?_
  refine q_aload_n rfl rfl ?_
  refine q_callV0 rfl (hx_line q hq) (Nat.le_of_ble_eq_true rfl) (Nat.le_of_ble_eq_true rfl) (sL_room q hq) ?_
  refine q_icmp_le rfl (fun hc9 => ?_) (fun hc9 => ?_)
  · exact absurd hc9 (Int32.not_le.mpr hn)
  · refine q_iconst (v := (-1)) rfl rfl ?_
    refine q_iret rfl rfl ?_
    exact ⟨rfl, rfl⟩
theorem sX8_renewed_S {X : XX} {I A : Nat → Nat → Int32} {J B : Nat → Nat → Int64} {F : Nat → Nat} (q : Nat) (hq : q < 10) (n v : Int32) (hn : n < 0) : x_ev X xT 3 129 [.ref 0, .ref (20 + 2 * q), .int n, .int v] (HX I A J B F) (some (.int (-3))) (HX (u2 I 0 13 (nI 5)) (f_cnt A 19 5) J B F) := by
  refine q_ev (L := [some (.ref 0), some (.ref (20 + 2 * q)), some (.int n), some (.int v)]) tX8_renewed (Nat.le_of_ble_eq_true rfl) rfl ?_
  refine q_aload_n rfl rfl ?_
  refine q_ifnull rfl ?_
  refine q_iload_n rfl rfl ?_
  refine q_aload_n rfl rfl ?_
  refine q_callV0 rfl (hx_line q hq) (Nat.le_of_ble_eq_true rfl) (Nat.le_of_ble_eq_true rfl) (sL_room q hq) ?_
  refine q_icmp_le rfl (fun hc9 => ?_) (fun hc9 => ?_)
  · refine q_iload_n rfl rfl ?_
    refine q_if_ge rfl (fun hc15 => ?_) (fun hc15 => ?_)
    · exact absurd hn (Int32.not_lt.mpr hc15)
    · refine q_aload_n rfl rfl ?_
      refine q_iconst (v := nI 5) rfl rfl ?_
      refine q_callV1 rfl hx_0 (Nat.le_of_ble_eq_true rfl) (Nat.le_of_ble_eq_true rfl) (sX8_found 5 (by decide)) ?_
      refine q_iret rfl rfl ?_
      exact ⟨rfl, rfl⟩
  · exact absurd (Int32.le_of_lt (Int32.lt_of_lt_of_le hn (nI_pos' (n := rm q) (by have := rm_le q; omega)))) hc9
theorem sX8_renewed_0 {X : XX} {I A : Nat → Nat → Int32} {J B : Nat → Nat → Int64} {F : Nat → Nat} (q : Nat) (hq : q < 10) (n : Nat) (hn : n ≤ rm q) (v : Int32) : x_ev X xT 3 129 [.ref 0, .ref (20 + 2 * q), .int (nI n), .int v] (HX I A J B F) (some (.int (nI n))) (HX (u2 I (20 + 2 * q) 1 (nI n)) (ua A (21 + 2 * q) (f_fill (A (21 + 2 * q)) v 0 (rm q))) J B F) := by
  refine q_ev (L := [some (.ref 0), some (.ref (20 + 2 * q)), some (.int (nI n)), some (.int v)]) tX8_renewed (Nat.le_of_ble_eq_true rfl) rfl ?_
  refine q_aload_n rfl rfl ?_
  refine q_ifnull rfl ?_
  refine q_iload_n rfl rfl ?_
  refine q_aload_n rfl rfl ?_
  refine q_callV0 rfl (hx_line q hq) (Nat.le_of_ble_eq_true rfl) (Nat.le_of_ble_eq_true rfl) (sL_room q hq) ?_
  refine q_icmp_leN rfl (by have := rm_le q; omega) (by have := rm_le q; omega) (fun hc9 => ?_) (fun hc9 => ?_)
  · refine q_iload_n rfl rfl ?_
    refine q_if_geN rfl (by have := rm_le q; omega) (fun hc15 => ?_) (fun hc15 => ?_)
    · refine q_aload_n rfl rfl ?_
      refine q_iload_n rfl rfl ?_
      refine q_iload_n rfl rfl ?_
      refine q_callV2 rfl (hx_line q hq) (Nat.le_of_ble_eq_true rfl) (Nat.le_of_ble_eq_true rfl) (sL_renew q hq n hn v) ?_
      refine q_iload_n rfl rfl ?_
      refine q_iret rfl rfl ?_
      exact ⟨rfl, rfl⟩
    · omega
  · omega
