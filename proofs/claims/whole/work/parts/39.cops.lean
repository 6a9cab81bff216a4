/-! lights and deeds: the calls, case by case -/
theorem fmod4 : ∀ m, m < 41 → f_fmod (-(nI m)) 4 = nI ((4 - m % 4) % 4) := by decide +kernel
/-- the bits of those that are so -/
def orf (p : Nat → Bool) : Nat → Int32
  | 0 => 0
  | k + 1 => if p k = true then orf p k ||| (nI 1 <<< (nI k &&& 31)) else orf p k
theorem orf_congr {p q : Nat → Bool} {n : Nat} (h : ∀ k, k < n → p k = q k) : orf p n = orf q n := by
  induction n with
  | zero => rfl
  | succ n ih =>
    unfold orf
    rw [ih (fun k hk => h k (by omega)), h n (by omega)]
/-- the best so far: where, and one more than how long -/
def abf (g : Nat → Nat) : Nat → Nat × Nat
  | 0 => (0, 0)
  | k + 1 => if g k + 1 ≤ (abf g k).2 then abf g k else (k, g k + 1)
theorem abf_1 (g : Nat → Nat) : abf g 1 = (0, g 0 + 1) := if_neg (by unfold abf; omega)
theorem abf_2 {g : Nat → Nat} (hg : ∀ k, g k ≤ 100) (k : Nat) : (abf g k).2 ≤ 101 := by
  induction k with
  | zero => exact Nat.zero_le _
  | succ k ih =>
    unfold abf
    split
    · exact ih
    · have := hg k
      exact Nat.succ_le_succ this
theorem abf_0 (g : Nat → Nat) (k : Nat) : 1 ≤ (abf g (k + 1)).2 := by
  induction k with
  | zero => rw [abf_1]; exact Nat.succ_le_succ (Nat.zero_le _)
  | succ k ih =>
    rw [show abf g (k + 1 + 1) = if g (k + 1) + 1 ≤ (abf g (k + 1)).2 then abf g (k + 1) else (k + 1, g (k + 1) + 1) from rfl]
    split
    · exact ih
    · exact Nat.succ_le_succ (Nat.zero_le _)
theorem abf_congr {f g : Nat → Nat} {n : Nat} (h : ∀ k, k < n → f k = g k) : abf f n = abf g n := by
  induction n with
  | zero => rfl
  | succ n ih =>
    unfold abf
    rw [ih (fun k hk => h k (by omega)), h n (by omega)]
theorem sI1_le {n L : Nat} (hn : n < 2 ^ 20) (hL : L < 2 ^ 20) : nI n ≤ sI 1 L ↔ n + 1 ≤ L := by
  rw [Int32.le_iff_toInt_le, sI_toInt (by omega) (by omega), nI_toInt (by omega)]
  omega
theorem sI1_s (n : Nat) : nI n = sI 1 (n + 1) := (nI_pred n).symm
def mkN (b : Nat) (l : LT) (s m : Nat) : Nat → Int32
  | 1 => nI (nsum (mvN l m) 8)
  | 2 => nI (lrun (bkP l m) 23 1)
  | 3 => nI (nsum (fun k => brN l (m + k)) 4)
  | 4 => nI (lrun (wyP b s (plN l m)) 12 0)
  | _ => nI ((4 - m % 4) % 4)
section SK2
variable {X : XX} {I A : Nat → Nat → Int32} {J B : Nat → Nat → Int64} {F : Nat → Nat}
theorem sK_far1 (x : Int32) (hx : x < 0 ∨ nI 99 < x) : x_ev X xT 1 124 [.int x] (HX I A J B F) (some (.int (nI 1))) (HX I A J B F) := by
  have e := sX8_isTooFar (X := X) (I := I) (A := A) (J := J) (B := B) (F := F) x
  by_cases h : x < 0
  · rw [if_pos h] at e
    exact e
  · rw [if_neg h, if_neg (show ¬ x ≤ 99 from Int32.not_le.mpr (hx.resolve_left h))] at e
    exact e
theorem sK_far0 (n : Nat) (hn : n < 100) : x_ev X xT 1 124 [.int (nI n)] (HX I A J B F) (some (.int (nI 0))) (HX I A J B F) := by
  have e := sX8_isTooFar (X := X) (I := I) (A := A) (J := J) (B := B) (F := F) (nI n)
  rw [if_neg (nI_pos (by omega)), if_pos (show nI n ≤ 99 from nI_le (b := 99) (by omega) (by omega))] at e
  exact e
def k4 (I : Nat → Nat → Int32) (a : Nat) (v1 v2 v3 v4 : Int32) : Nat → Nat → Int32 := u2 (u2 (u2 (u2 I a 1 v1) a 2 v2) a 3 v3) a 4 v4
theorem sN_keep (k : Nat) (hk : k < 3) : x_ev X xT 2 51 [.ref (45 + 2 * k), .ref 8] (HX I A J B F) none (HX (k4 I (45 + 2 * k) (I 8 1) (I 8 2) (I 8 3) (I 8 4)) (ua A (46 + 2 * k) (va_cpy (A 9) (A (46 + 2 * k)) 0 0 40)) J B F) := by
  have e := sX3_become (X := X) (hx_kept (I := I) (A := A) (J := J) (B := B) (F := F) k hk) (hx_keptc k hk) hx_8 hx_9 (by omega) (by omega)
  rw [ha_kept k hk, hf_kept k hk] at e
  exact e
theorem sN_on (k : Nat) (hk : k < 3) : x_ev X xT 2 51 [.ref 8, .ref (45 + 2 * k)] (HX I A J B F) none (HX (n4 I (I (45 + 2 * k) 1) (I (45 + 2 * k) 2) (I (45 + 2 * k) 3) (I (45 + 2 * k) 4)) (ua A 9 (va_cpy (A (46 + 2 * k)) (A 9) 0 0 40)) J B F) := by
  have e := sX3_become (X := X) hx_8 hx_9 (hx_kept (I := I) (A := A) (J := J) (B := B) (F := F) k hk) (hx_keptc k hk) (by omega) (by omega)
  rw [ha_9, hf_8] at e
  exact e
theorem sN_forg1 (k : Nat) (hk : k < 3) (e : I (45 + 2 * k) 1 = -1) : x_ev X xT 1 42 [.ref (45 + 2 * k)] (HX I A J B F) (some (.int (nI 1))) (HX I A J B F) := by
  have h := sX3_isForgotten (X := X) (hx_kept (I := I) (A := A) (J := J) (B := B) (F := F) k hk)
  rw [e, f_neg_1] at h
  exact h
theorem sN_forg0 (k : Nat) (hk : k < 3) (d : Nat) (hd : d ≤ 40) (e : I (45 + 2 * k) 1 = nI d) : x_ev X xT 1 42 [.ref (45 + 2 * k)] (HX I A J B F) (some (.int (nI 0))) (HX I A J B F) := by
  have h := sX3_isForgotten (X := X) (hx_kept (I := I) (A := A) (J := J) (B := B) (F := F) k hk)
  rw [e, f_neg_0 (by omega)] at h
  exact h
end SK2
theorem c_light_bad {X : XX} {I A : Nat → Nat → Int32} {J B : Nat → Nat → Int64} {F : Nat → Nat} (x : Int32) (hx : x < 0 ∨ I 0 12 ≤ x) (w : Int32) : x_ev X xT 7 90 [.ref 0, .int x, .int w] (HX I A J B F) (some (.int (-1))) (HX I A J B F) := by
  refine q_ev (L := [some (.ref 0), some (.int x), some (.int w), none]) tX8_light (Nat.le_of_ble_eq_true rfl) rfl ?_
  refine q_aload_n rfl rfl ?_
  refine q_iload_n rfl rfl ?_
  refine q_callV1 rfl hx_0 (Nat.le_of_ble_eq_true rfl) (Nat.le_of_ble_eq_true rfl) (sX8_lightAtN x hx) ?_
  refine q_astore_nN (L' := [_, _, _, _]) rfl rfl ?_
  refine q_aload_nN rfl rfl ?_
  refine q_ifnullN rfl ?_
  refine q_iconst (v := (-1)) rfl rfl ?_
  refine q_iret rfl rfl ?_
  exact ⟨rfl, rfl⟩
theorem c_light_w {X : XX} {I A : Nat → Nat → Int32} {J B : Nat → Nat → Int64} {F : Nat → Nat} (ln : Nat) (hln : ln ≤ 5) (eln : I 0 12 = nI ln) (k : Nat) (hk : k < ln) (w : Int32) (hw : w < 0 ∨ nI 6 ≤ w)  : x_ev X xT 7 90 [.ref 0, .int (nI k), .int w] (HX I A J B F) (some (.int (-1))) (HX I A J B F) := by
  refine q_ev (L := [some (.ref 0), some (.int (nI k)), some (.int w), none]) tX8_light (Nat.le_of_ble_eq_true rfl) rfl ?_
  refine q_aload_n rfl rfl ?_
  refine q_iload_n rfl rfl ?_
  refine q_callV1 rfl hx_0 (Nat.le_of_ble_eq_true rfl) (Nat.le_of_ble_eq_true rfl) (sX8_lightAt k ln hk hln eln) ?_
  refine q_astore_n (L' := [_, _, _, _]) rfl rfl ?_
  refine q_aload_n rfl rfl ?_
  refine q_ifnull rfl ?_
  refine q_iload_n rfl rfl ?_
  refine q_if_lt rfl (fun hc11 => ?_) (fun hc11 => ?_)
  · refine q_iconst (v := (-1)) rfl rfl ?_
    refine q_iret rfl rfl ?_
    exact ⟨rfl, rfl⟩
  · refine q_iload_n rfl rfl ?_
    refine q_bipush (v := nI 6) rfl rfl ?_
    refine q_icmp_lt rfl (fun hc17 => ?_) (fun hc17 => ?_)
    · exact absurd hc17 (Int32.not_lt.mpr (hw.resolve_left hc11))
    · refine q_iconst (v := (-1)) rfl rfl ?_
      refine q_iret rfl rfl ?_
      exact ⟨rfl, rfl⟩
theorem c_light_0 {X : XX} {I A : Nat → Nat → Int32} {J B : Nat → Nat → Int64} {F : Nat → Nat} (b : Nat) (hb : b ≤ 5) (eb : I 7 0 = nI b) (m : Nat) (em : I 8 2 = nI m) (hm : m ≤ 40) (s : Nat) (es : I 8 3 = nI s) (hs : s < 24) (ln : Nat) (hln : ln ≤ 5) (eln : I 0 12 = nI ln) (lks : ∀ i, i < 5 → lkOK I (40 + i)) (k : Nat) (hk : k < ln) (w : Nat) (hw : w < 6) : x_ev X xT 7 90 [.ref 0, .int (nI k), .int (nI w)] (HX I A J B F) (some (.int (nI 1))) (HX (u2 I 0 14 (fact b (cL I (40 + k)) s m w)) A J B F) := by
  refine q_ev (L := [some (.ref 0), some (.int (nI k)), some (.int (nI w)), none]) tX8_light (Nat.le_of_ble_eq_true rfl) rfl ?_
  refine q_aload_n rfl rfl ?_
  refine q_iload_n rfl rfl ?_
  refine q_callV1 rfl hx_0 (Nat.le_of_ble_eq_true rfl) (Nat.le_of_ble_eq_true rfl) (sX8_lightAt k ln hk hln eln) ?_
  refine q_astore_n (L' := [_, _, _, _]) rfl rfl ?_
  refine q_aload_n rfl rfl ?_
  refine q_ifnull rfl ?_
  refine q_iload_n rfl rfl ?_
  refine q_if_ltN rfl (by omega) (fun hc11 => ?_) (fun hc11 => ?_)
  · omega
  · refine q_iload_n rfl rfl ?_
    refine q_bipush (v := nI 6) rfl rfl ?_
    refine q_icmp_ltN rfl (by omega) (by omega) (fun hc17 => ?_) (fun hc17 => ?_)
    · refine q_aload_n rfl rfl ?_
      refine q_aload_n rfl rfl ?_
      refine q_aload_n rfl rfl ?_
      refine q_iload_n rfl rfl ?_
      refine q_callV2 rfl hx_0 (Nat.le_of_ble_eq_true rfl) (Nat.le_of_ble_eq_true rfl) (sX8_factOf b hb eb m em (by omega) s es (40 + k) (hx_light k (by omega)) (lks k (by omega)) w hw) ?_
      refine q_putfield rfl hx_0 rfl (Nat.le_of_ble_eq_true rfl) (rfl) (by decide +kernel) ?_
      refine q_heap (hs_0_14 _) ?_
      refine q_iconst (v := nI 1) rfl rfl ?_
      refine q_iret rfl rfl ?_
      exact ⟨rfl, rfl⟩
    · omega
theorem c_mark_bad {X : XX} {I A : Nat → Nat → Int32} {J B : Nat → Nat → Int64} {F : Nat → Nat} (x : Int32) (hx : x < 0 ∨ I 0 12 ≤ x) (w : Int32) : x_ev X xT 5 91 [.ref 0, .int x, .int w] (HX I A J B F) (some (.int (-1))) (HX I A J B F) := by
  refine q_ev (L := [some (.ref 0), some (.int x), some (.int w), none]) tX8_mark (Nat.le_of_ble_eq_true rfl) rfl ?_
  refine q_aload_n rfl rfl ?_
  refine q_iload_n rfl rfl ?_
  refine q_callV1 rfl hx_0 (Nat.le_of_ble_eq_true rfl) (Nat.le_of_ble_eq_true rfl) (sX8_lightAtN x hx) ?_
  refine q_astore_nN (L' := [_, _, _, _]) rfl rfl ?_
  refine q_aload_nN rfl rfl ?_
  refine q_ifnullN rfl ?_
  refine q_iconst (v := (-1)) rfl rfl ?_
  refine q_iret rfl rfl ?_
  exact ⟨rfl, rfl⟩
theorem f_lt0 {x : Int32} (h : x < nI 1) : x ≤ 0 := by
  rw [Int32.lt_iff_toInt_lt, nI_toInt (by omega)] at h
  rw [Int32.le_iff_toInt_le, Int32.toInt_zero]
  omega
theorem c_mark_w {X : XX} {I A : Nat → Nat → Int32} {J B : Nat → Nat → Int64} {F : Nat → Nat} (ln : Nat) (hln : ln ≤ 5) (eln : I 0 12 = nI ln) (k : Nat) (hk : k < ln) (w : Int32) (hw : w < nI 1 ∨ nI 6 ≤ w) : x_ev X xT 5 91 [.ref 0, .int (nI k), .int w] (HX I A J B F) (some (.int (-1))) (HX I A J B F) := by
  refine q_ev (L := [some (.ref 0), some (.int (nI k)), some (.int w), none]) tX8_mark (Nat.le_of_ble_eq_true rfl) rfl ?_
  refine q_aload_n rfl rfl ?_
  refine q_iload_n rfl rfl ?_
  refine q_callV1 rfl hx_0 (Nat.le_of_ble_eq_true rfl) (Nat.le_of_ble_eq_true rfl) (sX8_lightAt k ln hk hln eln) ?_
  refine q_astore_n (L' := [_, _, _, _]) rfl rfl ?_
  refine q_aload_n rfl rfl ?_
  refine q_ifnull rfl ?_
  refine q_iload_n rfl rfl ?_
  refine q_if_le rfl (fun hc11 => ?_) (fun hc11 => ?_)
  · refine q_iconst (v := (-1)) rfl rfl ?_
    refine q_iret rfl rfl ?_
    exact ⟨rfl, rfl⟩
  · refine q_iload_n rfl rfl ?_
    refine q_bipush (v := nI 6) rfl rfl ?_
    refine q_icmp_lt rfl (fun hc17 => ?_) (fun hc17 => ?_)
    · exact absurd hc17 (Int32.not_lt.mpr (hw.resolve_left (fun z => hc11 (f_lt0 z))))
    · refine q_iconst (v := (-1)) rfl rfl ?_
      refine q_iret rfl rfl ?_
      exact ⟨rfl, rfl⟩
theorem c_mark_U {X : XX} {I A : Nat → Nat → Int32} {J B : Nat → Nat → Int64} {F : Nat → Nat} (ln : Nat) (hln : ln ≤ 5) (eln : I 0 12 = nI ln) (k : Nat) (hk : k < ln) (w : Nat) (hw1 : 1 ≤ w) (hw : w < 6) (hf : f_of (I (40 + k) 0) (nI w) = 0) : x_ev X xT 5 91 [.ref 0, .int (nI k), .int (nI w)] (HX I A J B F) (some (.int (-3))) (HX (u2 I 0 13 (nI 3)) (f_cnt A 19 3) J B F) := by
  refine q_ev (L := [some (.ref 0), some (.int (nI k)), some (.int (nI w)), none]) tX8_mark (Nat.le_of_ble_eq_true rfl) rfl ?_
  refine q_aload_n rfl rfl ?_
  refine q_iload_n rfl rfl ?_
  refine q_callV1 rfl hx_0 (Nat.le_of_ble_eq_true rfl) (Nat.le_of_ble_eq_true rfl) (sX8_lightAt k ln hk hln eln) ?_
  refine q_astore_n (L' := [_, _, _, _]) rfl rfl ?_
  refine q_aload_n rfl rfl ?_
  refine q_ifnull rfl ?_
  refine q_iload_n rfl rfl ?_
  refine q_if_leN rfl (by omega) (fun hc11 => ?_) (fun hc11 => ?_)
  · omega
  · refine q_iload_n rfl rfl ?_
    refine q_bipush (v := nI 6) rfl rfl ?_
    refine q_icmp_ltN rfl (by omega) (by omega) (fun hc17 => ?_) (fun hc17 => ?_)
    · refine q_aload_n rfl rfl ?_
      refine q_iload_n rfl rfl ?_
      refine q_callV1 rfl (hx_light k (by omega)) (Nat.le_of_ble_eq_true rfl) (Nat.le_of_ble_eq_true rfl) (sX1_isOf (hx_light k (by omega)) (nI w)) ?_
      refine q_cn (show _ = nI 0 from hf) ?_
      refine q_if_neN rfl (by omega) (fun hc27 => ?_) (fun hc27 => ?_)
      · exact absurd hc27 (by decide)
      · refine q_aload_n rfl rfl ?_
        refine q_iconst (v := nI 3) rfl rfl ?_
        refine q_callV1 rfl hx_0 (Nat.le_of_ble_eq_true rfl) (Nat.le_of_ble_eq_true rfl) (sX8_found 3 (by decide)) ?_
        refine q_iret rfl rfl ?_
        exact ⟨rfl, rfl⟩
    · omega
theorem c_mark_0 {X : XX} {I A : Nat → Nat → Int32} {J B : Nat → Nat → Int64} {F : Nat → Nat} (b : Nat) (hb : b ≤ 5) (eb : I 7 0 = nI b) (m : Nat) (em : I 8 2 = nI m) (hm : m ≤ 40) (s : Nat) (es : I 8 3 = nI s) (hs : s < 24) (ln : Nat) (hln : ln ≤ 5) (eln : I 0 12 = nI ln) (lks : ∀ i, i < 5 → lkOK I (40 + i)) (k : Nat) (hk : k < ln) (w : Nat) (hw1 : 1 ≤ w) (hw : w < 6) (hf : ¬ f_of (I (40 + k) 0) (nI w) = 0) : x_ev X xT 5 91 [.ref 0, .int (nI k), .int (nI w)] (HX I A J B F) (some (.int (mkN b (cL I (40 + k)) s m w))) (HX I A J B F) := by
  refine q_ev (L := [some (.ref 0), some (.int (nI k)), some (.int (nI w)), none]) tX8_mark (Nat.le_of_ble_eq_true rfl) rfl ?_
  refine q_aload_n rfl rfl ?_
  refine q_iload_n rfl rfl ?_
  refine q_callV1 rfl hx_0 (Nat.le_of_ble_eq_true rfl) (Nat.le_of_ble_eq_true rfl) (sX8_lightAt k ln hk hln eln) ?_
  refine q_astore_n (L' := [_, _, _, _]) rfl rfl ?_
  refine q_aload_n rfl rfl ?_
  refine q_ifnull rfl ?_
  refine q_iload_n rfl rfl ?_
  refine q_if_leN rfl (by omega) (fun hc11 => ?_) (fun hc11 => ?_)
  · omega
  · refine q_iload_n rfl rfl ?_
    refine q_bipush (v := nI 6) rfl rfl ?_
    refine q_icmp_ltN rfl (by omega) (by omega) (fun hc17 => ?_) (fun hc17 => ?_)
    · refine q_aload_n rfl rfl ?_
      refine q_iload_n rfl rfl ?_
      refine q_callV1 rfl (hx_light k (by omega)) (Nat.le_of_ble_eq_true rfl) (Nat.le_of_ble_eq_true rfl) (sX1_isOf (hx_light k (by omega)) (nI w)) ?_
      refine q_if_ne rfl (fun hc27 => ?_) (fun hc27 => ?_)
      · refine q_iload_n rfl rfl ?_
        rcases (show w = 1 ∨ w = 2 ∨ w = 3 ∨ w = 4 ∨ w = 5 by omega) with rfl | rfl | rfl | rfl | rfl
        · refine q_tsw (t := 68) rfl (by decide) ?_
          refine q_aload_n rfl rfl ?_
          refine q_aload_n rfl rfl ?_
          refine q_getfield rfl hx_0 rfl ?_
          refine q_callV0 rfl hx_8 (Nat.le_of_ble_eq_true rfl) (Nat.le_of_ble_eq_true rfl) (sN_now em) ?_
          refine q_bipush (v := nI 8) rfl rfl ?_
          refine q_callV2 rfl (hx_light k (by omega)) (Nat.le_of_ble_eq_true rfl) (Nat.le_of_ble_eq_true rfl) (sX1_movesWithin (40 + k) (hx_light k (by omega)) (lks k (by omega)) m 8 (by omega) (by omega)) ?_
          refine q_iret rfl rfl ?_
          exact ⟨rfl, rfl⟩
        · refine q_tsw (t := 82) rfl (by decide) ?_
          refine q_aload_n rfl rfl ?_
          refine q_aload_n rfl rfl ?_
          refine q_getfield rfl hx_0 rfl ?_
          refine q_callV0 rfl hx_8 (Nat.le_of_ble_eq_true rfl) (Nat.le_of_ble_eq_true rfl) (sN_now em) ?_
          refine q_callV1 rfl (hx_light k (by omega)) (Nat.le_of_ble_eq_true rfl) (Nat.le_of_ble_eq_true rfl) (sX1_returnsAfter (40 + k) (hx_light k (by omega)) (lks k (by omega)) m (by omega)) ?_
          refine q_iret rfl rfl ?_
          exact ⟨rfl, rfl⟩
        · refine q_tsw (t := 94) rfl (by decide) ?_
          refine q_aload_n rfl rfl ?_
          refine q_aload_n rfl rfl ?_
          refine q_getfield rfl hx_0 rfl ?_
          refine q_callV0 rfl hx_8 (Nat.le_of_ble_eq_true rfl) (Nat.le_of_ble_eq_true rfl) (sN_now em) ?_
          refine q_iconst (v := nI 4) rfl rfl ?_
          refine q_callV2 rfl (hx_light k (by omega)) (Nat.le_of_ble_eq_true rfl) (Nat.le_of_ble_eq_true rfl) (sX1_brightTogether (40 + k) (hx_light k (by omega)) (lks k (by omega)) m 4 (by omega) (by omega)) ?_
          refine q_iret rfl rfl ?_
          exact ⟨rfl, rfl⟩
        · refine q_tsw (t := 107) rfl (by decide) ?_
          refine q_aload_n rfl rfl ?_
          refine q_getfield rfl hx_0 rfl ?_
          refine q_aload_n rfl rfl ?_
          refine q_getfield rfl hx_0 rfl ?_
          refine q_callV0 rfl hx_8 (Nat.le_of_ble_eq_true rfl) (Nat.le_of_ble_eq_true rfl) (sN_first es) ?_
          refine q_aload_n rfl rfl ?_
          refine q_aload_n rfl rfl ?_
          refine q_getfield rfl hx_0 rfl ?_
          refine q_callV0 rfl hx_8 (Nat.le_of_ble_eq_true rfl) (Nat.le_of_ble_eq_true rfl) (sN_now em) ?_
          refine q_callV1 rfl (hx_light k (by omega)) (Nat.le_of_ble_eq_true rfl) (Nat.le_of_ble_eq_true rfl) (sK_place (hx_light k (by omega)) (lks k (by omega)) _) ?_
          refine q_callV2 rfl hx_7 (Nat.le_of_ble_eq_true rfl) (Nat.le_of_ble_eq_true rfl) (sX6_leastWayToBest b hb eb s _ hs (plN_lt _ _)) ?_
          refine q_iret rfl rfl ?_
          exact ⟨rfl, rfl⟩
        · refine q_tsw (t := 133) rfl (by decide) ?_
          refine q_aload_n rfl rfl ?_
          refine q_getfield rfl hx_0 rfl ?_
          refine q_callV0 rfl hx_8 (Nat.le_of_ble_eq_true rfl) (Nat.le_of_ble_eq_true rfl) (sN_now em) ?_
          refine q_ineg rfl ?_
          refine q_iconst (v := nI 4) rfl rfl ?_
          refine q_callS2 rfl rfl (Nat.le_of_ble_eq_true rfl) (Nat.le_of_ble_eq_true rfl) (sJ9_floorMod_7cf53 _ _ (by decide)) ?_
          refine q_iret rfl rfl ?_
          exact ⟨vI (fmod4 m (by omega)), rfl⟩
      · exact absurd hc27 hf
    · omega
theorem c_moment_S {X : XX} {I A : Nat → Nat → Int32} {J B : Nat → Nat → Int64} {F : Nat → Nat} (eln : I 0 12 = nI 0) : x_ev X xT 7 92 [.ref 0] (HX I A J B F) (some (.int (-4))) (HX I A J B F) := by
  refine q_ev (L := [some (.ref 0)]) tX8_moment (Nat.le_of_ble_eq_true rfl) rfl ?_
  refine q_aload_n rfl rfl ?_
  refine q_getI rfl hx_0 rfl (eln) ?_
  refine q_if_neN rfl (by omega) (fun hc4 => ?_) (fun hc4 => ?_)
  · exact absurd hc4 (by decide)
  · refine q_bipush (v := (-4)) rfl rfl ?_
    refine q_iret rfl rfl ?_
    exact ⟨rfl, rfl⟩
theorem c_moment_F {X : XX} {I A : Nat → Nat → Int32} {J B : Nat → Nat → Int64} {F : Nat → Nat} (ln : Nat) (hln : ln ≤ 5) (eln : I 0 12 = nI ln) (h0 : 0 < ln) (ed : I 8 1 = nI 40) : x_ev X xT 7 92 [.ref 0] (HX I A J B F) (some (.int (-2))) (HX I A J B F) := by
  refine q_ev (L := [some (.ref 0)]) tX8_moment (Nat.le_of_ble_eq_true rfl) rfl ?_
  refine q_aload_n rfl rfl ?_
  refine q_getI rfl hx_0 rfl (eln) ?_
  refine q_if_neN rfl (by omega) (fun hc4 => ?_) (fun hc4 => ?_)
  · refine q_aload_n rfl rfl ?_
    refine q_getfield rfl hx_0 rfl ?_
    refine q_iconst (v := nI 1) rfl rfl ?_
    refine q_callV1 rfl hx_8 (Nat.le_of_ble_eq_true rfl) (Nat.le_of_ble_eq_true rfl) (sN_room0 ed (by omega) (by omega) (by omega)) ?_
    refine q_if_neN rfl (by omega) (fun hc18 => ?_) (fun hc18 => ?_)
    · exact absurd hc18 (by decide)
    · refine q_bipush (v := (-2)) rfl rfl ?_
      refine q_iret rfl rfl ?_
      exact ⟨rfl, rfl⟩
  · omega
theorem c_moment_0 {X : XX} {I A : Nat → Nat → Int32} {J B : Nat → Nat → Int64} {F : Nat → Nat} (b : Nat) (hb : b ≤ 5) (eb : I 7 0 = nI b) (m : Nat) (em : I 8 2 = nI m) (hm : m ≤ 40) (s : Nat) (es : I 8 3 = nI s) (hs : s < 24) (ln : Nat) (hln : ln ≤ 5) (eln : I 0 12 = nI ln) (h0 : 0 < ln) (lks : ∀ i, i < 5 → lkOK I (40 + i)) (d : Nat) (hd : d < 40) (ed : I 8 1 = nI d)  : x_ev X xT 7 92 [.ref 0] (HX I A J B F) (some (.int (nI (nsum (fun i => gnN b (cL I (40 + i)) (nI s) m) ln)))) (HX (n4 I (nI (d + 1)) (nI (m + 1)) (nI s) (I 8 4)) (ua A 9 (upd (A 9) d 0)) J B F) := by
  refine q_ev (L := [some (.ref 0)]) tX8_moment (Nat.le_of_ble_eq_true rfl) rfl ?_
  refine q_aload_n rfl rfl ?_
  refine q_getI rfl hx_0 rfl (eln) ?_
  refine q_if_neN rfl (by omega) (fun hc4 => ?_) (fun hc4 => ?_)
  · refine q_aload_n rfl rfl ?_
    refine q_getfield rfl hx_0 rfl ?_
    refine q_iconst (v := nI 1) rfl rfl ?_
    refine q_callV1 rfl hx_8 (Nat.le_of_ble_eq_true rfl) (Nat.le_of_ble_eq_true rfl) (sN_room1 ed (by omega) (by omega) (by omega)) ?_
    refine q_if_neN rfl (by omega) (fun hc18 => ?_) (fun hc18 => ?_)
    · refine q_aload_n rfl rfl ?_
      refine q_callV0 rfl hx_0 (Nat.le_of_ble_eq_true rfl) (Nat.le_of_ble_eq_true rfl) (sX8_passMoment b hb eb m em (by omega) s es ln hln eln lks d hd ed) ?_
      refine q_iret rfl rfl ?_
      exact ⟨rfl, rfl⟩
    · exact absurd hc18 (by decide)
  · omega
theorem c_turn_bad {X : XX} {I A : Nat → Nat → Int32} {J B : Nat → Nat → Int64} {F : Nat → Nat} (x : Int32) (hx : x = 0 ∨ x < -6 ∨ nI 6 < x) : x_ev X xT 5 93 [.ref 0, .int x] (HX I A J B F) (some (.int (-1))) (HX I A J B F) := by
  refine q_ev (L := [some (.ref 0), some (.int x)]) tX8_turn (Nat.le_of_ble_eq_true rfl) rfl ?_
  refine q_iload_n rfl rfl ?_
  refine q_if_eq rfl (fun hc1 => ?_) (fun hc1 => ?_)
  · refine q_iconst (v := (-1)) rfl rfl ?_
    refine q_iret rfl rfl ?_
    exact ⟨rfl, rfl⟩
  · refine q_iload_n rfl rfl ?_
    refine q_bipush (v := (-6)) rfl rfl ?_
    refine q_icmp_lt rfl (fun hc7 => ?_) (fun hc7 => ?_)
    · refine q_iconst (v := (-1)) rfl rfl ?_
      refine q_iret rfl rfl ?_
      exact ⟨rfl, rfl⟩
    · refine q_iload_n rfl rfl ?_
      refine q_bipush (v := nI 6) rfl rfl ?_
      refine q_icmp_le rfl (fun hc13 => ?_) (fun hc13 => ?_)
      · exact absurd ((hx.resolve_left hc1).resolve_left hc7) (Int32.not_lt.mpr hc13)
      · refine q_iconst (v := (-1)) rfl rfl ?_
        refine q_iret rfl rfl ?_
        exact ⟨rfl, rfl⟩
theorem c_turn_S {X : XX} {I A : Nat → Nat → Int32} {J B : Nat → Nat → Int64} {F : Nat → Nat} (x : Int32) (x0 : ¬ x = 0) (x1 : ¬ x < -6) (x2 : x ≤ nI 6) (eln : I 0 12 = nI 0) : x_ev X xT 5 93 [.ref 0, .int x] (HX I A J B F) (some (.int (-4))) (HX I A J B F) := by
  refine q_ev (L := [some (.ref 0), some (.int x)]) tX8_turn (Nat.le_of_ble_eq_true rfl) rfl ?_
  refine q_iload_n rfl rfl ?_
  refine q_if_eq rfl (fun hc1 => ?_) (fun hc1 => ?_)
  · exact absurd hc1 x0
  · refine q_iload_n rfl rfl ?_
    refine q_bipush (v := (-6)) rfl rfl ?_
    refine q_icmp_lt rfl (fun hc7 => ?_) (fun hc7 => ?_)
    · exact absurd hc7 x1
    · refine q_iload_n rfl rfl ?_
      refine q_bipush (v := nI 6) rfl rfl ?_
      refine q_icmp_le rfl (fun hc13 => ?_) (fun hc13 => ?_)
      · refine q_aload_n rfl rfl ?_
        refine q_getI rfl hx_0 rfl (eln) ?_
        refine q_if_neN rfl (by omega) (fun hc22 => ?_) (fun hc22 => ?_)
        · exact absurd hc22 (by decide)
        · refine q_bipush (v := (-4)) rfl rfl ?_
          refine q_iret rfl rfl ?_
          exact ⟨rfl, rfl⟩
      · exact absurd x2 hc13
theorem c_turn_F {X : XX} {I A : Nat → Nat → Int32} {J B : Nat → Nat → Int64} {F : Nat → Nat} (x : Int32) (x0 : ¬ x = 0) (x1 : ¬ x < -6) (x2 : x ≤ nI 6) (ln : Nat) (hln : ln ≤ 5) (eln : I 0 12 = nI ln) (h0 : 0 < ln) (ed : I 8 1 = nI 40) : x_ev X xT 5 93 [.ref 0, .int x] (HX I A J B F) (some (.int (-2))) (HX I A J B F) := by
  refine q_ev (L := [some (.ref 0), some (.int x)]) tX8_turn (Nat.le_of_ble_eq_true rfl) rfl ?_
  refine q_iload_n rfl rfl ?_
  refine q_if_eq rfl (fun hc1 => ?_) (fun hc1 => ?_)
  · exact absurd hc1 x0
  · refine q_iload_n rfl rfl ?_
    refine q_bipush (v := (-6)) rfl rfl ?_
    refine q_icmp_lt rfl (fun hc7 => ?_) (fun hc7 => ?_)
    · exact absurd hc7 x1
    · refine q_iload_n rfl rfl ?_
      refine q_bipush (v := nI 6) rfl rfl ?_
      refine q_icmp_le rfl (fun hc13 => ?_) (fun hc13 => ?_)
      · refine q_aload_n rfl rfl ?_
        refine q_getI rfl hx_0 rfl (eln) ?_
        refine q_if_neN rfl (by omega) (fun hc22 => ?_) (fun hc22 => ?_)
        · refine q_aload_n rfl rfl ?_
          refine q_getfield rfl hx_0 rfl ?_
          refine q_iconst (v := nI 1) rfl rfl ?_
          refine q_callV1 rfl hx_8 (Nat.le_of_ble_eq_true rfl) (Nat.le_of_ble_eq_true rfl) (sN_room0 ed (by omega) (by omega) (by omega)) ?_
          refine q_if_neN rfl (by omega) (fun hc36 => ?_) (fun hc36 => ?_)
          · exact absurd hc36 (by decide)
          · refine q_bipush (v := (-2)) rfl rfl ?_
            refine q_iret rfl rfl ?_
            exact ⟨rfl, rfl⟩
        · omega
      · exact absurd x2 hc13
theorem c_turn_0 {X : XX} {I A : Nat → Nat → Int32} {J B : Nat → Nat → Int64} {F : Nat → Nat} (x : Int32) (x0 : ¬ x = 0) (x1 : ¬ x < -6) (x2 : x ≤ nI 6) (m : Nat) (em : I 8 2 = nI m) (hm : m ≤ 40) (s : Nat) (es : I 8 3 = nI s) (hs : s < 24) (ln : Nat) (hln : ln ≤ 5) (eln : I 0 12 = nI ln) (h0 : 0 < ln) (d : Nat) (hd : d < 40) (ed : I 8 1 = nI d)  : x_ev X xT 5 93 [.ref 0, .int x] (HX I A J B F) (some (.int (f_ef (I 7 1) (nI s) x))) (HX (n4 I (nI (d + 1)) (nI m) (nI (rdN (nI s + x))) (I 8 4 + f_ef (I 7 1) (nI s) x)) (ua A 9 (upd (A 9) d x)) J B F) := by
  refine q_ev (L := [some (.ref 0), some (.int x)]) tX8_turn (Nat.le_of_ble_eq_true rfl) rfl ?_
  refine q_iload_n rfl rfl ?_
  refine q_if_eq rfl (fun hc1 => ?_) (fun hc1 => ?_)
  · exact absurd hc1 x0
  · refine q_iload_n rfl rfl ?_
    refine q_bipush (v := (-6)) rfl rfl ?_
    refine q_icmp_lt rfl (fun hc7 => ?_) (fun hc7 => ?_)
    · exact absurd hc7 x1
    · refine q_iload_n rfl rfl ?_
      refine q_bipush (v := nI 6) rfl rfl ?_
      refine q_icmp_le rfl (fun hc13 => ?_) (fun hc13 => ?_)
      · refine q_aload_n rfl rfl ?_
        refine q_getI rfl hx_0 rfl (eln) ?_
        refine q_if_neN rfl (by omega) (fun hc22 => ?_) (fun hc22 => ?_)
        · refine q_aload_n rfl rfl ?_
          refine q_getfield rfl hx_0 rfl ?_
          refine q_iconst (v := nI 1) rfl rfl ?_
          refine q_callV1 rfl hx_8 (Nat.le_of_ble_eq_true rfl) (Nat.le_of_ble_eq_true rfl) (sN_room1 ed (by omega) (by omega) (by omega)) ?_
          refine q_if_neN rfl (by omega) (fun hc36 => ?_) (fun hc36 => ?_)
          · refine q_aload_n rfl rfl ?_
            refine q_getfield rfl hx_0 rfl ?_
            refine q_iload_n rfl rfl ?_
            refine q_aload_n rfl rfl ?_
            refine q_getfield rfl hx_0 rfl ?_
            refine q_callV2 rfl hx_8 (Nat.le_of_ble_eq_true rfl) (Nat.le_of_ble_eq_true rfl) (sN_turn ed em es hd x) ?_
            refine q_iret rfl rfl ?_
            exact ⟨rfl, rfl⟩
          · exact absurd hc36 (by decide)
        · omega
      · exact absurd x2 hc13
theorem c_undo_bad {X : XX} {I A : Nat → Nat → Int32} {J B : Nat → Nat → Int64} {F : Nat → Nat} (d : Nat) (hd : d ≤ 40) (ed : I 8 1 = nI d) (x : Int32) (hx : x < 0 ∨ nI d < x) : x_ev X xT 6 94 [.ref 0, .int x] (HX I A J B F) (some (.int (-1))) (HX I A J B F) := by
  refine q_ev (L := [some (.ref 0), some (.int x), none]) tX8_undo (Nat.le_of_ble_eq_true rfl) rfl ?_
  refine q_aload_n rfl rfl ?_
  refine q_getfield rfl hx_0 rfl ?_
  refine q_callV0 rfl hx_8 (Nat.le_of_ble_eq_true rfl) (Nat.le_of_ble_eq_true rfl) (sN_done ed) ?_
  refine q_istore_n (L' := [_, _, _]) rfl rfl ?_
  refine q_iload_n rfl rfl ?_
  refine q_if_lt rfl (fun hc9 => ?_) (fun hc9 => ?_)
  · refine q_iconst (v := (-1)) rfl rfl ?_
    refine q_iret rfl rfl ?_
    exact ⟨rfl, rfl⟩
  · refine q_iload_n rfl rfl ?_
    refine q_iload_n rfl rfl ?_
    refine q_icmp_le rfl (fun hc14 => ?_) (fun hc14 => ?_)
    · exact absurd (hx.resolve_left hc9) (Int32.not_lt.mpr hc14)
    · refine q_iconst (v := (-1)) rfl rfl ?_
      refine q_iret rfl rfl ?_
      exact ⟨rfl, rfl⟩
theorem c_undo_0 {X : XX} {I A : Nat → Nat → Int32} {J B : Nat → Nat → Int64} {F : Nat → Nat} (d : Nat) (hd : d ≤ 40) (ed : I 8 1 = nI d) (st : Nat) (e7 : I 7 1 = nI st) (n : Nat) (hn : n ≤ d) : x_ev X xT 6 94 [.ref 0, .int (nI n)] (HX I A J B F) (some (.int (nI (d - n)))) (HX (n4 I (nI n) (nI (rp st (A 9) n).1) (nI (rp st (A 9) n).2.1) (rp st (A 9) n).2.2) A J B F) := by
  refine q_ev (L := [some (.ref 0), some (.int (nI n)), none]) tX8_undo (Nat.le_of_ble_eq_true rfl) rfl ?_
  refine q_aload_n rfl rfl ?_
  refine q_getfield rfl hx_0 rfl ?_
  refine q_callV0 rfl hx_8 (Nat.le_of_ble_eq_true rfl) (Nat.le_of_ble_eq_true rfl) (sN_done ed) ?_
  refine q_istore_n (L' := [_, _, _]) rfl rfl ?_
  refine q_iload_n rfl rfl ?_
  refine q_if_ltN rfl (by omega) (fun hc9 => ?_) (fun hc9 => ?_)
  · omega
  · refine q_iload_n rfl rfl ?_
    refine q_iload_n rfl rfl ?_
    refine q_icmp_leN rfl (by omega) (by omega) (fun hc14 => ?_) (fun hc14 => ?_)
    · refine q_aload_n rfl rfl ?_
      refine q_getfield rfl hx_0 rfl ?_
      refine q_iload_n rfl rfl ?_
      refine q_aload_n rfl rfl ?_
      refine q_getfield rfl hx_0 rfl ?_
      refine q_callV2 rfl hx_8 (Nat.le_of_ble_eq_true rfl) (Nat.le_of_ble_eq_true rfl) (sX3_rewind n st (by omega) e7) ?_
      refine q_iload_n rfl rfl ?_
      refine q_iload_n rfl rfl ?_
      refine q_isubN rfl (hn) ?_
      refine q_iret rfl rfl ?_
      exact ⟨rfl, rfl⟩
    · omega
theorem c_keep_bad {X : XX} {I A : Nat → Nat → Int32} {J B : Nat → Nat → Int64} {F : Nat → Nat} (x : Int32) (hx : x < 0 ∨ nI 3 ≤ x)  : x_ev X xT 3 95 [.ref 0, .int x] (HX I A J B F) (some (.int (-1))) (HX I A J B F) := by
  refine q_ev (L := [some (.ref 0), some (.int x)]) tX8_keep (Nat.le_of_ble_eq_true rfl) rfl ?_
  refine q_iload_n rfl rfl ?_
  refine q_if_lt rfl (fun hc1 => ?_) (fun hc1 => ?_)
  · refine q_iconst (v := (-1)) rfl rfl ?_
    refine q_iret rfl rfl ?_
    exact ⟨rfl, rfl⟩
  · refine q_iload_n rfl rfl ?_
    refine q_aload_n rfl rfl ?_
    refine q_getfield rfl hx_0 rfl ?_
    refine q_alen rfl (by decide) hx_10 (by decide) (v := nI _) rfl ?_
    refine q_icmp_lt rfl (fun hc10 => ?_) (fun hc10 => ?_)
    · exact absurd hc10 (Int32.not_lt.mpr (hx.resolve_left hc1))
    · refine q_iconst (v := (-1)) rfl rfl ?_
      refine q_iret rfl rfl ?_
      exact ⟨rfl, rfl⟩
theorem c_on_bad {X : XX} {I A : Nat → Nat → Int32} {J B : Nat → Nat → Int64} {F : Nat → Nat} (x : Int32) (hx : x < 0 ∨ nI 3 ≤ x)  : x_ev X xT 3 96 [.ref 0, .int x] (HX I A J B F) (some (.int (-1))) (HX I A J B F) := by
  refine q_ev (L := [some (.ref 0), some (.int x)]) tX8_on (Nat.le_of_ble_eq_true rfl) rfl ?_
  refine q_iload_n rfl rfl ?_
  refine q_if_lt rfl (fun hc1 => ?_) (fun hc1 => ?_)
  · refine q_iconst (v := (-1)) rfl rfl ?_
    refine q_iret rfl rfl ?_
    exact ⟨rfl, rfl⟩
  · refine q_iload_n rfl rfl ?_
    refine q_aload_n rfl rfl ?_
    refine q_getfield rfl hx_0 rfl ?_
    refine q_alen rfl (by decide) hx_10 (by decide) (v := nI _) rfl ?_
    refine q_icmp_lt rfl (fun hc10 => ?_) (fun hc10 => ?_)
    · exact absurd hc10 (Int32.not_lt.mpr (hx.resolve_left hc1))
    · refine q_iconst (v := (-1)) rfl rfl ?_
      refine q_iret rfl rfl ?_
      exact ⟨rfl, rfl⟩
theorem c_keep_S {X : XX} {I A : Nat → Nat → Int32} {J B : Nat → Nat → Int64} {F : Nat → Nat} (k : Nat) (hk : k < 3) (eln : I 0 12 = nI 0) : x_ev X xT 3 95 [.ref 0, .int (nI k)] (HX I A J B F) (some (.int (-4))) (HX I A J B F) := by
  refine q_ev (L := [some (.ref 0), some (.int (nI k))]) tX8_keep (Nat.le_of_ble_eq_true rfl) rfl ?_
  refine q_iload_n rfl rfl ?_
  refine q_if_ltN rfl (by omega) (fun hc1 => ?_) (fun hc1 => ?_)
  · omega
  · refine q_iload_n rfl rfl ?_
    refine q_aload_n rfl rfl ?_
    refine q_getfield rfl hx_0 rfl ?_
    refine q_alen rfl (by decide) hx_10 (by decide) (v := nI _) rfl ?_
    refine q_icmp_ltN rfl (by omega) (by omega) (fun hc10 => ?_) (fun hc10 => ?_)
    · refine q_aload_n rfl rfl ?_
      refine q_getI rfl hx_0 rfl (eln) ?_
      refine q_if_neN rfl (by omega) (fun hc19 => ?_) (fun hc19 => ?_)
      · exact absurd hc19 (by decide)
      · refine q_bipush (v := (-4)) rfl rfl ?_
        refine q_iret rfl rfl ?_
        exact ⟨rfl, rfl⟩
    · omega
theorem c_keep_0 {X : XX} {I A : Nat → Nat → Int32} {J B : Nat → Nat → Int64} {F : Nat → Nat} (k : Nat) (hk : k < 3) (ln : Nat) (hln : ln ≤ 5) (eln : I 0 12 = nI ln) (h0 : 0 < ln) (d : Nat) (ed : I 8 1 = nI d) : x_ev X xT 3 95 [.ref 0, .int (nI k)] (HX I A J B F) (some (.int (nI d))) (HX (k4 I (45 + 2 * k) (I 8 1) (I 8 2) (I 8 3) (I 8 4)) (ua A (46 + 2 * k) (va_cpy (A 9) (A (46 + 2 * k)) 0 0 40)) J B F) := by
  refine q_ev (L := [some (.ref 0), some (.int (nI k))]) tX8_keep (Nat.le_of_ble_eq_true rfl) rfl ?_
  refine q_iload_n rfl rfl ?_
  refine q_if_ltN rfl (by omega) (fun hc1 => ?_) (fun hc1 => ?_)
  · omega
  · refine q_iload_n rfl rfl ?_
    refine q_aload_n rfl rfl ?_
    refine q_getfield rfl hx_0 rfl ?_
    refine q_alen rfl (by decide) hx_10 (by decide) (v := nI _) rfl ?_
    refine q_icmp_ltN rfl (by omega) (by omega) (fun hc10 => ?_) (fun hc10 => ?_)
    · refine q_aload_n rfl rfl ?_
      refine q_getI rfl hx_0 rfl (eln) ?_
      refine q_if_neN rfl (by omega) (fun hc19 => ?_) (fun hc19 => ?_)
      · refine q_aload_n rfl rfl ?_
        refine q_getfield rfl hx_0 rfl ?_
        refine q_iload_n rfl rfl ?_
        refine q_aald rfl hx_10 (by omega) (by decide) rfl (xr10_at k hk) ?_
        refine q_aload_n rfl rfl ?_
        refine q_getfield rfl hx_0 rfl ?_
        refine q_callV1 rfl (hx_kept k hk) (Nat.le_of_ble_eq_true rfl) (Nat.le_of_ble_eq_true rfl) (sN_keep k hk) ?_
        refine q_aload_n rfl rfl ?_
        refine q_getfield rfl hx_0 rfl ?_
        refine q_callV0 rfl hx_8 (Nat.le_of_ble_eq_true rfl) (Nat.le_of_ble_eq_true rfl) (sN_done (show _ = nI d from (u2_ne (by omega)).trans ((u2_ne (by omega)).trans ((u2_ne (by omega)).trans ((u2_ne (by omega)).trans ed))))) ?_
        refine q_iret rfl rfl ?_
        exact ⟨rfl, rfl⟩
      · omega
    · omega
theorem c_on_M {X : XX} {I A : Nat → Nat → Int32} {J B : Nat → Nat → Int64} {F : Nat → Nat} (k : Nat) (hk : k < 3) (ek : I (45 + 2 * k) 1 = -1) : x_ev X xT 3 96 [.ref 0, .int (nI k)] (HX I A J B F) (some (.int (-3))) (HX (u2 I 0 13 (nI 1)) (f_cnt A 19 1) J B F) := by
  refine q_ev (L := [some (.ref 0), some (.int (nI k))]) tX8_on (Nat.le_of_ble_eq_true rfl) rfl ?_
  refine q_iload_n rfl rfl ?_
  refine q_if_ltN rfl (by omega) (fun hc1 => ?_) (fun hc1 => ?_)
  · omega
  · refine q_iload_n rfl rfl ?_
    refine q_aload_n rfl rfl ?_
    refine q_getfield rfl hx_0 rfl ?_
    refine q_alen rfl (by decide) hx_10 (by decide) (v := nI _) rfl ?_
    refine q_icmp_ltN rfl (by omega) (by omega) (fun hc10 => ?_) (fun hc10 => ?_)
    · refine q_aload_n rfl rfl ?_
      refine q_getfield rfl hx_0 rfl ?_
      refine q_iload_n rfl rfl ?_
      refine q_aald rfl hx_10 (by omega) (by decide) rfl (xr10_at k hk) ?_
      refine q_callV0 rfl (hx_kept k hk) (Nat.le_of_ble_eq_true rfl) (Nat.le_of_ble_eq_true rfl) (sN_forg1 k hk ek) ?_
      refine q_if_eqN rfl (by omega) (fun hc24 => ?_) (fun hc24 => ?_)
      · exact absurd hc24 (by decide)
      · refine q_aload_n rfl rfl ?_
        refine q_iconst (v := nI 1) rfl rfl ?_
        refine q_callV1 rfl hx_0 (Nat.le_of_ble_eq_true rfl) (Nat.le_of_ble_eq_true rfl) (sX8_found 1 (by decide)) ?_
        refine q_iret rfl rfl ?_
        exact ⟨rfl, rfl⟩
    · omega
theorem c_on_0 {X : XX} {I A : Nat → Nat → Int32} {J B : Nat → Nat → Int64} {F : Nat → Nat} (k : Nat) (hk : k < 3) (d : Nat) (hd : d ≤ 40) (ek : I (45 + 2 * k) 1 = nI d) : x_ev X xT 3 96 [.ref 0, .int (nI k)] (HX I A J B F) (some (.int (nI d))) (HX (n4 I (I (45 + 2 * k) 1) (I (45 + 2 * k) 2) (I (45 + 2 * k) 3) (I (45 + 2 * k) 4)) (ua A 9 (va_cpy (A (46 + 2 * k)) (A 9) 0 0 40)) J B F) := by
  refine q_ev (L := [some (.ref 0), some (.int (nI k))]) tX8_on (Nat.le_of_ble_eq_true rfl) rfl ?_
  refine q_iload_n rfl rfl ?_
  refine q_if_ltN rfl (by omega) (fun hc1 => ?_) (fun hc1 => ?_)
  · omega
  · refine q_iload_n rfl rfl ?_
    refine q_aload_n rfl rfl ?_
    refine q_getfield rfl hx_0 rfl ?_
    refine q_alen rfl (by decide) hx_10 (by decide) (v := nI _) rfl ?_
    refine q_icmp_ltN rfl (by omega) (by omega) (fun hc10 => ?_) (fun hc10 => ?_)
    · refine q_aload_n rfl rfl ?_
      refine q_getfield rfl hx_0 rfl ?_
      refine q_iload_n rfl rfl ?_
      refine q_aald rfl hx_10 (by omega) (by decide) rfl (xr10_at k hk) ?_
      refine q_callV0 rfl (hx_kept k hk) (Nat.le_of_ble_eq_true rfl) (Nat.le_of_ble_eq_true rfl) (sN_forg0 k hk d hd ek) ?_
      refine q_if_eqN rfl (by omega) (fun hc24 => ?_) (fun hc24 => ?_)
      · refine q_aload_n rfl rfl ?_
        refine q_getfield rfl hx_0 rfl ?_
        refine q_aload_n rfl rfl ?_
        refine q_getfield rfl hx_0 rfl ?_
        refine q_iload_n rfl rfl ?_
        refine q_aald rfl hx_10 (by omega) (by decide) rfl (xr10_at k hk) ?_
        refine q_callV1 rfl hx_8 (Nat.le_of_ble_eq_true rfl) (Nat.le_of_ble_eq_true rfl) (sN_on k hk) ?_
        refine q_aload_n rfl rfl ?_
        refine q_getfield rfl hx_0 rfl ?_
        refine q_callV0 rfl hx_8 (Nat.le_of_ble_eq_true rfl) (Nat.le_of_ble_eq_true rfl) (sN_done (show _ = nI d from ek)) ?_
        refine q_iret rfl rfl ?_
        exact ⟨rfl, rfl⟩
      · exact absurd hc24 (by decide)
    · omega
theorem c_place_bad {X : XX} {I A : Nat → Nat → Int32} {J B : Nat → Nat → Int64} {F : Nat → Nat} (x : Int32) (hx : x < 0 ∨ I 0 12 ≤ x) (n : Int32) : x_ev X xT 4 97 [.ref 0, .int x, .int n] (HX I A J B F) (some (.int (-1))) (HX I A J B F) := by
  refine q_ev (L := [some (.ref 0), some (.int x), some (.int n), none]) tX8_place (Nat.le_of_ble_eq_true rfl) rfl ?_
  refine q_aload_n rfl rfl ?_
  refine q_iload_n rfl rfl ?_
  refine q_callV1 rfl hx_0 (Nat.le_of_ble_eq_true rfl) (Nat.le_of_ble_eq_true rfl) (sX8_lightAtN x hx) ?_
  refine q_astore_nN (L' := [_, _, _, _]) rfl rfl ?_
  refine q_aload_nN rfl rfl ?_
  refine q_ifnullN rfl ?_
  refine q_iconst (v := (-1)) rfl rfl ?_
  refine q_iret rfl rfl ?_
  exact ⟨rfl, rfl⟩
theorem c_place_n {X : XX} {I A : Nat → Nat → Int32} {J B : Nat → Nat → Int64} {F : Nat → Nat} (ln : Nat) (hln : ln ≤ 5) (eln : I 0 12 = nI ln) (k : Nat) (hk : k < ln) (n : Int32) (hn : n < 0 ∨ nI 99 < n)  : x_ev X xT 4 97 [.ref 0, .int (nI k), .int n] (HX I A J B F) (some (.int (-1))) (HX I A J B F) := by
  refine q_ev (L := [some (.ref 0), some (.int (nI k)), some (.int n), none]) tX8_place (Nat.le_of_ble_eq_true rfl) rfl ?_
  refine q_aload_n rfl rfl ?_
  refine q_iload_n rfl rfl ?_
  refine q_callV1 rfl hx_0 (Nat.le_of_ble_eq_true rfl) (Nat.le_of_ble_eq_true rfl) (sX8_lightAt k ln hk hln eln) ?_
  refine q_astore_n (L' := [_, _, _, _]) rfl rfl ?_
  refine q_aload_n rfl rfl ?_
  refine q_ifnull rfl ?_
  refine q_iload_n rfl rfl ?_
  refine q_callS1 rfl rfl (Nat.le_of_ble_eq_true rfl) (Nat.le_of_ble_eq_true rfl) (sK_far1 n hn) ?_
  refine q_if_eqN rfl (by omega) (fun hc14 => ?_) (fun hc14 => ?_)
  · exact absurd hc14 (by decide)
  · refine q_iconst (v := (-1)) rfl rfl ?_
    refine q_iret rfl rfl ?_
    exact ⟨rfl, rfl⟩
theorem cL_u {I : Nat → Nat → Int32} {k : Nat} {v : Int32} : cL (u2 I 0 14 v) (40 + k) = cL I (40 + k) := by
  unfold cL
  rw [u2_ne (by omega), u2_ne (by omega), u2_ne (by omega), u2_ne (by omega)]
theorem lkOK_u {I : Nat → Nat → Int32} {k : Nat} {v : Int32} (h : lkOK I (40 + k)) : lkOK (u2 I 0 14 v) (40 + k) := by
  unfold lkOK
  rw [cL_u, u2_ne (by omega)]
  exact h
theorem c_place_0 {X : XX} {I A : Nat → Nat → Int32} {J B : Nat → Nat → Int64} {F : Nat → Nat} (m : Nat) (em : I 8 2 = nI m) (hm : m ≤ 40) (ln : Nat) (hln : ln ≤ 5) (eln : I 0 12 = nI ln) (lks : ∀ i, i < 5 → lkOK I (40 + i)) (k : Nat) (hk : k < ln) (n : Nat) (hn : n < 100)  : x_ev X xT 4 97 [.ref 0, .int (nI k), .int (nI n)] (HX I A J B F) (some (.int (nI (plN (cL I (40 + k)) (m + n))))) (HX (u2 I 0 14 (nI (brN (cL I (40 + k)) (m + n)))) A J B F) := by
  refine q_ev (L := [some (.ref 0), some (.int (nI k)), some (.int (nI n)), none]) tX8_place (Nat.le_of_ble_eq_true rfl) rfl ?_
  refine q_aload_n rfl rfl ?_
  refine q_iload_n rfl rfl ?_
  refine q_callV1 rfl hx_0 (Nat.le_of_ble_eq_true rfl) (Nat.le_of_ble_eq_true rfl) (sX8_lightAt k ln hk hln eln) ?_
  refine q_astore_n (L' := [_, _, _, _]) rfl rfl ?_
  refine q_aload_n rfl rfl ?_
  refine q_ifnull rfl ?_
  refine q_iload_n rfl rfl ?_
  refine q_callS1 rfl rfl (Nat.le_of_ble_eq_true rfl) (Nat.le_of_ble_eq_true rfl) (sK_far0 n hn) ?_
  refine q_if_eqN rfl (by omega) (fun hc14 => ?_) (fun hc14 => ?_)
  · refine q_aload_n rfl rfl ?_
    refine q_aload_n rfl rfl ?_
    refine q_aload_n rfl rfl ?_
    refine q_getfield rfl hx_0 rfl ?_
    refine q_callV0 rfl hx_8 (Nat.le_of_ble_eq_true rfl) (Nat.le_of_ble_eq_true rfl) (sN_now em) ?_
    refine q_iload_n rfl rfl ?_
    refine q_iaddN rfl ?_
    refine q_callV1 rfl (hx_light k (by omega)) (Nat.le_of_ble_eq_true rfl) (Nat.le_of_ble_eq_true rfl) (sK_bright (hx_light k (by omega)) (lks k (by omega)) _ (by omega)) ?_
    refine q_putfield rfl hx_0 rfl (Nat.le_of_ble_eq_true rfl) (rfl) (by decide +kernel) ?_
    refine q_heap (hs_0_14 _) ?_
    refine q_aload_n rfl rfl ?_
    refine q_aload_n rfl rfl ?_
    refine q_getfield rfl hx_0 rfl ?_
    refine q_callV0 rfl hx_8 (Nat.le_of_ble_eq_true rfl) (Nat.le_of_ble_eq_true rfl) (sN_now (show u2 I 0 14 _ 8 2 = nI m from em)) ?_
    refine q_iload_n rfl rfl ?_
    refine q_iaddN rfl ?_
    refine q_callV1 rfl (hx_light k (by omega)) (Nat.le_of_ble_eq_true rfl) (Nat.le_of_ble_eq_true rfl) (sK_place (I := u2 I 0 14 (nI (brN (cL I (40 + k)) (m + n)))) (a := 40 + k) (hx_light k (by omega)) (lkOK_u (lks k (by omega))) (m + n)) ?_
    refine q_iret rfl rfl ?_
    exact ⟨vI (by rw [cL_u]), rfl⟩
  · exact absurd hc14 (by decide)
theorem c_gets_bad {X : XX} {I A : Nat → Nat → Int32} {J B : Nat → Nat → Int64} {F : Nat → Nat} (x : Int32) (hx : x < 0 ∨ I 0 12 ≤ x) (n : Int32) : x_ev X xT 6 98 [.ref 0, .int x, .int n] (HX I A J B F) (some (.int (-1))) (HX I A J B F) := by
  refine q_ev (L := [some (.ref 0), some (.int x), some (.int n), none]) tX8_gets (Nat.le_of_ble_eq_true rfl) rfl ?_
  refine q_aload_n rfl rfl ?_
  refine q_iload_n rfl rfl ?_
  refine q_callV1 rfl hx_0 (Nat.le_of_ble_eq_true rfl) (Nat.le_of_ble_eq_true rfl) (sX8_lightAtN x hx) ?_
  refine q_astore_nN (L' := [_, _, _, _]) rfl rfl ?_
  refine q_aload_nN rfl rfl ?_
  refine q_ifnullN rfl ?_
  refine q_iconst (v := (-1)) rfl rfl ?_
  refine q_iret rfl rfl ?_
  exact ⟨rfl, rfl⟩
theorem c_gets_n {X : XX} {I A : Nat → Nat → Int32} {J B : Nat → Nat → Int64} {F : Nat → Nat} (ln : Nat) (hln : ln ≤ 5) (eln : I 0 12 = nI ln) (k : Nat) (hk : k < ln) (n : Int32) (hn : n < 0 ∨ nI 99 < n)  : x_ev X xT 6 98 [.ref 0, .int (nI k), .int n] (HX I A J B F) (some (.int (-1))) (HX I A J B F) := by
  refine q_ev (L := [some (.ref 0), some (.int (nI k)), some (.int n), none]) tX8_gets (Nat.le_of_ble_eq_true rfl) rfl ?_
  refine q_aload_n rfl rfl ?_
  refine q_iload_n rfl rfl ?_
  refine q_callV1 rfl hx_0 (Nat.le_of_ble_eq_true rfl) (Nat.le_of_ble_eq_true rfl) (sX8_lightAt k ln hk hln eln) ?_
  refine q_astore_n (L' := [_, _, _, _]) rfl rfl ?_
  refine q_aload_n rfl rfl ?_
  refine q_ifnull rfl ?_
  refine q_iload_n rfl rfl ?_
  refine q_callS1 rfl rfl (Nat.le_of_ble_eq_true rfl) (Nat.le_of_ble_eq_true rfl) (sK_far1 n hn) ?_
  refine q_if_eqN rfl (by omega) (fun hc14 => ?_) (fun hc14 => ?_)
  · exact absurd hc14 (by decide)
  · refine q_iconst (v := (-1)) rfl rfl ?_
    refine q_iret rfl rfl ?_
    exact ⟨rfl, rfl⟩
theorem c_gets_0 {X : XX} {I A : Nat → Nat → Int32} {J B : Nat → Nat → Int64} {F : Nat → Nat} (b : Nat) (hb : b ≤ 5) (eb : I 7 0 = nI b) (m : Nat) (em : I 8 2 = nI m) (hm : m ≤ 40) (s : Nat) (es : I 8 3 = nI s) (hs : s < 24) (ln : Nat) (hln : ln ≤ 5) (eln : I 0 12 = nI ln) (lks : ∀ i, i < 5 → lkOK I (40 + i)) (k : Nat) (hk : k < ln) (n : Nat) (hn : n < 100)  : x_ev X xT 6 98 [.ref 0, .int (nI k), .int (nI n)] (HX I A J B F) (some (.int (nI (gnN b (cL I (40 + k)) (nI s) (m + n))))) (HX I A J B F) := by
  refine q_ev (L := [some (.ref 0), some (.int (nI k)), some (.int (nI n)), none]) tX8_gets (Nat.le_of_ble_eq_true rfl) rfl ?_
  refine q_aload_n rfl rfl ?_
  refine q_iload_n rfl rfl ?_
  refine q_callV1 rfl hx_0 (Nat.le_of_ble_eq_true rfl) (Nat.le_of_ble_eq_true rfl) (sX8_lightAt k ln hk hln eln) ?_
  refine q_astore_n (L' := [_, _, _, _]) rfl rfl ?_
  refine q_aload_n rfl rfl ?_
  refine q_ifnull rfl ?_
  refine q_iload_n rfl rfl ?_
  refine q_callS1 rfl rfl (Nat.le_of_ble_eq_true rfl) (Nat.le_of_ble_eq_true rfl) (sK_far0 n hn) ?_
  refine q_if_eqN rfl (by omega) (fun hc14 => ?_) (fun hc14 => ?_)
  · refine q_aload_n rfl rfl ?_
    refine q_aload_n rfl rfl ?_
    refine q_iload_n rfl rfl ?_
    refine q_callV2 rfl hx_0 (Nat.le_of_ble_eq_true rfl) (Nat.le_of_ble_eq_true rfl) (sX8_gainIn b hb eb m em (by omega) s es (40 + k) (hx_light k (by omega)) (lks k (by omega)) n (by omega)) ?_
    refine q_iret rfl rfl ?_
    exact ⟨rfl, rfl⟩
  · exact absurd hc14 (by decide)
theorem c_seen_n {X : XX} {I A : Nat → Nat → Int32} {J B : Nat → Nat → Int64} {F : Nat → Nat} (n : Int32) (hn : n < 0 ∨ nI 99 < n)  : x_ev X xT 6 99 [.ref 0, .int n] (HX I A J B F) (some (.int (-1))) (HX I A J B F) := by
  refine q_ev (L := [some (.ref 0), some (.int n), none, none]) tX8_seen (Nat.le_of_ble_eq_true rfl) rfl ?_
  refine q_iload_n rfl rfl ?_
  refine q_callS1 rfl rfl (Nat.le_of_ble_eq_true rfl) (Nat.le_of_ble_eq_true rfl) (sK_far1 n hn) ?_
  refine q_if_eqN rfl (by omega) (fun hc4 => ?_) (fun hc4 => ?_)
  · exact absurd hc4 (by decide)
  · refine q_iconst (v := (-1)) rfl rfl ?_
    refine q_iret rfl rfl ?_
    exact ⟨rfl, rfl⟩
theorem c_seen_0 {X : XX} {I A : Nat → Nat → Int32} {J B : Nat → Nat → Int64} {F : Nat → Nat} (b : Nat) (hb : b ≤ 5) (eb : I 7 0 = nI b) (m : Nat) (em : I 8 2 = nI m) (hm : m ≤ 40) (s : Nat) (es : I 8 3 = nI s) (hs : s < 24) (ln : Nat) (hln : ln ≤ 5) (eln : I 0 12 = nI ln) (lks : ∀ i, i < 5 → lkOK I (40 + i)) (n : Nat) (hn : n < 100)  : x_ev X xT 6 99 [.ref 0, .int (nI n)] (HX I A J B F) (some (.int (orf (fun i => decide (0 < gnN b (cL I (40 + i)) (nI s) (m + n))) ln))) (HX I A J B F) := by
  refine q_ev (L := [some (.ref 0), some (.int (nI n)), none, none]) tX8_seen (Nat.le_of_ble_eq_true rfl) rfl ?_
  refine q_iload_n rfl rfl ?_
  refine q_callS1 rfl rfl (Nat.le_of_ble_eq_true rfl) (Nat.le_of_ble_eq_true rfl) (sK_far0 n hn) ?_
  refine q_if_eqN rfl (by omega) (fun hc4 => ?_) (fun hc4 => ?_)
  · refine q_iconst (v := 0) rfl rfl ?_
    refine q_istore_n (L' := [_, _, _, _]) rfl rfl ?_
    refine q_iconst (v := nI 0) rfl rfl ?_
    refine q_istore_n (L' := [_, _, _, _]) rfl rfl ?_
    refine q_up (Inv := fun k L h => L = [some (.ref 0), some (.int (nI n)), some (.int (orf (fun i => decide (0 < gnN b (cL I (40 + i)) (nI s) (m + n))) k)), some (.int (nI k))] ∧ h = HX I A J B F) (ln) (fun k L h hk_k hi_k ih_k => ?_) (fun L h hi_k => ?_) (0) _ _ (by omega) (⟨rfl, rfl⟩)
    · obtain ⟨rfl, rfl⟩ := hi_k
      refine q_iload_n rfl rfl ?_
      refine q_aload_n rfl rfl ?_
      refine q_getI rfl hx_0 rfl (eln) ?_
      refine q_icmp_geN rfl (by omega) (by omega) (fun hcks18 => ?_) (fun hcks18 => ?_)
      · omega
      · refine q_iload_n rfl rfl ?_
        refine q_aload_n rfl rfl ?_
        refine q_getfield rfl hx_0 rfl ?_
        refine q_alen rfl (by decide) hx_5 (by decide) (v := nI _) rfl ?_
        refine q_icmp_geN rfl (by omega) (by omega) (fun hcks27 => ?_) (fun hcks27 => ?_)
        · omega
        · refine q_aload_n rfl rfl ?_
          refine q_aload_n rfl rfl ?_
          refine q_getfield rfl hx_0 rfl ?_
          refine q_iload_n rfl rfl ?_
          refine q_aald rfl hx_5 (by omega) (by decide) rfl (xr5_at k (by omega)) ?_
          refine q_iload_n rfl rfl ?_
          refine q_callV2 rfl hx_0 (Nat.le_of_ble_eq_true rfl) (Nat.le_of_ble_eq_true rfl) (sX8_gainIn b hb eb m em (by omega) s es (40 + k) (hx_light k (by omega)) (lks k (by omega)) n (by omega)) ?_
          refine q_if_leN rfl (by have := gnN_le (b := b) (fi := nI s) (m := m + n) (lks k (by omega)).1.2; omega) (fun hcks41 => ?_) (fun hcks41 => ?_)
          · refine q_iincN (c := 1) (L' := [_, _, _, _]) rfl rfl rfl rfl ?_
            refine q_goto rfl ?_
            exact ih_k _ _ (⟨by rw [show ∀ p j, orf p (j + 1) = if p j = true then orf p j ||| (nI 1 <<< (nI j &&& 31)) else orf p j from fun _ _ => rfl]; first | rw [if_pos (decide_eq_true (by omega))] | rw [if_neg (by rw [decide_eq_false (by omega)]; decide)], rfl⟩)
          · refine q_iload_n rfl rfl ?_
            refine q_iconst (v := nI 1) rfl rfl ?_
            refine q_iload_n rfl rfl ?_
            refine q_ishl rfl ?_
            refine q_ior rfl ?_
            refine q_istore_n (L' := [_, _, _, _]) rfl rfl ?_
            refine q_iincN (c := 1) (L' := [_, _, _, _]) rfl rfl rfl rfl ?_
            refine q_goto rfl ?_
            exact ih_k _ _ (⟨by rw [show ∀ p j, orf p (j + 1) = if p j = true then orf p j ||| (nI 1 <<< (nI j &&& 31)) else orf p j from fun _ _ => rfl]; first | rw [if_pos (decide_eq_true (by omega))] | rw [if_neg (by rw [decide_eq_false (by omega)]; decide)], rfl⟩)
    · obtain ⟨rfl, rfl⟩ := hi_k
      refine q_iload_n rfl rfl ?_
      refine q_aload_n rfl rfl ?_
      refine q_getI rfl hx_0 rfl (eln) ?_
      refine q_icmp_geN rfl (by omega) (by omega) (fun hckf18 => ?_) (fun hckf18 => ?_)
      · refine q_iload_n rfl rfl ?_
        refine q_iret rfl rfl ?_
        exact ⟨rfl, rfl⟩
      · omega
  · exact absurd hc4 (by decide)
theorem c_stays_bad {X : XX} {I A : Nat → Nat → Int32} {J B : Nat → Nat → Int64} {F : Nat → Nat} (x : Int32) (hx : x < 0 ∨ I 0 12 ≤ x)  : x_ev X xT 6 100 [.ref 0, .int x] (HX I A J B F) (some (.int (-1))) (HX I A J B F) := by
  refine q_ev (L := [some (.ref 0), some (.int x), none, none]) tX8_stays (Nat.le_of_ble_eq_true rfl) rfl ?_
  refine q_aload_n rfl rfl ?_
  refine q_iload_n rfl rfl ?_
  refine q_callV1 rfl hx_0 (Nat.le_of_ble_eq_true rfl) (Nat.le_of_ble_eq_true rfl) (sX8_lightAtN x hx) ?_
  refine q_astore_nN (L' := [_, _, _, _]) rfl rfl ?_
  refine q_aload_nN rfl rfl ?_
  refine q_ifnonnullN rfl ?_
  refine q_iconst (v := (-1)) rfl rfl ?_
  refine q_iret rfl rfl ?_
  exact ⟨rfl, rfl⟩
theorem c_stays_0 {X : XX} {I A : Nat → Nat → Int32} {J B : Nat → Nat → Int64} {F : Nat → Nat} (b : Nat) (hb : b ≤ 5) (eb : I 7 0 = nI b) (m : Nat) (em : I 8 2 = nI m) (hm : m ≤ 40) (s : Nat) (es : I 8 3 = nI s) (hs : s < 24) (ln : Nat) (hln : ln ≤ 5) (eln : I 0 12 = nI ln) (lks : ∀ i, i < 5 → lkOK I (40 + i)) (k : Nat) (hk : k < ln)  : x_ev X xT 6 100 [.ref 0, .int (nI k)] (HX I A J B F) (some (.int (nI (lrun (syP b (cL I (40 + k)) m s) 100 0)))) (HX I A J B F) := by
  refine q_ev (L := [some (.ref 0), some (.int (nI k)), none, none]) tX8_stays (Nat.le_of_ble_eq_true rfl) rfl ?_
  refine q_aload_n rfl rfl ?_
  refine q_iload_n rfl rfl ?_
  refine q_callV1 rfl hx_0 (Nat.le_of_ble_eq_true rfl) (Nat.le_of_ble_eq_true rfl) (sX8_lightAt k ln hk hln eln) ?_
  refine q_astore_n (L' := [_, _, _, _]) rfl rfl ?_
  refine q_aload_n rfl rfl ?_
  refine q_ifnonnull rfl ?_
  refine q_iconst (v := nI 0) rfl rfl ?_
  refine q_istore_n (L' := [_, _, _, _]) rfl rfl ?_
  refine q_up (Inv := fun n L h => L = [some (.ref 0), some (.int (nI k)), some (.ref (40 + k)), some (.int (nI n))] ∧ h = HX I A J B F ∧ lrun (syP b (cL I (40 + k)) m s) (100 - n) n = lrun (syP b (cL I (40 + k)) m s) 100 0) (100) (fun n L h hk_n hi_n ih_n => ?_) (fun L h hi_n => ?_) (0) _ _ (by omega) (⟨rfl, rfl, rfl⟩)
  · obtain ⟨rfl, rfl, hr⟩ := hi_n
    refine q_iload_n rfl rfl ?_
    refine q_bipush (v := nI 100) rfl rfl ?_
    refine q_icmp_geN rfl (by omega) (by omega) (fun hcns17 => ?_) (fun hcns17 => ?_)
    · omega
    · refine q_aload_n rfl rfl ?_
      refine q_aload_n rfl rfl ?_
      refine q_iload_n rfl rfl ?_
      refine q_callV2 rfl hx_0 (Nat.le_of_ble_eq_true rfl) (Nat.le_of_ble_eq_true rfl) (sX8_gainIn b hb eb m em (by omega) s es (40 + k) (hx_light k (by omega)) (lks k (by omega)) n (by omega)) ?_
      refine q_if_leN rfl (by have := gnN_le (b := b) (fi := nI s) (m := m + n) (lks k (by omega)).1.2; omega) (fun hcns26 => ?_) (fun hcns26 => ?_)
      · refine q_iload_n rfl rfl ?_
        refine q_iret rfl rfl ?_
        exact ⟨vI (by rw [← hr, lrun_f (decide_eq_false (by omega))]), rfl⟩
      · refine q_iincN (c := 1) (L' := [_, _, _, _]) rfl rfl rfl rfl ?_
        refine q_goto rfl ?_
        exact ih_n _ _ (⟨rfl, rfl, by rw [← hr, ← lrun_t hk_n (decide_eq_true (by omega))]⟩)
  · obtain ⟨rfl, rfl, hr⟩ := hi_n
    refine q_iload_n rfl rfl ?_
    refine q_bipush (v := nI 100) rfl rfl ?_
    refine q_icmp_geN rfl (by omega) (by omega) (fun hcnf17 => ?_) (fun hcnf17 => ?_)
    · refine q_iload_n rfl rfl ?_
      refine q_iret rfl rfl ?_
      exact ⟨vI (by rw [← hr]; rfl), rfl⟩
    · omega
theorem c_ahead_bad {X : XX} {I A : Nat → Nat → Int32} {J B : Nat → Nat → Int64} {F : Nat → Nat} (x : Int32) (hx : x < 0 ∨ I 0 12 ≤ x)  : x_ev X xT 5 101 [.ref 0, .int x] (HX I A J B F) (some (.int (-1))) (HX I A J B F) := by
  refine q_ev (L := [some (.ref 0), some (.int x), none, none, none, none, none]) tX8_ahead (Nat.le_of_ble_eq_true rfl) rfl ?_
  refine q_aload_n rfl rfl ?_
  refine q_iload_n rfl rfl ?_
  refine q_callV1 rfl hx_0 (Nat.le_of_ble_eq_true rfl) (Nat.le_of_ble_eq_true rfl) (sX8_lightAtN x hx) ?_
  refine q_astore_nN (L' := [_, _, _, _, _, _, _]) rfl rfl ?_
  refine q_aload_nN rfl rfl ?_
  refine q_ifnonnullN rfl ?_
  refine q_iconst (v := (-1)) rfl rfl ?_
  refine q_iret rfl rfl ?_
  exact ⟨rfl, rfl⟩
theorem c_ahead_0 {X : XX} {I A : Nat → Nat → Int32} {J B : Nat → Nat → Int64} {F : Nat → Nat} (b : Nat) (hb : b ≤ 5) (eb : I 7 0 = nI b) (m : Nat) (em : I 8 2 = nI m) (hm : m ≤ 40) (ln : Nat) (hln : ln ≤ 5) (eln : I 0 12 = nI ln) (lks : ∀ i, i < 5 → lkOK I (40 + i)) (k : Nat) (hk : k < ln)  : x_ev X xT 5 101 [.ref 0, .int (nI k)] (HX I A J B F) (some (.int (nI (abf (fun f => lrun (ovP b (cL I (40 + k)) m f) 100 0) 24).1))) (HX (u2 I 0 14 (sI 1 (abf (fun f => lrun (ovP b (cL I (40 + k)) m f) 100 0) 24).2)) A J B F) := by
  have hG : ∀ f, (fun f => lrun (ovP b (cL I (40 + k)) m f) 100 0) f ≤ 100 := fun f => by have := lrun_le (p := ovP b (cL I (40 + k)) m f) 100 0; omega
  refine q_ev (L := [some (.ref 0), some (.int (nI k)), none, none, none, none, none]) tX8_ahead (Nat.le_of_ble_eq_true rfl) rfl ?_
  refine q_aload_n rfl rfl ?_
  refine q_iload_n rfl rfl ?_
  refine q_callV1 rfl hx_0 (Nat.le_of_ble_eq_true rfl) (Nat.le_of_ble_eq_true rfl) (sX8_lightAt k ln hk hln eln) ?_
  refine q_astore_n (L' := [_, _, _, _, _, _, _]) rfl rfl ?_
  refine q_aload_n rfl rfl ?_
  refine q_ifnonnull rfl ?_
  refine q_iconst (v := nI 0) rfl rfl ?_
  refine q_istore_n (L' := [_, _, _, _, _, _, _]) rfl rfl ?_
  refine q_iconst (v := (-1)) rfl rfl ?_
  refine q_istore (L' := [_, _, _, _, _, _, _]) rfl rfl ?_
  refine q_iconst (v := nI 0) rfl rfl ?_
  refine q_istore (L' := [_, _, _, _, _, _, _]) rfl rfl ?_
  refine q_up (Inv := fun f L h => ∃ z, L = [some (.ref 0), some (.int (nI k)), some (.ref (40 + k)), some (.int (nI (abf (fun f => lrun (ovP b (cL I (40 + k)) m f) 100 0) f).1)), some (.int (sI 1 (abf (fun f => lrun (ovP b (cL I (40 + k)) m f) 100 0) f).2)), some (.int (nI f)), z] ∧ h = HX I A J B F) (24) (fun f L h hk_f hi_f ih_f => ?_) (fun L h hi_f => ?_) (0) _ _ (by omega) (⟨_, rfl, rfl⟩)
  · obtain ⟨z, rfl, rfl⟩ := hi_f
    refine q_iload rfl rfl ?_
    refine q_bipush (v := nI 24) rfl rfl ?_
    refine q_icmp_geN rfl (by omega) (by omega) (fun hcfs24 => ?_) (fun hcfs24 => ?_)
    · omega
    · refine q_aload_n rfl rfl ?_
      refine q_aload_n rfl rfl ?_
      refine q_iload rfl rfl ?_
      refine q_callV2 rfl hx_0 (Nat.le_of_ble_eq_true rfl) (Nat.le_of_ble_eq_true rfl) (sX8_overFor b hb eb m em (by omega) (40 + k) (hx_light k (by omega)) (lks k (by omega)) f) ?_
      refine q_istore (L' := [_, _, _, _, _, _, _]) rfl rfl ?_
      refine q_iload rfl rfl ?_
      refine q_iload rfl rfl ?_
      refine q_icmp_le rfl (fun hcfs40 => ?_) (fun hcfs40 => ?_)
      · refine q_iincN (c := 1) (L' := [_, _, _, _, _, _, _]) rfl rfl rfl rfl ?_
        refine q_goto rfl ?_
        exact ih_f _ _ (⟨_, by rw [show ∀ g j, abf g (j + 1) = if g j + 1 ≤ (abf g j).2 then abf g j else (j, g j + 1) from fun _ _ => rfl]; first | rw [if_pos ((sI1_le (Nat.lt_of_le_of_lt (hG f) (by decide)) (Nat.lt_of_le_of_lt (abf_2 hG f) (by decide))).mp hcfs40)] | (rw [if_neg (fun z => hcfs40 ((sI1_le (Nat.lt_of_le_of_lt (hG f) (by decide)) (Nat.lt_of_le_of_lt (abf_2 hG f) (by decide))).mpr z)), sI1_s (lrun (ovP b (cL I (40 + k)) m f) 100 0)]; try rfl), rfl⟩)
      · refine q_iload rfl rfl ?_
        refine q_istore (L' := [_, _, _, _, _, _, _]) rfl rfl ?_
        refine q_iload rfl rfl ?_
        refine q_istore_n (L' := [_, _, _, _, _, _, _]) rfl rfl ?_
        refine q_iincN (c := 1) (L' := [_, _, _, _, _, _, _]) rfl rfl rfl rfl ?_
        refine q_goto rfl ?_
        exact ih_f _ _ (⟨_, by rw [show ∀ g j, abf g (j + 1) = if g j + 1 ≤ (abf g j).2 then abf g j else (j, g j + 1) from fun _ _ => rfl]; first | rw [if_pos ((sI1_le (Nat.lt_of_le_of_lt (hG f) (by decide)) (Nat.lt_of_le_of_lt (abf_2 hG f) (by decide))).mp hcfs40)] | (rw [if_neg (fun z => hcfs40 ((sI1_le (Nat.lt_of_le_of_lt (hG f) (by decide)) (Nat.lt_of_le_of_lt (abf_2 hG f) (by decide))).mpr z)), sI1_s (lrun (ovP b (cL I (40 + k)) m f) 100 0)]; try rfl), rfl⟩)
  · obtain ⟨z, rfl, rfl⟩ := hi_f
    refine q_iload rfl rfl ?_
    refine q_bipush (v := nI 24) rfl rfl ?_
    refine q_icmp_geN rfl (by omega) (by omega) (fun hcff24 => ?_) (fun hcff24 => ?_)
    · refine q_aload_n rfl rfl ?_
      refine q_iload rfl rfl ?_
      refine q_putfield rfl hx_0 rfl (Nat.le_of_ble_eq_true rfl) (rfl) (by decide +kernel) ?_
      refine q_heap (hs_0_14 _) ?_
      refine q_iload_n rfl rfl ?_
      refine q_iret rfl rfl ?_
      exact ⟨rfl, rfl⟩
    · omega
theorem c_effort_bad {X : XX} {I A : Nat → Nat → Int32} {J B : Nat → Nat → Int64} {F : Nat → Nat} (x : Int32) (hx : x < -6 ∨ nI 6 < x) : x_ev X xT 4 102 [.ref 0, .int x] (HX I A J B F) (some (.int (-1))) (HX I A J B F) := by
  refine q_ev (L := [some (.ref 0), some (.int x)]) tX8_effort (Nat.le_of_ble_eq_true rfl) rfl ?_
  refine q_iload_n rfl rfl ?_
  refine q_bipush (v := (-6)) rfl rfl ?_
  refine q_icmp_lt rfl (fun hc3 => ?_) (fun hc3 => ?_)
  · refine q_iconst (v := (-1)) rfl rfl ?_
    refine q_iret rfl rfl ?_
    exact ⟨rfl, rfl⟩
  · refine q_iload_n rfl rfl ?_
    refine q_bipush (v := nI 6) rfl rfl ?_
    refine q_icmp_le rfl (fun hc9 => ?_) (fun hc9 => ?_)
    · exact absurd (hx.resolve_left hc3) (Int32.not_lt.mpr hc9)
    · refine q_iconst (v := (-1)) rfl rfl ?_
      refine q_iret rfl rfl ?_
      exact ⟨rfl, rfl⟩
theorem c_effort_0 {X : XX} {I A : Nat → Nat → Int32} {J B : Nat → Nat → Int64} {F : Nat → Nat} (s : Nat) (es : I 8 3 = nI s) (hs : s < 24) (x : Int32) (x1 : ¬ x < -6) (x2 : x ≤ nI 6) : x_ev X xT 4 102 [.ref 0, .int x] (HX I A J B F) (some (.int (f_ef (I 7 1) (nI s) x))) (HX I A J B F) := by
  refine q_ev (L := [some (.ref 0), some (.int x)]) tX8_effort (Nat.le_of_ble_eq_true rfl) rfl ?_
  refine q_iload_n rfl rfl ?_
  refine q_bipush (v := (-6)) rfl rfl ?_
  refine q_icmp_lt rfl (fun hc3 => ?_) (fun hc3 => ?_)
  · exact absurd hc3 x1
  · refine q_iload_n rfl rfl ?_
    refine q_bipush (v := nI 6) rfl rfl ?_
    refine q_icmp_le rfl (fun hc9 => ?_) (fun hc9 => ?_)
    · refine q_aload_n rfl rfl ?_
      refine q_getfield rfl hx_0 rfl ?_
      refine q_aload_n rfl rfl ?_
      refine q_getfield rfl hx_0 rfl ?_
      refine q_callV0 rfl hx_8 (Nat.le_of_ble_eq_true rfl) (Nat.le_of_ble_eq_true rfl) (sN_first es) ?_
      refine q_iload_n rfl rfl ?_
      refine q_callV2 rfl hx_7 (Nat.le_of_ble_eq_true rfl) (Nat.le_of_ble_eq_true rfl) (sX6_effortOf hx_7 _ _) ?_
      refine q_iret rfl rfl ?_
      exact ⟨rfl, rfl⟩
    · exact absurd x2 hc9
