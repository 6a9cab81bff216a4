/-! lights, the slit, the night: the class's side -/
def lkOK (I : Nat → Nat → Int32) (a : Nat) : Prop := lOK (cL I a) ∧ I a 3 = nI (tn (I a 3))
section SK
variable {X : XX} {h : XH} {I : Nat → Nat → Int32}
theorem sK_place {a : Nat} (La : h[a]? = some (.inr (1, [.int (I a 0), .int (I a 1), .int (I a 2), .int (I a 3)]))) (hk : lkOK I a) (m : Nat) : x_ev X xT 3 19 [.ref a, .int (nI m)] h (some (.int (nI (plN (cL I a) m)))) h := by
  have e := sX1_placeAt (X := X) La hk.1.1 (nI m)
  have e2 : f_pl (I a 0) (I a 1) (I a 2) (nI m) = nI (plN (cL I a) m) := f_pl_eq (cL I a) m
  rw [e2] at e
  exact e
theorem sK_bright {a : Nat} (La : h[a]? = some (.inr (1, [.int (I a 0), .int (I a 1), .int (I a 2), .int (I a 3)]))) (hk : lkOK I a) (m : Nat) (hm : m < 2 ^ 30) : x_ev X xT 2 20 [.ref a, .int (nI m)] h (some (.int (nI (brN (cL I a) m)))) h := by
  have e := sX1_brightAt (X := X) La (nI m)
  have e2 : f_br (I a 0) (nI (tn (I a 3))) (nI m) = nI (brN (cL I a) m) := f_br_eq (l := cL I a) hk.1.2 (by omega)
  rw [hk.2, e2] at e
  exact e
theorem sK_times {c b : Nat} {z : Int32} (Lb : h[c]? = some (.inr (6, [.int (nI b), .int z]))) (hb : b ≤ 5) (fi pl : Int32) : x_ev X xT 3 72 [.ref c, .int fi, .int pl] h (some (.int (nI (tmN b fi pl)))) h := by
  have e := sX6_times (X := X) Lb fi pl
  rw [f_tm_eq hb] at e
  exact e
theorem sK_gain {c b a : Nat} {z : Int32} (Lb : h[c]? = some (.inr (6, [.int (nI b), .int z]))) (hb : b ≤ 5) (La : h[a]? = some (.inr (1, [.int (I a 0), .int (I a 1), .int (I a 2), .int (I a 3)]))) (hk : lkOK I a) (fi : Int32) (m : Nat) (hm : m < 2 ^ 30) : x_ev X xT 4 73 [.ref c, .int fi, .ref a, .int (nI m)] h (some (.int (nI (gnN b (cL I a) fi m)))) h := by
  have e := sX6_gain (X := X) Lb La hk.1.1 fi (nI m)
  have e2 : f_tm (nI b) fi (f_pl (I a 0) (I a 1) (I a 2) (nI m)) * f_br (I a 0) (nI (tn (I a 3))) (nI m) = nI (gnN b (cL I a) fi m) := gn_eq (l := cL I a) hb hk.1.2 fi (by omega)
  rw [hk.2, e2] at e
  exact e
theorem sK_round (x : Int32) : x_ev X xT 2 123 [.int x] h (some (.int (nI (rdN x)))) h := f_rd_eq x ▸ sX8_round x
end SK
section SN
variable {X : XX} {I A : Nat → Nat → Int32} {J B : Nat → Nat → Int64} {F : Nat → Nat}
theorem hx_7b {b : Nat} (e : I 7 0 = nI b) : (HX I A J B F)[7]? = some (.inr (6, [.int (nI b), .int (I 7 1)])) := e ▸ hx_7
theorem sN_done {d : Nat} (e : I 8 1 = nI d) : x_ev X xT 1 43 [.ref 8] (HX I A J B F) (some (.int (nI d))) (HX I A J B F) := e ▸ sX3_done hx_8
theorem sN_now {m : Nat} (e : I 8 2 = nI m) : x_ev X xT 1 44 [.ref 8] (HX I A J B F) (some (.int (nI m))) (HX I A J B F) := e ▸ sX3_now hx_8
theorem sN_spent : x_ev X xT 1 46 [.ref 8] (HX I A J B F) (some (.int (I 8 4))) (HX I A J B F) := sX3_spent hx_8
theorem sN_first {s : Nat} (e : I 8 3 = nI s) : x_ev X xT 1 45 [.ref 8] (HX I A J B F) (some (.int (nI s))) (HX I A J B F) := e ▸ sX3_first hx_8
theorem hx_8N {d m s : Nat} (e1 : I 8 1 = nI d) (e2 : I 8 2 = nI m) (e3 : I 8 3 = nI s) : (HX I A J B F)[8]? = some (.inr (3, [.ref 9, .int (nI d), .int (nI m), .int (nI s), .int (I 8 4)])) := by
  rw [← e1, ← e2, ← e3]
  exact hx_8
def n4 (I : Nat → Nat → Int32) (v1 v2 v3 v4 : Int32) : Nat → Nat → Int32 := u2 (u2 (u2 (u2 I 8 1 v1) 8 2 v2) 8 3 v3) 8 4 v4
theorem n4_n4 {v1 v2 v3 v4 w1 w2 w3 w4 : Int32} : n4 (n4 I v1 v2 v3 v4) w1 w2 w3 w4 = n4 I w1 w2 w3 w4 := by
  funext x y
  unfold n4 u2
  by_cases h4 : x = 8 ∧ y = 4
  · rw [if_pos h4, if_pos h4]
  · rw [if_neg h4, if_neg h4]
    by_cases h3 : x = 8 ∧ y = 3
    · rw [if_pos h3, if_pos h3, if_neg h4]
    · rw [if_neg h3, if_neg h3]
      by_cases h2 : x = 8 ∧ y = 2
      · rw [if_pos h2, if_pos h2, if_neg h4, if_neg h3]
      · rw [if_neg h2, if_neg h2]
        by_cases h1 : x = 8 ∧ y = 1
        · rw [if_pos h1, if_pos h1, if_neg h4, if_neg h3, if_neg h2]
        · rw [if_neg h1, if_neg h1, if_neg h4, if_neg h3, if_neg h2, if_neg h1]
theorem n4_same : n4 I (I 8 1) (I 8 2) (I 8 3) (I 8 4) = I := by
  funext x y
  unfold n4 u2
  by_cases h4 : x = 8 ∧ y = 4
  · rw [if_pos h4, h4.1, h4.2]
  · rw [if_neg h4]
    by_cases h3 : x = 8 ∧ y = 3
    · rw [if_pos h3, h3.1, h3.2]
    · rw [if_neg h3]
      by_cases h2 : x = 8 ∧ y = 2
      · rw [if_pos h2, h2.1, h2.2]
      · rw [if_neg h2]
        by_cases h1 : x = 8 ∧ y = 1
        · rw [if_pos h1, h1.1, h1.2]
        · rw [if_neg h1]
theorem sN_pass {d m s : Nat} (e1 : I 8 1 = nI d) (e2 : I 8 2 = nI m) (e3 : I 8 3 = nI s) (hd : d < 40) : x_ev X xT 3 48 [.ref 8] (HX I A J B F) none (HX (n4 I (nI (d + 1)) (nI (m + 1)) (nI s) (I 8 4)) (ua A 9 (upd (A 9) d 0)) J B F) := by
  have e := sX3_pass (X := X) (hx_8N (A := A) (J := J) (B := B) (F := F) e1 e2 e3) hx_9 (by decide) hd
  rw [ha_9, hf_8] at e
  rw [nI_succ m]
  exact e
theorem sN_turn {d m s : Nat} (e1 : I 8 1 = nI d) (e2 : I 8 2 = nI m) (e3 : I 8 3 = nI s) (hd : d < 40) (x : Int32) : x_ev X xT 4 49 [.ref 8, .int x, .ref 7] (HX I A J B F) (some (.int (f_ef (I 7 1) (nI s) x))) (HX (n4 I (nI (d + 1)) (nI m) (nI (rdN (nI s + x))) (I 8 4 + f_ef (I 7 1) (nI s) x)) (ua A 9 (upd (A 9) d x)) J B F) := by
  have e := sX3_turnBy (X := X) (hx_8N (A := A) (J := J) (B := B) (F := F) e1 e2 e3) hx_9 (by decide) hd hx_7 x
  rw [ha_9, hf_8, f_rd_eq] at e
  exact e
theorem sN_room1 {d n : Nat} (e1 : I 8 1 = nI d) (hd : d ≤ 40) (hn : n ≤ 100) (h : d + n ≤ 40) : x_ev X xT 1 47 [.ref 8, .int (nI n)] (HX I A J B F) (some (.int (nI 1))) (HX I A J B F) := by
  have e := sX3_hasRoom (X := X) (hx_8 (I := I) (A := A) (J := J) (B := B) (F := F)) hx_9 (by decide) (nI n)
  rw [e1] at e
  have e2 : f_hrm (nI d) (nI n) = nI 1 := by
    unfold f_hrm
    rw [if_neg (nI_pos (by omega)), nI_add, if_neg (show ¬ (40 : Int32) < nI (d + n) from nI_nlt (a := 40) (by omega) (by omega))]
    rfl
  rw [e2] at e
  exact e
theorem sN_room0 {d n : Nat} (e1 : I 8 1 = nI d) (hd : d ≤ 40) (hn : n ≤ 100) (h : 40 < d + n) : x_ev X xT 1 47 [.ref 8, .int (nI n)] (HX I A J B F) (some (.int (nI 0))) (HX I A J B F) := by
  have e := sX3_hasRoom (X := X) (hx_8 (I := I) (A := A) (J := J) (B := B) (F := F)) hx_9 (by decide) (nI n)
  rw [e1] at e
  have e2 : f_hrm (nI d) (nI n) = nI 0 := by
    unfold f_hrm
    rw [if_neg (nI_pos (by omega)), nI_add, if_pos (show (40 : Int32) < nI (d + n) from nI_lt (a := 40) (by omega) (by omega))]
    rfl
  rw [e2] at e
  exact e
end SN
/-- how long it goes on -/
def lrun (p : Nat → Bool) : Nat → Nat → Nat
  | 0, k => k
  | n + 1, k => if p k = true then lrun p n (k + 1) else k
theorem lrun_t {p : Nat → Bool} {N k : Nat} (hk : k < N) (h : p k = true) : lrun p (N - k) k = lrun p (N - (k + 1)) (k + 1) := by
  rw [show N - k = (N - (k + 1)) + 1 by omega]
  exact if_pos h
theorem lrun_f {p : Nat → Bool} {n k : Nat} (h : p k = false) : lrun p n k = k := by
  cases n with
  | zero => rfl
  | succ n => exact if_neg (by rw [h]; decide)
theorem lrun_le {p : Nat → Bool} : ∀ (n k : Nat), lrun p n k ≤ k + n := by
  intro n
  induction n with
  | zero => intro k; exact Nat.le_refl _
  | succ n ih =>
    intro k
    unfold lrun
    split
    · have := ih (k + 1)
      omega
    · omega
def nsum (g : Nat → Nat) : Nat → Nat
  | 0 => 0
  | k + 1 => nsum g k + g k
theorem nsum_congr {f g : Nat → Nat} {n : Nat} (h : ∀ k, k < n → f k = g k) : nsum f n = nsum g n := by
  induction n with
  | zero => rfl
  | succ n ih =>
    unfold nsum
    rw [ih (fun k hk => h k (by omega)), h n (by omega)]
theorem nsum_le {g : Nat → Nat} {c n : Nat} (h : ∀ k, k < n → g k ≤ c) : nsum g n ≤ c * n := by
  induction n with
  | zero => exact Nat.zero_le _
  | succ n ih =>
    unfold nsum
    have h1 := ih (fun k hk => h k (by omega))
    have h2 := h n (by omega)
    rw [Nat.mul_succ]
    omega
def fact (b : Nat) (l : LT) (s m : Nat) : Nat → Int32
  | 0 => l.1
  | 1 => nI (plN l m)
  | 2 => l.2.2.1
  | 3 => nI l.2.2.2
  | 4 => nI (brN l m)
  | _ => nI (gnN b l (nI s) m)
def mvN (l : LT) (m k : Nat) : Nat := if plN l (m + k) = plN l (m + k + 1) then 0 else 1
def bkP (l : LT) (m k : Nat) : Bool := decide (¬ plN l (m + k) = plN l m)
def best (b : Nat) : Nat := if 2 < b then 2 else 1
def wyP (b s p k : Nat) : Bool := decide (¬ tmN b (nI (rdN (nI (s + k)))) (nI p) = best b ∧ ¬ tmN b (nI (rdN (nI s - nI k))) (nI p) = best b)
theorem sX1_brightTogether {X : XX} {I A : Nat → Nat → Int32} {J B : Nat → Nat → Int64} {F : Nat → Nat} (a : Nat) (La : (HX I A J B F)[a]? = some (.inr (1, [.int (I a 0), .int (I a 1), .int (I a 2), .int (I a 3)]))) (lk : lkOK I a) (m n : Nat) (hm : m < 2 ^ 29) (hn : n < 2 ^ 20) : x_ev X xT 3 21 [.ref a, .int (nI m), .int (nI n)] (HX I A J B F) (some (.int (nI (nsum (fun k => brN (cL I a) (m + k)) n)))) (HX I A J B F) := by
  refine q_ev (L := [some (.ref a), some (.int (nI m)), some (.int (nI n)), none, none]) tX1_brightTogether (Nat.le_of_ble_eq_true rfl) rfl ?_
  refine q_iconst (v := nI 0) rfl rfl ?_
  refine q_istore_n (L' := [_, _, _, _, _]) rfl rfl ?_
  refine q_iconst (v := nI 0) rfl rfl ?_
  refine q_istore (L' := [_, _, _, _, _]) rfl rfl ?_
  refine q_up (Inv := fun k L h => L = [some (.ref a), some (.int (nI m)), some (.int (nI n)), some (.int (nI (nsum (fun k => brN (cL I a) (m + k)) k))), some (.int (nI k))] ∧ h = HX I A J B F) (n) (fun k L h hk_k hi_k ih_k => ?_) (fun L h hi_k => ?_) (0) _ _ (by omega) (⟨rfl, rfl⟩)
  · obtain ⟨rfl, rfl⟩ := hi_k
    refine q_iload rfl rfl ?_
    refine q_iload_n rfl rfl ?_
    refine q_icmp_geN rfl (by omega) (by omega) (fun hcks8 => ?_) (fun hcks8 => ?_)
    · omega
    · refine q_iload_n rfl rfl ?_
      refine q_aload_n rfl rfl ?_
      refine q_iload_n rfl rfl ?_
      refine q_iload rfl rfl ?_
      refine q_iaddN rfl ?_
      refine q_callV1 rfl (La) (Nat.le_of_ble_eq_true rfl) (Nat.le_of_ble_eq_true rfl) (sK_bright La lk _ (by omega)) ?_
      refine q_iaddN rfl ?_
      refine q_istore_n (L' := [_, _, _, _, _]) rfl rfl ?_
      refine q_iincN (c := 1) (L' := [_, _, _, _, _]) rfl rfl rfl rfl ?_
      refine q_goto rfl ?_
      exact ih_k _ _ (⟨rfl, rfl⟩)
  · obtain ⟨rfl, rfl⟩ := hi_k
    refine q_iload rfl rfl ?_
    refine q_iload_n rfl rfl ?_
    refine q_icmp_geN rfl (by omega) (by omega) (fun hckf8 => ?_) (fun hckf8 => ?_)
    · refine q_iload_n rfl rfl ?_
      refine q_iret rfl rfl ?_
      exact ⟨rfl, rfl⟩
    · omega
theorem sX1_movesWithin {X : XX} {I A : Nat → Nat → Int32} {J B : Nat → Nat → Int64} {F : Nat → Nat} (a : Nat) (La : (HX I A J B F)[a]? = some (.inr (1, [.int (I a 0), .int (I a 1), .int (I a 2), .int (I a 3)]))) (lk : lkOK I a) (m n : Nat) (hm : m < 2 ^ 29) (hn : n < 2 ^ 20) : x_ev X xT 4 22 [.ref a, .int (nI m), .int (nI n)] (HX I A J B F) (some (.int (nI (nsum (mvN (cL I a) m) n)))) (HX I A J B F) := by
  refine q_ev (L := [some (.ref a), some (.int (nI m)), some (.int (nI n)), none, none]) tX1_movesWithin (Nat.le_of_ble_eq_true rfl) rfl ?_
  refine q_iconst (v := nI 0) rfl rfl ?_
  refine q_istore_n (L' := [_, _, _, _, _]) rfl rfl ?_
  refine q_iconst (v := nI 0) rfl rfl ?_
  refine q_istore (L' := [_, _, _, _, _]) rfl rfl ?_
  refine q_up (Inv := fun k L h => L = [some (.ref a), some (.int (nI m)), some (.int (nI n)), some (.int (nI (nsum (mvN (cL I a) m) k))), some (.int (nI k))] ∧ h = HX I A J B F) (n) (fun k L h hk_k hi_k ih_k => ?_) (fun L h hi_k => ?_) (0) _ _ (by omega) (⟨rfl, rfl⟩)
  · obtain ⟨rfl, rfl⟩ := hi_k
    refine q_iload rfl rfl ?_
    refine q_iload_n rfl rfl ?_
    refine q_icmp_geN rfl (by omega) (by omega) (fun hcks8 => ?_) (fun hcks8 => ?_)
    · omega
    · refine q_iload_n rfl rfl ?_
      refine q_aload_n rfl rfl ?_
      refine q_iload_n rfl rfl ?_
      refine q_iload rfl rfl ?_
      refine q_iaddN rfl ?_
      refine q_callV1 rfl (La) (Nat.le_of_ble_eq_true rfl) (Nat.le_of_ble_eq_true rfl) (sK_place La lk _) ?_
      refine q_aload_n rfl rfl ?_
      refine q_iload_n rfl rfl ?_
      refine q_iload rfl rfl ?_
      refine q_iaddN rfl ?_
      refine q_iconst (v := nI 1) rfl rfl ?_
      refine q_iaddN rfl ?_
      refine q_callV1 rfl (La) (Nat.le_of_ble_eq_true rfl) (Nat.le_of_ble_eq_true rfl) (sK_place La lk _) ?_
      refine q_icmp_eqN rfl (by have := plN_lt (cL I a) (m + k); omega) (by have := plN_lt (cL I a) (m + k + 1); omega) (fun hcks30 => ?_) (fun hcks30 => ?_)
      · refine q_iconst (v := nI 0) rfl rfl ?_
        refine q_iaddN rfl ?_
        refine q_istore_n (L' := [_, _, _, _, _]) rfl rfl ?_
        refine q_iincN (c := 1) (L' := [_, _, _, _, _]) rfl rfl rfl rfl ?_
        refine q_goto rfl ?_
        exact ih_k _ _ (⟨by rw [show nsum (mvN (cL I a) m) (k + 1) = nsum (mvN (cL I a) m) k + mvN (cL I a) m k from rfl]; unfold mvN; first | rw [if_pos hcks30] | rw [if_neg hcks30], rfl⟩)
      · refine q_iconst (v := nI 1) rfl rfl ?_
        refine q_goto rfl ?_
        refine q_iaddN rfl ?_
        refine q_istore_n (L' := [_, _, _, _, _]) rfl rfl ?_
        refine q_iincN (c := 1) (L' := [_, _, _, _, _]) rfl rfl rfl rfl ?_
        refine q_goto rfl ?_
        exact ih_k _ _ (⟨by rw [show nsum (mvN (cL I a) m) (k + 1) = nsum (mvN (cL I a) m) k + mvN (cL I a) m k from rfl]; unfold mvN; first | rw [if_pos hcks30] | rw [if_neg hcks30], rfl⟩)
  · obtain ⟨rfl, rfl⟩ := hi_k
    refine q_iload rfl rfl ?_
    refine q_iload_n rfl rfl ?_
    refine q_icmp_geN rfl (by omega) (by omega) (fun hckf8 => ?_) (fun hckf8 => ?_)
    · refine q_iload_n rfl rfl ?_
      refine q_iret rfl rfl ?_
      exact ⟨rfl, rfl⟩
    · omega
theorem sX1_returnsAfter {X : XX} {I A : Nat → Nat → Int32} {J B : Nat → Nat → Int64} {F : Nat → Nat} (a : Nat) (La : (HX I A J B F)[a]? = some (.inr (1, [.int (I a 0), .int (I a 1), .int (I a 2), .int (I a 3)]))) (lk : lkOK I a) (m : Nat) (hm : m < 2 ^ 29) : x_ev X xT 4 23 [.ref a, .int (nI m)] (HX I A J B F) (some (.int (nI (lrun (bkP (cL I a) m) 23 1)))) (HX I A J B F) := by
  refine q_ev (L := [some (.ref a), some (.int (nI m)), none]) tX1_returnsAfter (Nat.le_of_ble_eq_true rfl) rfl ?_
  refine q_iconst (v := nI 1) rfl rfl ?_
  refine q_istore_n (L' := [_, _, _]) rfl rfl ?_
  refine q_up (Inv := fun k L h => L = [some (.ref a), some (.int (nI m)), some (.int (nI k))] ∧ h = HX I A J B F ∧ lrun (bkP (cL I a) m) (24 - k) k = lrun (bkP (cL I a) m) 23 1) (24) (fun k L h hk_k hi_k ih_k => ?_) (fun L h hi_k => ?_) (1) _ _ (by omega) (⟨rfl, rfl, rfl⟩)
  · obtain ⟨rfl, rfl, hr⟩ := hi_k
    refine q_iload_n rfl rfl ?_
    refine q_bipush (v := nI 24) rfl rfl ?_
    refine q_icmp_geN rfl (by omega) (by omega) (fun hcks5 => ?_) (fun hcks5 => ?_)
    · omega
    · refine q_aload_n rfl rfl ?_
      refine q_iload_n rfl rfl ?_
      refine q_iload_n rfl rfl ?_
      refine q_iaddN rfl ?_
      refine q_callV1 rfl (La) (Nat.le_of_ble_eq_true rfl) (Nat.le_of_ble_eq_true rfl) (sK_place La lk _) ?_
      refine q_aload_n rfl rfl ?_
      refine q_iload_n rfl rfl ?_
      refine q_callV1 rfl (La) (Nat.le_of_ble_eq_true rfl) (Nat.le_of_ble_eq_true rfl) (sK_place La lk _) ?_
      refine q_icmp_eqN rfl (by have := plN_lt (cL I a) (m + k); omega) (by have := plN_lt (cL I a) m; omega) (fun hcks20 => ?_) (fun hcks20 => ?_)
      · refine q_iload_n rfl rfl ?_
        refine q_iret rfl rfl ?_
        exact ⟨by rw [← hr, lrun_f (decide_eq_false (fun z => z hcks20))], rfl⟩
      · refine q_iincN (c := 1) (L' := [_, _, _]) rfl rfl rfl rfl ?_
        refine q_goto rfl ?_
        exact ih_k _ _ (⟨rfl, rfl, by rw [← hr, ← lrun_t hk_k (decide_eq_true hcks20)]⟩)
  · obtain ⟨rfl, rfl, hr⟩ := hi_k
    refine q_iload_n rfl rfl ?_
    refine q_bipush (v := nI 24) rfl rfl ?_
    refine q_icmp_geN rfl (by omega) (by omega) (fun hckf5 => ?_) (fun hckf5 => ?_)
    · refine q_iload_n rfl rfl ?_
      refine q_iret rfl rfl ?_
      exact ⟨by rw [← hr]; rfl, rfl⟩
    · omega
theorem sX6_leastWayToBest {X : XX} {I A : Nat → Nat → Int32} {J B : Nat → Nat → Int64} {F : Nat → Nat} (b : Nat) (hb : b ≤ 5) (eb : I 7 0 = nI b) (s p : Nat) (hs : s < 24) (hp : p < 24) : x_ev X xT 4 75 [.ref 7, .int (nI s), .int (nI p)] (HX I A J B F) (some (.int (nI (lrun (wyP b s p) 12 0)))) (HX I A J B F) := by
  refine q_ev (L := [some (.ref 7), some (.int (nI s)), some (.int (nI p)), none, none]) tX6_leastWayToBest (Nat.le_of_ble_eq_true rfl) rfl ?_
  refine q_aload_n rfl rfl ?_
  refine q_getI rfl hx_7 rfl (eb) ?_
  refine q_iconst (v := nI 2) rfl rfl ?_
  refine q_icmp_leN rfl (by omega) (by omega) (fun hc5 => ?_) (fun hc5 => ?_)
  · refine q_iconst (v := nI 1) rfl rfl ?_
    refine q_cn (show _ = nI (best b) from by unfold best; first | rw [if_pos (by omega)] | rw [if_neg (by omega)]) ?_
    refine q_istore_n (L' := [_, _, _, _, _]) rfl rfl ?_
    refine q_iconst (v := nI 0) rfl rfl ?_
    refine q_istore (L' := [_, _, _, _, _]) rfl rfl ?_
    refine q_up (Inv := fun k L h => L = [some (.ref 7), some (.int (nI s)), some (.int (nI p)), some (.int (nI (best b))), some (.int (nI k))] ∧ h = HX I A J B F ∧ lrun (wyP b s p) (12 - k) k = lrun (wyP b s p) 12 0) (12) (fun k L h hk_k hi_k ih_k => ?_) (fun L h hi_k => ?_) (0) _ _ (by omega) (⟨rfl, rfl, rfl⟩)
    · obtain ⟨rfl, rfl, hr⟩ := hi_k
      refine q_iload rfl rfl ?_
      refine q_bipush (v := nI 12) rfl rfl ?_
      refine q_icmp_geN rfl (by omega) (by omega) (fun hcks21 => ?_) (fun hcks21 => ?_)
      · omega
      · refine q_aload_n rfl rfl ?_
        refine q_iload_n rfl rfl ?_
        refine q_iload rfl rfl ?_
        refine q_iaddN rfl ?_
        refine q_callS1 rfl rfl (Nat.le_of_ble_eq_true rfl) (Nat.le_of_ble_eq_true rfl) (sK_round _) ?_
        refine q_iload_n rfl rfl ?_
        refine q_callV2 rfl hx_7 (Nat.le_of_ble_eq_true rfl) (Nat.le_of_ble_eq_true rfl) (sK_times (hx_7b eb) hb _ _) ?_
        refine q_iload_n rfl rfl ?_
        refine q_icmp_eqN rfl (by have := tmN_le b (nI (rdN (nI (s + k)))) (nI p); omega) (by unfold best; split <;> omega) (fun hcks37 => ?_) (fun hcks37 => ?_)
        · refine q_iload rfl rfl ?_
          refine q_iret rfl rfl ?_
          exact ⟨vI (by rw [← hr, lrun_f (decide_eq_false (fun z => by first | exact z.1 hcks37 | exact z.2 hcks53))]), rfl⟩
        · refine q_aload_n rfl rfl ?_
          refine q_iload_n rfl rfl ?_
          refine q_iload rfl rfl ?_
          refine q_isub rfl ?_
          refine q_callS1 rfl rfl (Nat.le_of_ble_eq_true rfl) (Nat.le_of_ble_eq_true rfl) (sK_round _) ?_
          refine q_iload_n rfl rfl ?_
          refine q_callV2 rfl hx_7 (Nat.le_of_ble_eq_true rfl) (Nat.le_of_ble_eq_true rfl) (sK_times (hx_7b eb) hb _ _) ?_
          refine q_iload_n rfl rfl ?_
          refine q_icmp_eqN rfl (by have := tmN_le b (nI (rdN (nI s - nI k))) (nI p); omega) (by unfold best; split <;> omega) (fun hcks53 => ?_) (fun hcks53 => ?_)
          · refine q_iload rfl rfl ?_
            refine q_iret rfl rfl ?_
            exact ⟨vI (by rw [← hr, lrun_f (decide_eq_false (fun z => by first | exact z.1 hcks37 | exact z.2 hcks53))]), rfl⟩
          · refine q_iincN (c := 1) (L' := [_, _, _, _, _]) rfl rfl rfl rfl ?_
            refine q_goto rfl ?_
            exact ih_k _ _ (⟨rfl, rfl, by rw [← hr, ← lrun_t hk_k (decide_eq_true ⟨hcks37, hcks53⟩)]⟩)
    · obtain ⟨rfl, rfl, hr⟩ := hi_k
      refine q_iload rfl rfl ?_
      refine q_bipush (v := nI 12) rfl rfl ?_
      refine q_icmp_geN rfl (by omega) (by omega) (fun hckf21 => ?_) (fun hckf21 => ?_)
      · refine q_iload rfl rfl ?_
        refine q_iret rfl rfl ?_
        exact ⟨vI (by rw [← hr]; rfl), rfl⟩
      · omega
  · refine q_iconst (v := nI 2) rfl rfl ?_
    refine q_goto rfl ?_
    refine q_cn (show _ = nI (best b) from by unfold best; first | rw [if_pos (by omega)] | rw [if_neg (by omega)]) ?_
    refine q_istore_n (L' := [_, _, _, _, _]) rfl rfl ?_
    refine q_iconst (v := nI 0) rfl rfl ?_
    refine q_istore (L' := [_, _, _, _, _]) rfl rfl ?_
    refine q_up (Inv := fun k L h => L = [some (.ref 7), some (.int (nI s)), some (.int (nI p)), some (.int (nI (best b))), some (.int (nI k))] ∧ h = HX I A J B F ∧ lrun (wyP b s p) (12 - k) k = lrun (wyP b s p) 12 0) (12) (fun k L h hk_k hi_k ih_k => ?_) (fun L h hi_k => ?_) (0) _ _ (by omega) (⟨rfl, rfl, rfl⟩)
    · obtain ⟨rfl, rfl, hr⟩ := hi_k
      refine q_iload rfl rfl ?_
      refine q_bipush (v := nI 12) rfl rfl ?_
      refine q_icmp_geN rfl (by omega) (by omega) (fun hcks21 => ?_) (fun hcks21 => ?_)
      · omega
      · refine q_aload_n rfl rfl ?_
        refine q_iload_n rfl rfl ?_
        refine q_iload rfl rfl ?_
        refine q_iaddN rfl ?_
        refine q_callS1 rfl rfl (Nat.le_of_ble_eq_true rfl) (Nat.le_of_ble_eq_true rfl) (sK_round _) ?_
        refine q_iload_n rfl rfl ?_
        refine q_callV2 rfl hx_7 (Nat.le_of_ble_eq_true rfl) (Nat.le_of_ble_eq_true rfl) (sK_times (hx_7b eb) hb _ _) ?_
        refine q_iload_n rfl rfl ?_
        refine q_icmp_eqN rfl (by have := tmN_le b (nI (rdN (nI (s + k)))) (nI p); omega) (by unfold best; split <;> omega) (fun hcks37 => ?_) (fun hcks37 => ?_)
        · refine q_iload rfl rfl ?_
          refine q_iret rfl rfl ?_
          exact ⟨vI (by rw [← hr, lrun_f (decide_eq_false (fun z => by first | exact z.1 hcks37 | exact z.2 hcks53))]), rfl⟩
        · refine q_aload_n rfl rfl ?_
          refine q_iload_n rfl rfl ?_
          refine q_iload rfl rfl ?_
          refine q_isub rfl ?_
          refine q_callS1 rfl rfl (Nat.le_of_ble_eq_true rfl) (Nat.le_of_ble_eq_true rfl) (sK_round _) ?_
          refine q_iload_n rfl rfl ?_
          refine q_callV2 rfl hx_7 (Nat.le_of_ble_eq_true rfl) (Nat.le_of_ble_eq_true rfl) (sK_times (hx_7b eb) hb _ _) ?_
          refine q_iload_n rfl rfl ?_
          refine q_icmp_eqN rfl (by have := tmN_le b (nI (rdN (nI s - nI k))) (nI p); omega) (by unfold best; split <;> omega) (fun hcks53 => ?_) (fun hcks53 => ?_)
          · refine q_iload rfl rfl ?_
            refine q_iret rfl rfl ?_
            exact ⟨vI (by rw [← hr, lrun_f (decide_eq_false (fun z => by first | exact z.1 hcks37 | exact z.2 hcks53))]), rfl⟩
          · refine q_iincN (c := 1) (L' := [_, _, _, _, _]) rfl rfl rfl rfl ?_
            refine q_goto rfl ?_
            exact ih_k _ _ (⟨rfl, rfl, by rw [← hr, ← lrun_t hk_k (decide_eq_true ⟨hcks37, hcks53⟩)]⟩)
    · obtain ⟨rfl, rfl, hr⟩ := hi_k
      refine q_iload rfl rfl ?_
      refine q_bipush (v := nI 12) rfl rfl ?_
      refine q_icmp_geN rfl (by omega) (by omega) (fun hckf21 => ?_) (fun hckf21 => ?_)
      · refine q_iload rfl rfl ?_
        refine q_iret rfl rfl ?_
        exact ⟨vI (by rw [← hr]; rfl), rfl⟩
      · omega
theorem upd_same (f : Nat → Int32) (k : Nat) : upd f k (f k) = f := by
  funext x
  unfold upd
  split
  · rename_i h
    rw [h]
  · rfl
theorem rp_s0 {st : Nat} {f : Nat → Int32} {e : Nat} (h : f e = 0) : rp st f (e + 1) = ((rp st f e).1 + 1, (rp st f e).2.1, (rp st f e).2.2) := if_pos h
theorem rp_s1 {st : Nat} {f : Nat → Int32} {e : Nat} (h : ¬ f e = 0) : rp st f (e + 1) = ((rp st f e).1, rdN (nI (rp st f e).2.1 + f e), (rp st f e).2.2 + f_ef (nI st) (nI (rp st f e).2.1) (f e)) := if_neg h
theorem sX3_rewind {X : XX} {I A : Nat → Nat → Int32} {J B : Nat → Nat → Int64} {F : Nat → Nat} (n st : Nat) (hn : n ≤ 40) (e7 : I 7 1 = nI st) : x_ev X xT 5 50 [.ref 8, .int (nI n), .ref 7] (HX I A J B F) none (HX (n4 I (nI n) (nI (rp st (A 9) n).1) (nI (rp st (A 9) n).2.1) (rp st (A 9) n).2.2) A J B F) := by
  refine q_ev (L := [some (.ref 8), some (.int (nI n)), some (.ref 7), none]) tX3_rewind (Nat.le_of_ble_eq_true rfl) rfl ?_
  refine q_aload_n rfl rfl ?_
  refine q_callV0 rfl hx_8 (Nat.le_of_ble_eq_true rfl) (Nat.le_of_ble_eq_true rfl) (sX3_begin hx_8) ?_
  refine q_heap (hf_8 _ _ _ _) ?_
  refine q_iconst (v := nI 0) rfl rfl ?_
  refine q_istore_n (L' := [_, _, _, _]) rfl rfl ?_
  refine q_up (Inv := fun k L h => L = [some (.ref 8), some (.int (nI n)), some (.ref 7), some (.int (nI k))] ∧ h = HX (n4 I (nI k) (nI (rp st (A 9) k).1) (nI (rp st (A 9) k).2.1) (rp st (A 9) k).2.2) A J B F) (n) (fun k L h hk_k hi_k ih_k => ?_) (fun L h hi_k => ?_) (0) _ _ (by omega) (⟨rfl, rfl⟩)
  · obtain ⟨rfl, rfl⟩ := hi_k
    refine q_iload_n rfl rfl ?_
    refine q_iload_n rfl rfl ?_
    refine q_icmp_geN rfl (by omega) (by omega) (fun hcks8 => ?_) (fun hcks8 => ?_)
    · omega
    · refine q_iload_n rfl rfl ?_
      refine q_aload_n rfl rfl ?_
      refine q_getfield rfl hx_8 rfl ?_
      refine q_alen rfl (by decide) hx_9 (by decide) (v := nI _) rfl ?_
      refine q_icmp_geN rfl (by omega) (by omega) (fun hcks17 => ?_) (fun hcks17 => ?_)
      · omega
      · refine q_aload_n rfl rfl ?_
        refine q_getfield rfl hx_8 rfl ?_
        refine q_iload_n rfl rfl ?_
        refine q_iald rfl (by decide) hx_9 (by omega) (by decide) (rfl) ?_
        refine q_if_ne rfl (fun hcks26 => ?_) (fun hcks26 => ?_)
        · refine q_aload_n rfl rfl ?_
          refine q_aload_n rfl rfl ?_
          refine q_getfield rfl hx_8 rfl ?_
          refine q_iload_n rfl rfl ?_
          refine q_iald rfl (by decide) hx_9 (by omega) (by decide) (rfl) ?_
          refine q_aload_n rfl rfl ?_
          refine q_callV2 rfl hx_8 (Nat.le_of_ble_eq_true rfl) (Nat.le_of_ble_eq_true rfl) (sN_turn (d := k) (m := (rp st (A 9) k).1) (s := (rp st (A 9) k).2.1) rfl rfl rfl (by omega) _) ?_
          refine q_popI rfl ?_
          refine q_iincN (c := 1) (L' := [_, _, _, _]) rfl rfl rfl rfl ?_
          refine q_goto rfl ?_
          exact ih_k _ _ (⟨rfl, by first | (rw [n4_n4, rp_s0 (e := k) hcks26, show (0 : Int32) = A 9 k from hcks26.symm, upd_same, ua_self rfl]; rfl) | (rw [n4_n4, rp_s1 (e := k) hcks26, upd_same, ua_self rfl, ← e7]; rfl)⟩)
        · refine q_aload_n rfl rfl ?_
          refine q_callV0 rfl hx_8 (Nat.le_of_ble_eq_true rfl) (Nat.le_of_ble_eq_true rfl) (sN_pass (d := k) (m := (rp st (A 9) k).1) (s := (rp st (A 9) k).2.1) rfl rfl rfl (by omega)) ?_
          refine q_goto rfl ?_
          refine q_iincN (c := 1) (L' := [_, _, _, _]) rfl rfl rfl rfl ?_
          refine q_goto rfl ?_
          exact ih_k _ _ (⟨rfl, by first | (rw [n4_n4, rp_s0 (e := k) hcks26, show (0 : Int32) = A 9 k from hcks26.symm, upd_same, ua_self rfl]; rfl) | (rw [n4_n4, rp_s1 (e := k) hcks26, upd_same, ua_self rfl, ← e7]; rfl)⟩)
  · obtain ⟨rfl, rfl⟩ := hi_k
    refine q_iload_n rfl rfl ?_
    refine q_iload_n rfl rfl ?_
    refine q_icmp_geN rfl (by omega) (by omega) (fun hckf8 => ?_) (fun hckf8 => ?_)
    · refine q_vret rfl rfl ?_
      exact ⟨rfl, rfl⟩
    · omega
theorem sX8_gainIn {X : XX} {I A : Nat → Nat → Int32} {J B : Nat → Nat → Int64} {F : Nat → Nat} (b : Nat) (hb : b ≤ 5) (eb : I 7 0 = nI b) (m : Nat) (em : I 8 2 = nI m) (hm : m ≤ 1000) (s : Nat) (es : I 8 3 = nI s) (a : Nat) (La : (HX I A J B F)[a]? = some (.inr (1, [.int (I a 0), .int (I a 1), .int (I a 2), .int (I a 3)]))) (lk : lkOK I a) (n : Nat) (hn : n ≤ 1000) : x_ev X xT 5 134 [.ref 0, .ref a, .int (nI n)] (HX I A J B F) (some (.int (nI (gnN b (cL I a) (nI s) (m + n))))) (HX I A J B F) := by
  refine q_ev (L := [some (.ref 0), some (.ref a), some (.int (nI n))]) tX8_gainIn (Nat.le_of_ble_eq_true rfl) rfl ?_
  refine q_aload_n rfl rfl ?_
  refine q_getfield rfl hx_0 rfl ?_
  refine q_aload_n rfl rfl ?_
  refine q_getfield rfl hx_0 rfl ?_
  refine q_callV0 rfl hx_8 (Nat.le_of_ble_eq_true rfl) (Nat.le_of_ble_eq_true rfl) (sN_first es) ?_
  refine q_aload_n rfl rfl ?_
  refine q_aload_n rfl rfl ?_
  refine q_getfield rfl hx_0 rfl ?_
  refine q_callV0 rfl hx_8 (Nat.le_of_ble_eq_true rfl) (Nat.le_of_ble_eq_true rfl) (sN_now em) ?_
  refine q_iload_n rfl rfl ?_
  refine q_iaddN rfl ?_
  refine q_callV3 rfl hx_7 (Nat.le_of_ble_eq_true rfl) (Nat.le_of_ble_eq_true rfl) (sK_gain (hx_7b eb) hb La lk _ _ (by omega)) ?_
  refine q_iret rfl rfl ?_
  exact ⟨rfl, rfl⟩
theorem sX8_timesOver {X : XX} {I A : Nat → Nat → Int32} {J B : Nat → Nat → Int64} {F : Nat → Nat} (b : Nat) (hb : b ≤ 5) (eb : I 7 0 = nI b) (m : Nat) (em : I 8 2 = nI m) (hm : m ≤ 1000) (s : Nat) (es : I 8 3 = nI s) (a : Nat) (La : (HX I A J B F)[a]? = some (.inr (1, [.int (I a 0), .int (I a 1), .int (I a 2), .int (I a 3)]))) (lk : lkOK I a) (n : Nat) : x_ev X xT 4 135 [.ref 0, .ref a, .int (nI n)] (HX I A J B F) (some (.int (nI (tmN b (nI s) (nI (plN (cL I a) n)))))) (HX I A J B F) := by
  refine q_ev (L := [some (.ref 0), some (.ref a), some (.int (nI n))]) tX8_timesOver (Nat.le_of_ble_eq_true rfl) rfl ?_
  refine q_aload_n rfl rfl ?_
  refine q_getfield rfl hx_0 rfl ?_
  refine q_aload_n rfl rfl ?_
  refine q_getfield rfl hx_0 rfl ?_
  refine q_callV0 rfl hx_8 (Nat.le_of_ble_eq_true rfl) (Nat.le_of_ble_eq_true rfl) (sN_first es) ?_
  refine q_aload_n rfl rfl ?_
  refine q_iload_n rfl rfl ?_
  refine q_callV1 rfl (La) (Nat.le_of_ble_eq_true rfl) (Nat.le_of_ble_eq_true rfl) (sK_place La lk _) ?_
  refine q_callV2 rfl hx_7 (Nat.le_of_ble_eq_true rfl) (Nat.le_of_ble_eq_true rfl) (sK_times (hx_7b eb) hb _ _) ?_
  refine q_iret rfl rfl ?_
  exact ⟨rfl, rfl⟩
def ovP (b : Nat) (l : LT) (m f k : Nat) : Bool := decide (0 < tmN b (nI f) (nI (plN l (m + k))))
def syP (b : Nat) (l : LT) (m s k : Nat) : Bool := decide (0 < gnN b l (nI s) (m + k))
theorem sX8_overFor {X : XX} {I A : Nat → Nat → Int32} {J B : Nat → Nat → Int64} {F : Nat → Nat} (b : Nat) (hb : b ≤ 5) (eb : I 7 0 = nI b) (m : Nat) (em : I 8 2 = nI m) (hm : m ≤ 1000) (a : Nat) (La : (HX I A J B F)[a]? = some (.inr (1, [.int (I a 0), .int (I a 1), .int (I a 2), .int (I a 3)]))) (lk : lkOK I a) (f : Nat) : x_ev X xT 4 136 [.ref 0, .ref a, .int (nI f)] (HX I A J B F) (some (.int (nI (lrun (ovP b (cL I a) m f) 100 0)))) (HX I A J B F) := by
  refine q_ev (L := [some (.ref 0), some (.ref a), some (.int (nI f)), none]) tX8_overFor (Nat.le_of_ble_eq_true rfl) rfl ?_
  refine q_iconst (v := nI 0) rfl rfl ?_
  refine q_istore_n (L' := [_, _, _, _]) rfl rfl ?_
  refine q_up (Inv := fun k L h => L = [some (.ref 0), some (.ref a), some (.int (nI f)), some (.int (nI k))] ∧ h = HX I A J B F ∧ lrun (ovP b (cL I a) m f) (100 - k) k = lrun (ovP b (cL I a) m f) 100 0) (100) (fun k L h hk_k hi_k ih_k => ?_) (fun L h hi_k => ?_) (0) _ _ (by omega) (⟨rfl, rfl, rfl⟩)
  · obtain ⟨rfl, rfl, hr⟩ := hi_k
    refine q_iload_n rfl rfl ?_
    refine q_bipush (v := nI 100) rfl rfl ?_
    refine q_icmp_geN rfl (by omega) (by omega) (fun hcks5 => ?_) (fun hcks5 => ?_)
    · omega
    · refine q_aload_n rfl rfl ?_
      refine q_getfield rfl hx_0 rfl ?_
      refine q_iload_n rfl rfl ?_
      refine q_aload_n rfl rfl ?_
      refine q_aload_n rfl rfl ?_
      refine q_getfield rfl hx_0 rfl ?_
      refine q_callV0 rfl hx_8 (Nat.le_of_ble_eq_true rfl) (Nat.le_of_ble_eq_true rfl) (sN_now em) ?_
      refine q_iload_n rfl rfl ?_
      refine q_iaddN rfl ?_
      refine q_callV1 rfl (La) (Nat.le_of_ble_eq_true rfl) (Nat.le_of_ble_eq_true rfl) (sK_place La lk _) ?_
      refine q_callV2 rfl hx_7 (Nat.le_of_ble_eq_true rfl) (Nat.le_of_ble_eq_true rfl) (sK_times (hx_7b eb) hb _ _) ?_
      refine q_if_leN rfl (by have := tmN_le b (nI f) (nI (plN (cL I a) (m + k))); omega) (fun hcks29 => ?_) (fun hcks29 => ?_)
      · refine q_iload_n rfl rfl ?_
        refine q_iret rfl rfl ?_
        exact ⟨vI (by rw [← hr, lrun_f (decide_eq_false (by omega))]), rfl⟩
      · refine q_iincN (c := 1) (L' := [_, _, _, _]) rfl rfl rfl rfl ?_
        refine q_goto rfl ?_
        exact ih_k _ _ (⟨rfl, rfl, by rw [← hr, ← lrun_t hk_k (decide_eq_true (by omega))]⟩)
  · obtain ⟨rfl, rfl, hr⟩ := hi_k
    refine q_iload_n rfl rfl ?_
    refine q_bipush (v := nI 100) rfl rfl ?_
    refine q_icmp_geN rfl (by omega) (by omega) (fun hckf5 => ?_) (fun hckf5 => ?_)
    · refine q_iload_n rfl rfl ?_
      refine q_iret rfl rfl ?_
      exact ⟨vI (by rw [← hr]; rfl), rfl⟩
    · omega
theorem sX8_factOf {X : XX} {I A : Nat → Nat → Int32} {J B : Nat → Nat → Int64} {F : Nat → Nat} (b : Nat) (hb : b ≤ 5) (eb : I 7 0 = nI b) (m : Nat) (em : I 8 2 = nI m) (hm : m ≤ 1000) (s : Nat) (es : I 8 3 = nI s) (a : Nat) (La : (HX I A J B F)[a]? = some (.inr (1, [.int (I a 0), .int (I a 1), .int (I a 2), .int (I a 3)]))) (lk : lkOK I a) (w : Nat) (hw : w < 6) : x_ev X xT 6 143 [.ref 0, .ref a, .int (nI w)] (HX I A J B F) (some (.int (fact b (cL I a) s m w))) (HX I A J B F) := by
  refine q_ev (L := [some (.ref 0), some (.ref a), some (.int (nI w))]) tX8_factOf (Nat.le_of_ble_eq_true rfl) rfl ?_
  refine q_iload_n rfl rfl ?_
  rcases (show w = 0 ∨ w = 1 ∨ w = 2 ∨ w = 3 ∨ w = 4 ∨ w = 5 by omega) with rfl | rfl | rfl | rfl | rfl | rfl
  · refine q_tsw (t := 36) rfl (by decide) ?_
    refine q_aload_n rfl rfl ?_
    refine q_callV0 rfl (La) (Nat.le_of_ble_eq_true rfl) (Nat.le_of_ble_eq_true rfl) (sX1_kind La) ?_
    refine q_iret rfl rfl ?_
    exact ⟨rfl, rfl⟩
  · refine q_tsw (t := 41) rfl (by decide) ?_
    refine q_aload_n rfl rfl ?_
    refine q_aload_n rfl rfl ?_
    refine q_getfield rfl hx_0 rfl ?_
    refine q_callV0 rfl hx_8 (Nat.le_of_ble_eq_true rfl) (Nat.le_of_ble_eq_true rfl) (sN_now em) ?_
    refine q_callV1 rfl (La) (Nat.le_of_ble_eq_true rfl) (Nat.le_of_ble_eq_true rfl) (sK_place La lk _) ?_
    refine q_iret rfl rfl ?_
    exact ⟨rfl, rfl⟩
  · refine q_tsw (t := 53) rfl (by decide) ?_
    refine q_aload_n rfl rfl ?_
    refine q_callV0 rfl (La) (Nat.le_of_ble_eq_true rfl) (Nat.le_of_ble_eq_true rfl) (sX1_speed La) ?_
    refine q_iret rfl rfl ?_
    exact ⟨rfl, rfl⟩
  · refine q_tsw (t := 58) rfl (by decide) ?_
    refine q_aload_n rfl rfl ?_
    refine q_callV0 rfl (La) (Nat.le_of_ble_eq_true rfl) (Nat.le_of_ble_eq_true rfl) (sX1_toldBright La) ?_
    refine q_iret rfl rfl ?_
    exact ⟨vI lk.2, rfl⟩
  · refine q_tsw (t := 63) rfl (by decide) ?_
    refine q_aload_n rfl rfl ?_
    refine q_aload_n rfl rfl ?_
    refine q_getfield rfl hx_0 rfl ?_
    refine q_callV0 rfl hx_8 (Nat.le_of_ble_eq_true rfl) (Nat.le_of_ble_eq_true rfl) (sN_now em) ?_
    refine q_callV1 rfl (La) (Nat.le_of_ble_eq_true rfl) (Nat.le_of_ble_eq_true rfl) (sK_bright La lk _ (by omega)) ?_
    refine q_iret rfl rfl ?_
    exact ⟨rfl, rfl⟩
  · refine q_tsw (t := 75) rfl (by decide) ?_
    refine q_aload_n rfl rfl ?_
    refine q_aload_n rfl rfl ?_
    refine q_iconst (v := nI 0) rfl rfl ?_
    refine q_callV2 rfl hx_0 (Nat.le_of_ble_eq_true rfl) (Nat.le_of_ble_eq_true rfl) (sX8_gainIn b hb eb m em hm s es a La lk 0 (by omega)) ?_
    refine q_iret rfl rfl ?_
    exact ⟨rfl, rfl⟩
theorem sX8_passMoment {X : XX} {I A : Nat → Nat → Int32} {J B : Nat → Nat → Int64} {F : Nat → Nat} (b : Nat) (hb : b ≤ 5) (eb : I 7 0 = nI b) (m : Nat) (em : I 8 2 = nI m) (hm : m ≤ 1000) (s : Nat) (es : I 8 3 = nI s) (ln : Nat) (hln : ln ≤ 5) (eln : I 0 12 = nI ln) (lks : ∀ i, i < 5 → lkOK I (40 + i)) (d : Nat) (hd : d < 40) (ed : I 8 1 = nI d) : x_ev X xT 6 139 [.ref 0] (HX I A J B F) (some (.int (nI (nsum (fun i => gnN b (cL I (40 + i)) (nI s) m) ln)))) (HX (n4 I (nI (d + 1)) (nI (m + 1)) (nI s) (I 8 4)) (ua A 9 (upd (A 9) d 0)) J B F) := by
  refine q_ev (L := [some (.ref 0), none, none]) tX8_passMoment (Nat.le_of_ble_eq_true rfl) rfl ?_
  refine q_iconst (v := nI 0) rfl rfl ?_
  refine q_istore_n (L' := [_, _, _]) rfl rfl ?_
  refine q_iconst (v := nI 0) rfl rfl ?_
  refine q_istore_n (L' := [_, _, _]) rfl rfl ?_
  refine q_up (Inv := fun k L h => L = [some (.ref 0), some (.int (nI (nsum (fun i => gnN b (cL I (40 + i)) (nI s) m) k))), some (.int (nI k))] ∧ h = HX I A J B F) (ln) (fun k L h hk_k hi_k ih_k => ?_) (fun L h hi_k => ?_) (0) _ _ (by omega) (⟨rfl, rfl⟩)
  · obtain ⟨rfl, rfl⟩ := hi_k
    refine q_iload_n rfl rfl ?_
    refine q_aload_n rfl rfl ?_
    refine q_getI rfl hx_0 rfl (eln) ?_
    refine q_icmp_geN rfl (by omega) (by omega) (fun hcks9 => ?_) (fun hcks9 => ?_)
    · omega
    · refine q_iload_n rfl rfl ?_
      refine q_aload_n rfl rfl ?_
      refine q_getfield rfl hx_0 rfl ?_
      refine q_alen rfl (by decide) hx_5 (by decide) (v := nI _) rfl ?_
      refine q_icmp_geN rfl (by omega) (by omega) (fun hcks18 => ?_) (fun hcks18 => ?_)
      · omega
      · refine q_iload_n rfl rfl ?_
        refine q_aload_n rfl rfl ?_
        refine q_aload_n rfl rfl ?_
        refine q_getfield rfl hx_0 rfl ?_
        refine q_iload_n rfl rfl ?_
        refine q_aald rfl hx_5 (by omega) (by decide) rfl (xr5_at k (by omega)) ?_
        refine q_iconst (v := nI 0) rfl rfl ?_
        refine q_callV2 rfl hx_0 (Nat.le_of_ble_eq_true rfl) (Nat.le_of_ble_eq_true rfl) (sX8_gainIn b hb eb m em hm s es (40 + k) (hx_light k (by omega)) (lks k (by omega)) 0 (by omega)) ?_
        refine q_iaddN rfl ?_
        refine q_istore_n (L' := [_, _, _]) rfl rfl ?_
        refine q_iincN (c := 1) (L' := [_, _, _]) rfl rfl rfl rfl ?_
        refine q_goto rfl ?_
        exact ih_k _ _ (⟨rfl, rfl⟩)
  · obtain ⟨rfl, rfl⟩ := hi_k
    refine q_iload_n rfl rfl ?_
    refine q_aload_n rfl rfl ?_
    refine q_getI rfl hx_0 rfl (eln) ?_
    refine q_icmp_geN rfl (by omega) (by omega) (fun hckf9 => ?_) (fun hckf9 => ?_)
    · refine q_aload_n rfl rfl ?_
      refine q_getfield rfl hx_0 rfl ?_
      refine q_callV0 rfl hx_8 (Nat.le_of_ble_eq_true rfl) (Nat.le_of_ble_eq_true rfl) (sN_pass ed em es hd) ?_
      refine q_iload_n rfl rfl ?_
      refine q_iret rfl rfl ?_
      exact ⟨rfl, rfl⟩
    · omega
def kmy (g : Nat → Int32) : Nat → Int32
  | 0 => 0
  | k + 1 => kmy g k + (if g k = 0 then 0 else 1)
theorem sX8_lightsOf {X : XX} {I A : Nat → Nat → Int32} {J B : Nat → Nat → Int64} {F : Nat → Nat} (ln : Nat) (hln : ln ≤ 5) (eln : I 0 12 = nI ln) (lks : ∀ i, i < 5 → lkOK I (40 + i)) (w : Int32) : x_ev X xT 2 145 [.ref 0, .int w] (HX I A J B F) (some (.int (kmy (fun i => f_of (I (40 + i) 0) w) ln))) (HX I A J B F) := by
  refine q_ev (L := [some (.ref 0), some (.int w), none, none]) tX8_lightsOf (Nat.le_of_ble_eq_true rfl) rfl ?_
  refine q_iconst (v := 0) rfl rfl ?_
  refine q_istore_n (L' := [_, _, _, _]) rfl rfl ?_
  refine q_iconst (v := 0) rfl rfl ?_
  refine q_istore_n (L' := [_, _, _, _]) rfl rfl ?_
  refine q_up (Inv := fun k L h => L = [some (.ref 0), some (.int w), some (.int (kmy (fun i => f_of (I (40 + i) 0) w) k)), some (.int (nI k))] ∧ h = HX I A J B F) (ln) (fun k L h hk_k hi_k ih_k => ?_) (fun L h hi_k => ?_) (0) _ _ (by omega) (⟨rfl, rfl⟩)
  · obtain ⟨rfl, rfl⟩ := hi_k
    refine q_iload_n rfl rfl ?_
    refine q_aload_n rfl rfl ?_
    refine q_getI rfl hx_0 rfl (eln) ?_
    refine q_icmp_geN rfl (by omega) (by omega) (fun hcks9 => ?_) (fun hcks9 => ?_)
    · omega
    · refine q_iload_n rfl rfl ?_
      refine q_aload_n rfl rfl ?_
      refine q_getfield rfl hx_0 rfl ?_
      refine q_alen rfl (by decide) hx_5 (by decide) (v := nI _) rfl ?_
      refine q_icmp_geN rfl (by omega) (by omega) (fun hcks18 => ?_) (fun hcks18 => ?_)
      · omega
      · refine q_iload_n rfl rfl ?_
        refine q_aload_n rfl rfl ?_
        refine q_getfield rfl hx_0 rfl ?_
        refine q_iload_n rfl rfl ?_
        refine q_aald rfl hx_5 (by omega) (by decide) rfl (xr5_at k (by omega)) ?_
        refine q_iload_n rfl rfl ?_
        refine q_callV1 rfl (hx_light k (by omega)) (Nat.le_of_ble_eq_true rfl) (Nat.le_of_ble_eq_true rfl) (sX1_isOf (hx_light k (by omega)) w) ?_
        refine q_if_eq rfl (fun hcks32 => ?_) (fun hcks32 => ?_)
        · refine q_iconst (v := 0) rfl rfl ?_
          refine q_iadd rfl ?_
          refine q_istore_n (L' := [_, _, _, _]) rfl rfl ?_
          refine q_iincN (c := 1) (L' := [_, _, _, _]) rfl rfl rfl rfl ?_
          refine q_goto rfl ?_
          exact ih_k _ _ (⟨by rw [show ∀ g k, kmy g (k + 1) = kmy g k + (if g k = 0 then 0 else 1) from fun _ _ => rfl]; first | rw [if_pos hcks32] | rw [if_neg hcks32], rfl⟩)
        · refine q_iconst (v := 1) rfl rfl ?_
          refine q_goto rfl ?_
          refine q_iadd rfl ?_
          refine q_istore_n (L' := [_, _, _, _]) rfl rfl ?_
          refine q_iincN (c := 1) (L' := [_, _, _, _]) rfl rfl rfl rfl ?_
          refine q_goto rfl ?_
          exact ih_k _ _ (⟨by rw [show ∀ g k, kmy g (k + 1) = kmy g k + (if g k = 0 then 0 else 1) from fun _ _ => rfl]; first | rw [if_pos hcks32] | rw [if_neg hcks32], rfl⟩)
  · obtain ⟨rfl, rfl⟩ := hi_k
    refine q_iload_n rfl rfl ?_
    refine q_aload_n rfl rfl ?_
    refine q_getI rfl hx_0 rfl (eln) ?_
    refine q_icmp_geN rfl (by omega) (by omega) (fun hckf9 => ?_) (fun hckf9 => ?_)
    · refine q_iload_n rfl rfl ?_
      refine q_iret rfl rfl ?_
      exact ⟨rfl, rfl⟩
    · omega
