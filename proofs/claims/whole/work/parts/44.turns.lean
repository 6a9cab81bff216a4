/-! turns in a row, notes -/
def okN (lo hi x : Int32) : Prop := ¬ x < lo ∧ x ≤ hi
theorem f_all_1 {f : Nat → Int32} {lo hi : Int32} : ∀ (n i : Nat), (∀ k, i ≤ k → k < i + n → okN lo hi (f k)) → f_all f lo hi n i = 1 := by
  intro n
  induction n with
  | zero => intro i h; rfl
  | succ n ih =>
    intro i h
    have h0 := h i (by omega) (by omega)
    show (if f i < lo then 0 else if f i ≤ hi then f_all f lo hi n (i + 1) else 0) = 1
    rw [if_neg h0.1, if_pos h0.2]
    exact ih _ (fun k h1 h2 => h k (by omega) (by omega))
theorem f_all_0 {f : Nat → Int32} {lo hi : Int32} : ∀ (n i : Nat), ¬ (∀ k, i ≤ k → k < i + n → okN lo hi (f k)) → f_all f lo hi n i = 0 := by
  intro n
  induction n with
  | zero => intro i h; exact absurd (fun k h1 h2 => absurd h2 (by omega)) h
  | succ n ih =>
    intro i h
    show (if f i < lo then 0 else if f i ≤ hi then f_all f lo hi n (i + 1) else 0) = 0
    by_cases h1 : f i < lo
    · exact if_pos h1
    · rw [if_neg h1]
      by_cases h2 : f i ≤ hi
      · rw [if_pos h2]
        refine ih _ (fun z => h (fun k h3 h4 => ?_))
        by_cases h5 : k = i
        · subst h5
          exact ⟨h1, h2⟩
        · exact z k (by omega) (by omega)
      · exact if_neg h2
def alN (f : Nat → Int32) (lo hi : Int32) : Nat → Nat
  | 0 => 1
  | k + 1 => if alN f lo hi k = 0 then 0 else if f_inL (f k).toInt64 lo.toInt64 hi.toInt64 = 0 then 0 else 1
theorem alN_le (f : Nat → Int32) (lo hi : Int32) (n : Nat) : alN f lo hi n ≤ 1 := by
  cases n with
  | zero => exact Nat.le_refl _
  | succ n =>
    unfold alN
    split
    · omega
    · split <;> omega
theorem okN_in {lo hi x : Int32} (h : okN lo hi x) : ¬ f_inL x.toInt64 lo.toInt64 hi.toInt64 = 0 := by
  rw [f_in_1 rfl rfl h.1 (Int32.not_lt.mpr h.2)]
  decide
theorem okN_no {lo hi x : Int32} (h : ¬ okN lo hi x) : f_inL x.toInt64 lo.toInt64 hi.toInt64 = 0 := by
  refine f_in_0 rfl rfl ?_
  by_cases h1 : x < lo
  · exact Or.inl h1
  · exact Or.inr (Int32.not_le.mp (fun z => h ⟨h1, z⟩))
theorem alN_1 {f : Nat → Int32} {lo hi : Int32} {n : Nat} (h : ∀ k, k < n → okN lo hi (f k)) : alN f lo hi n = 1 := by
  induction n with
  | zero => rfl
  | succ n ih =>
    unfold alN
    rw [ih (fun k hk => h k (by omega)), if_neg (by decide), if_neg (okN_in (h n (by omega)))]
theorem alN_0 {f : Nat → Int32} {lo hi : Int32} {n : Nat} (h : ¬ ∀ k, k < n → okN lo hi (f k)) : alN f lo hi n = 0 := by
  induction n with
  | zero => exact absurd (fun k hk => absurd hk (Nat.not_lt_zero k)) h
  | succ n ih =>
    unfold alN
    by_cases h1 : alN f lo hi n = 0
    · exact if_pos h1
    · rw [if_neg h1]
      refine if_pos (okN_no (fun z => h1 (ih (fun w => h (fun k hk => ?_)))))
      by_cases h2 : k = n
      · subst h2
        exact z
      · exact w k (by omega)
def pfN (f : Nat → Int32) (s : Nat) : Nat → Nat
  | 0 => s
  | k + 1 => rdN (nI (pfN f s k) + f k)
def psN (st : Nat) (f : Nat → Int32) (s : Nat) : Nat → Int32
  | 0 => 0
  | k + 1 => psN st f s k + f_ef (nI st) (nI (pfN f s k)) (f k)
def pgN (b : Nat) (l : LT) (m : Nat) (f : Nat → Int32) (s : Nat) : Nat → Nat
  | 0 => 0
  | k + 1 => pgN b l m f s k + gnN b l (nI (pfN f s (k + 1))) (m + k)
theorem pfN_lt {f : Nat → Int32} {s : Nat} (hs : s < 24) (k : Nat) : pfN f s k < 24 := by
  cases k with
  | zero => exact hs
  | succ k => exact rdN_lt _
theorem pfN_congr {f g : Nat → Int32} {s n : Nat} (h : ∀ k, k < n → f k = g k) : pfN f s n = pfN g s n := by
  induction n with
  | zero => rfl
  | succ n ih =>
    unfold pfN
    rw [ih (fun k hk => h k (by omega)), h n (by omega)]
theorem psN_congr {st : Nat} {f g : Nat → Int32} {s n : Nat} (h : ∀ k, k < n → f k = g k) : psN st f s n = psN st g s n := by
  induction n with
  | zero => rfl
  | succ n ih =>
    unfold psN
    rw [ih (fun k hk => h k (by omega)), h n (by omega), pfN_congr (fun k hk => h k (by omega))]
theorem pgN_congr {b : Nat} {l : LT} {m : Nat} {f g : Nat → Int32} {s n : Nat} (h : ∀ k, k < n → f k = g k) : pgN b l m f s n = pgN b l m g s n := by
  induction n with
  | zero => rfl
  | succ n ih =>
    unfold pgN
    rw [ih (fun k hk => h k (by omega)), pfN_congr h]
theorem f_less_c (f : Nat → Int32) : ∀ (n i : Nat), f_less f n i = -9 ∨ ∃ j, i ≤ j ∧ j < i + n ∧ f_less f n i = nI j := by
  intro n
  induction n with
  | zero => intro i; exact Or.inl rfl
  | succ n ih =>
    intro i
    show (if f (i - 1) ≤ f i then f_less f n (i + 1) else nI i) = -9 ∨ ∃ j, i ≤ j ∧ j < i + (n + 1) ∧ (if f (i - 1) ≤ f i then f_less f n (i + 1) else nI i) = nI j
    by_cases h : f (i - 1) ≤ f i
    · rw [if_pos h]
      exact (ih (i + 1)).imp id (fun ⟨j, h1, h2, h3⟩ => ⟨j, by omega, by omega, h3⟩)
    · rw [if_neg h]
      exact Or.inr ⟨i, by omega, by omega, rfl⟩
theorem f_less_congr {f g : Nat → Int32} : ∀ (n i : Nat), 1 ≤ i → (∀ k, k < i + n → f k = g k) → f_less f n i = f_less g n i := by
  intro n
  induction n with
  | zero => intro i _ h; rfl
  | succ n ih =>
    intro i hi h
    show (if f (i - 1) ≤ f i then f_less f n (i + 1) else nI i) = (if g (i - 1) ≤ g i then f_less g n (i + 1) else nI i)
    rw [h i (by omega), h (i - 1) (by omega), ih (i + 1) (by omega) (fun k hk => h k (by omega))]
def fnN (b : Nat) (l : LT) (s m : Nat) : Nat := (if brN l m < brN l (m - 1) then 1 else 0) + (if tmN b (nI s) (nI (plN l m)) < tmN b (nI s) (nI (plN l (m - 1))) then 2 else 0)
section TK
variable {X : XX} {I A : Nat → Nat → Int32} {J B : Nat → Nat → Int64} {F : Nat → Nat}
theorem sK_nof1 (n : Nat) (hn : n < 1 ∨ 8 < n) (h2 : n < 1000) : x_ev X xT 1 125 [.int (nI n)] (HX I A J B F) (some (.int (nI 1))) (HX I A J B F) := by
  have e := sX8_isNoFollowing (X := X) (I := I) (A := A) (J := J) (B := B) (F := F) (nI n)
  by_cases h : n < 1
  · rw [if_pos (show nI n < 1 from nI_lt (b := 1) h (by omega))] at e
    exact e
  · rw [if_neg (show ¬ nI n < 1 from nI_nlt (b := 1) (by omega) (by omega)), if_neg (show ¬ nI n ≤ 8 from nI_ge (a := 8) (by omega) (by omega))] at e
    exact e
theorem sK_nof0 (n : Nat) (h1 : 1 ≤ n) (h8 : n ≤ 8) : x_ev X xT 1 125 [.int (nI n)] (HX I A J B F) (some (.int (nI 0))) (HX I A J B F) := by
  have e := sX8_isNoFollowing (X := X) (I := I) (A := A) (J := J) (B := B) (F := F) (nI n)
  rw [if_neg (show ¬ nI n < 1 from nI_nlt (b := 1) (by omega) (by omega)), if_pos (show nI n ≤ 8 from nI_le (b := 8) (by omega) (by omega))] at e
  exact e
theorem sK_nofX (x : Int32) (hx : x < nI 1 ∨ nI 8 < x) : x_ev X xT 1 125 [.int x] (HX I A J B F) (some (.int (nI 1))) (HX I A J B F) := by
  have e := sX8_isNoFollowing (X := X) (I := I) (A := A) (J := J) (B := B) (F := F) x
  by_cases h : x < nI 1
  · rw [if_pos (show x < 1 from h)] at e
    exact e
  · rw [if_neg (show ¬ x < 1 from h), if_neg (show ¬ x ≤ 8 from Int32.not_le.mpr (hx.resolve_left h))] at e
    exact e
theorem sK_eff {st : Nat} (e7 : I 7 1 = nI st) (fi x : Int32) : x_ev X xT 3 74 [.ref 7, .int fi, .int x] (HX I A J B F) (some (.int (f_ef (nI st) fi x))) (HX I A J B F) := e7 ▸ sX6_effortOf hx_7 fi x
theorem m_eff {st s : Nat} (hst : st < 24) (hs : s < 24) (est : I 51 2 = nI st) {x : Int32} (hx : okN (-6) (nI 6) x) : x_ev X xT 2 197 [.ref 51, .int (nI s), .int x] (HX I A J B F) (some (.int (f_ef (nI st) (nI s) x))) (HX I A J B F) := by
  obtain ⟨j, hj, rfl⟩ := by6 hx.1 hx.2
  rw [ef_eq hst hs hj]
  exact sX9_effortFrom st s j hst hs hj est
end TK
theorem sX8_refuseTurns_M {X : XX} {I A : Nat → Nat → Int32} {J B : Nat → Nat → Int64} {F : Nat → Nat} (q : Nat) (hq : q < 10) (hz : I (20 + 2 * q) 1 = -1)  : x_ev X xT 3 132 [.ref 0, .ref (20 + 2 * q)] (HX I A J B F) (some (.int (-3))) (HX (u2 I 0 13 (nI 1)) (f_cnt A 19 1) J B F) := by
  refine q_ev (L := [some (.ref 0), some (.ref (20 + 2 * q)), none]) tX8_refuseTurns (Nat.le_of_ble_eq_true rfl) rfl ?_
  refine q_aload_n rfl rfl ?_
  refine q_aload_n rfl rfl ?_
  refine q_callV1 rfl hx_0 (Nat.le_of_ble_eq_true rfl) (Nat.le_of_ble_eq_true rfl) (sX8_refuseLine_M q hq hz) ?_
  refine q_istore_n (L' := [_, _, _]) rfl rfl ?_
  refine q_aload_n rfl rfl ?_
  refine q_ifnull rfl ?_
  refine q_iload_n rfl rfl ?_
  refine q_if_eq rfl (fun hc11 => ?_) (fun hc11 => ?_)
  · exact absurd hc11 (by decide)
  · refine q_iload_n rfl rfl ?_
    refine q_iret rfl rfl ?_
    exact ⟨rfl, rfl⟩
theorem sX8_refuseTurns_S {X : XX} {I A : Nat → Nat → Int32} {J B : Nat → Nat → Int64} {F : Nat → Nat} (q : Nat) (hq : q < 10) (n : Nat) (hn : n ≤ rm q) (hz : I (20 + 2 * q) 1 = nI n) (hn8 : n < 1 ∨ 8 < n)  : x_ev X xT 3 132 [.ref 0, .ref (20 + 2 * q)] (HX I A J B F) (some (.int (-3))) (HX (u2 I 0 13 (nI 5)) (f_cnt A 19 5) J B F) := by
  refine q_ev (L := [some (.ref 0), some (.ref (20 + 2 * q)), none]) tX8_refuseTurns (Nat.le_of_ble_eq_true rfl) rfl ?_
  refine q_aload_n rfl rfl ?_
  refine q_aload_n rfl rfl ?_
  refine q_callV1 rfl hx_0 (Nat.le_of_ble_eq_true rfl) (Nat.le_of_ble_eq_true rfl) (sX8_refuseLine_0 q hq n hn hz) ?_
  refine q_istore_n (L' := [_, _, _]) rfl rfl ?_
  refine q_aload_n rfl rfl ?_
  refine q_ifnull rfl ?_
  refine q_iload_n rfl rfl ?_
  refine q_if_eqN rfl (by omega) (fun hc11 => ?_) (fun hc11 => ?_)
  · refine q_aload_n rfl rfl ?_
    refine q_callV0 rfl (hx_line q hq) (Nat.le_of_ble_eq_true rfl) (Nat.le_of_ble_eq_true rfl) (sL_size q hq hz) ?_
    refine q_callS1 rfl rfl (Nat.le_of_ble_eq_true rfl) (Nat.le_of_ble_eq_true rfl) (sK_nof1 n hn8 (by have := rm_le q; omega)) ?_
    refine q_if_eqN rfl (by omega) (fun hc23 => ?_) (fun hc23 => ?_)
    · exact absurd hc23 (by decide)
    · refine q_aload_n rfl rfl ?_
      refine q_iconst (v := nI 5) rfl rfl ?_
      refine q_callV1 rfl hx_0 (Nat.le_of_ble_eq_true rfl) (Nat.le_of_ble_eq_true rfl) (sX8_found 5 (by decide)) ?_
      refine q_iret rfl rfl ?_
      exact ⟨rfl, rfl⟩
  · exact absurd hc11 (by decide)
theorem sX8_refuseTurns_U {X : XX} {I A : Nat → Nat → Int32} {J B : Nat → Nat → Int64} {F : Nat → Nat} (q : Nat) (hq : q < 10) (n : Nat) (hn : n ≤ rm q) (hz : I (20 + 2 * q) 1 = nI n) (n1 : 1 ≤ n) (n8 : n ≤ 8) (hno : ¬ ∀ k, k < n → okN (-6) (nI 6) (A (21 + 2 * q) k))  : x_ev X xT 3 132 [.ref 0, .ref (20 + 2 * q)] (HX I A J B F) (some (.int (-3))) (HX (u2 I 0 13 (nI 3)) (f_cnt A 19 3) J B F) := by
  refine q_ev (L := [some (.ref 0), some (.ref (20 + 2 * q)), none]) tX8_refuseTurns (Nat.le_of_ble_eq_true rfl) rfl ?_
  refine q_aload_n rfl rfl ?_
  refine q_aload_n rfl rfl ?_
  refine q_callV1 rfl hx_0 (Nat.le_of_ble_eq_true rfl) (Nat.le_of_ble_eq_true rfl) (sX8_refuseLine_0 q hq n hn hz) ?_
  refine q_istore_n (L' := [_, _, _]) rfl rfl ?_
  refine q_aload_n rfl rfl ?_
  refine q_ifnull rfl ?_
  refine q_iload_n rfl rfl ?_
  refine q_if_eqN rfl (by omega) (fun hc11 => ?_) (fun hc11 => ?_)
  · refine q_aload_n rfl rfl ?_
    refine q_callV0 rfl (hx_line q hq) (Nat.le_of_ble_eq_true rfl) (Nat.le_of_ble_eq_true rfl) (sL_size q hq hz) ?_
    refine q_callS1 rfl rfl (Nat.le_of_ble_eq_true rfl) (Nat.le_of_ble_eq_true rfl) (sK_nof0 n n1 n8) ?_
    refine q_if_eqN rfl (by omega) (fun hc23 => ?_) (fun hc23 => ?_)
    · refine q_aload_n rfl rfl ?_
      refine q_bipush (v := (-6)) rfl rfl ?_
      refine q_bipush (v := nI 6) rfl rfl ?_
      refine q_callV2 rfl (hx_line q hq) (Nat.le_of_ble_eq_true rfl) (Nat.le_of_ble_eq_true rfl) (sL_all q hq n hn hz _ _) ?_
      refine q_cn (show _ = nI 0 from f_all_0 n 0 (fun z => hno (fun k hk => z k (by omega) (by omega)))) ?_
      refine q_if_eqN rfl (by omega) (fun hc40 => ?_) (fun hc40 => ?_)
      · refine q_aload_n rfl rfl ?_
        refine q_iconst (v := nI 3) rfl rfl ?_
        refine q_callV1 rfl hx_0 (Nat.le_of_ble_eq_true rfl) (Nat.le_of_ble_eq_true rfl) (sX8_found 3 (by decide)) ?_
        refine q_iret rfl rfl ?_
        exact ⟨rfl, rfl⟩
      · exact absurd hc40 (by decide)
    · exact absurd hc23 (by decide)
  · exact absurd hc11 (by decide)
theorem sX8_refuseTurns_0 {X : XX} {I A : Nat → Nat → Int32} {J B : Nat → Nat → Int64} {F : Nat → Nat} (q : Nat) (hq : q < 10) (n : Nat) (hn : n ≤ rm q) (hz : I (20 + 2 * q) 1 = nI n) (n1 : 1 ≤ n) (n8 : n ≤ 8) (hok : ∀ k, k < n → okN (-6) (nI 6) (A (21 + 2 * q) k))  : x_ev X xT 3 132 [.ref 0, .ref (20 + 2 * q)] (HX I A J B F) (some (.int (nI 0))) (HX I A J B F) := by
  refine q_ev (L := [some (.ref 0), some (.ref (20 + 2 * q)), none]) tX8_refuseTurns (Nat.le_of_ble_eq_true rfl) rfl ?_
  refine q_aload_n rfl rfl ?_
  refine q_aload_n rfl rfl ?_
  refine q_callV1 rfl hx_0 (Nat.le_of_ble_eq_true rfl) (Nat.le_of_ble_eq_true rfl) (sX8_refuseLine_0 q hq n hn hz) ?_
  refine q_istore_n (L' := [_, _, _]) rfl rfl ?_
  refine q_aload_n rfl rfl ?_
  refine q_ifnull rfl ?_
  refine q_iload_n rfl rfl ?_
  refine q_if_eqN rfl (by omega) (fun hc11 => ?_) (fun hc11 => ?_)
  · refine q_aload_n rfl rfl ?_
    refine q_callV0 rfl (hx_line q hq) (Nat.le_of_ble_eq_true rfl) (Nat.le_of_ble_eq_true rfl) (sL_size q hq hz) ?_
    refine q_callS1 rfl rfl (Nat.le_of_ble_eq_true rfl) (Nat.le_of_ble_eq_true rfl) (sK_nof0 n n1 n8) ?_
    refine q_if_eqN rfl (by omega) (fun hc23 => ?_) (fun hc23 => ?_)
    · refine q_aload_n rfl rfl ?_
      refine q_bipush (v := (-6)) rfl rfl ?_
      refine q_bipush (v := nI 6) rfl rfl ?_
      refine q_callV2 rfl (hx_line q hq) (Nat.le_of_ble_eq_true rfl) (Nat.le_of_ble_eq_true rfl) (sL_all q hq n hn hz _ _) ?_
      refine q_cn (show _ = nI 1 from f_all_1 n 0 (fun k _ hk => hok k (by omega))) ?_
      refine q_if_eqN rfl (by omega) (fun hc40 => ?_) (fun hc40 => ?_)
      · exact absurd hc40 (by decide)
      · refine q_iconst (v := nI 0) rfl rfl ?_
        refine q_goto rfl ?_
        refine q_iret rfl rfl ?_
        exact ⟨rfl, rfl⟩
    · exact absurd hc23 (by decide)
  · exact absurd hc11 (by decide)
theorem sX8_refuseNotes_M {X : XX} {I A : Nat → Nat → Int32} {J B : Nat → Nat → Int64} {F : Nat → Nat} (q : Nat) (hq : q < 10) (hz : I (20 + 2 * q) 1 = -1)  : x_ev X xT 3 133 [.ref 0, .ref (20 + 2 * q)] (HX I A J B F) (some (.int (-3))) (HX (u2 I 0 13 (nI 1)) (f_cnt A 19 1) J B F) := by
  refine q_ev (L := [some (.ref 0), some (.ref (20 + 2 * q)), none]) tX8_refuseNotes (Nat.le_of_ble_eq_true rfl) rfl ?_
  refine q_aload_n rfl rfl ?_
  refine q_aload_n rfl rfl ?_
  refine q_callV1 rfl hx_0 (Nat.le_of_ble_eq_true rfl) (Nat.le_of_ble_eq_true rfl) (sX8_refuseLine_M q hq hz) ?_
  refine q_istore_n (L' := [_, _, _]) rfl rfl ?_
  refine q_aload_n rfl rfl ?_
  refine q_ifnull rfl ?_
  refine q_iload_n rfl rfl ?_
  refine q_if_eq rfl (fun hc11 => ?_) (fun hc11 => ?_)
  · exact absurd hc11 (by decide)
  · refine q_iload_n rfl rfl ?_
    refine q_iret rfl rfl ?_
    exact ⟨rfl, rfl⟩
theorem sX8_refuseNotes_S {X : XX} {I A : Nat → Nat → Int32} {J B : Nat → Nat → Int64} {F : Nat → Nat} (q : Nat) (hq : q < 10) (n : Nat) (hn : n ≤ rm q) (hz : I (20 + 2 * q) 1 = nI n) (hn8 : 20 < n)  : x_ev X xT 3 133 [.ref 0, .ref (20 + 2 * q)] (HX I A J B F) (some (.int (-3))) (HX (u2 I 0 13 (nI 5)) (f_cnt A 19 5) J B F) := by
  refine q_ev (L := [some (.ref 0), some (.ref (20 + 2 * q)), none]) tX8_refuseNotes (Nat.le_of_ble_eq_true rfl) rfl ?_
  refine q_aload_n rfl rfl ?_
  refine q_aload_n rfl rfl ?_
  refine q_callV1 rfl hx_0 (Nat.le_of_ble_eq_true rfl) (Nat.le_of_ble_eq_true rfl) (sX8_refuseLine_0 q hq n hn hz) ?_
  refine q_istore_n (L' := [_, _, _]) rfl rfl ?_
  refine q_aload_n rfl rfl ?_
  refine q_ifnull rfl ?_
  refine q_iload_n rfl rfl ?_
  refine q_if_eqN rfl (by omega) (fun hc11 => ?_) (fun hc11 => ?_)
  · refine q_aload_n rfl rfl ?_
    refine q_callV0 rfl (hx_line q hq) (Nat.le_of_ble_eq_true rfl) (Nat.le_of_ble_eq_true rfl) (sL_size q hq hz) ?_
    refine q_bipush (v := nI 20) rfl rfl ?_
    refine q_icmp_leN rfl (by have := rm_le q; omega) (by omega) (fun hc22 => ?_) (fun hc22 => ?_)
    · omega
    · refine q_aload_n rfl rfl ?_
      refine q_iconst (v := nI 5) rfl rfl ?_
      refine q_callV1 rfl hx_0 (Nat.le_of_ble_eq_true rfl) (Nat.le_of_ble_eq_true rfl) (sX8_found 5 (by decide)) ?_
      refine q_iret rfl rfl ?_
      exact ⟨rfl, rfl⟩
  · exact absurd hc11 (by decide)
theorem sX8_refuseNotes_U {X : XX} {I A : Nat → Nat → Int32} {J B : Nat → Nat → Int64} {F : Nat → Nat} (q : Nat) (hq : q < 10) (n : Nat) (hn : n ≤ rm q) (hz : I (20 + 2 * q) 1 = nI n) (n8 : n ≤ 20) (hno : ¬ ∀ k, k < n → okN (nI 0) 2147483647 (A (21 + 2 * q) k))  : x_ev X xT 3 133 [.ref 0, .ref (20 + 2 * q)] (HX I A J B F) (some (.int (-3))) (HX (u2 I 0 13 (nI 3)) (f_cnt A 19 3) J B F) := by
  refine q_ev (L := [some (.ref 0), some (.ref (20 + 2 * q)), none]) tX8_refuseNotes (Nat.le_of_ble_eq_true rfl) rfl ?_
  refine q_aload_n rfl rfl ?_
  refine q_aload_n rfl rfl ?_
  refine q_callV1 rfl hx_0 (Nat.le_of_ble_eq_true rfl) (Nat.le_of_ble_eq_true rfl) (sX8_refuseLine_0 q hq n hn hz) ?_
  refine q_istore_n (L' := [_, _, _]) rfl rfl ?_
  refine q_aload_n rfl rfl ?_
  refine q_ifnull rfl ?_
  refine q_iload_n rfl rfl ?_
  refine q_if_eqN rfl (by omega) (fun hc11 => ?_) (fun hc11 => ?_)
  · refine q_aload_n rfl rfl ?_
    refine q_callV0 rfl (hx_line q hq) (Nat.le_of_ble_eq_true rfl) (Nat.le_of_ble_eq_true rfl) (sL_size q hq hz) ?_
    refine q_bipush (v := nI 20) rfl rfl ?_
    refine q_icmp_leN rfl (by have := rm_le q; omega) (by omega) (fun hc22 => ?_) (fun hc22 => ?_)
    · refine q_aload_n rfl rfl ?_
      refine q_iconst (v := nI 0) rfl rfl ?_
      refine q_ldc_w (v := 2147483647) rfl rfl ?_
      refine q_callV2 rfl (hx_line q hq) (Nat.le_of_ble_eq_true rfl) (Nat.le_of_ble_eq_true rfl) (sL_all q hq n hn hz _ _) ?_
      refine q_cn (show _ = nI 0 from f_all_0 n 0 (fun z => hno (fun k hk => z k (by omega) (by omega)))) ?_
      refine q_if_eqN rfl (by omega) (fun hc39 => ?_) (fun hc39 => ?_)
      · refine q_aload_n rfl rfl ?_
        refine q_iconst (v := nI 3) rfl rfl ?_
        refine q_callV1 rfl hx_0 (Nat.le_of_ble_eq_true rfl) (Nat.le_of_ble_eq_true rfl) (sX8_found 3 (by decide)) ?_
        refine q_iret rfl rfl ?_
        exact ⟨rfl, rfl⟩
      · exact absurd hc39 (by decide)
    · omega
  · exact absurd hc11 (by decide)
theorem sX8_refuseNotes_0 {X : XX} {I A : Nat → Nat → Int32} {J B : Nat → Nat → Int64} {F : Nat → Nat} (q : Nat) (hq : q < 10) (n : Nat) (hn : n ≤ rm q) (hz : I (20 + 2 * q) 1 = nI n) (n8 : n ≤ 20) (hok : ∀ k, k < n → okN (nI 0) 2147483647 (A (21 + 2 * q) k))  : x_ev X xT 3 133 [.ref 0, .ref (20 + 2 * q)] (HX I A J B F) (some (.int (nI 0))) (HX I A J B F) := by
  refine q_ev (L := [some (.ref 0), some (.ref (20 + 2 * q)), none]) tX8_refuseNotes (Nat.le_of_ble_eq_true rfl) rfl ?_
  refine q_aload_n rfl rfl ?_
  refine q_aload_n rfl rfl ?_
  refine q_callV1 rfl hx_0 (Nat.le_of_ble_eq_true rfl) (Nat.le_of_ble_eq_true rfl) (sX8_refuseLine_0 q hq n hn hz) ?_
  refine q_istore_n (L' := [_, _, _]) rfl rfl ?_
  refine q_aload_n rfl rfl ?_
  refine q_ifnull rfl ?_
  refine q_iload_n rfl rfl ?_
  refine q_if_eqN rfl (by omega) (fun hc11 => ?_) (fun hc11 => ?_)
  · refine q_aload_n rfl rfl ?_
    refine q_callV0 rfl (hx_line q hq) (Nat.le_of_ble_eq_true rfl) (Nat.le_of_ble_eq_true rfl) (sL_size q hq hz) ?_
    refine q_bipush (v := nI 20) rfl rfl ?_
    refine q_icmp_leN rfl (by have := rm_le q; omega) (by omega) (fun hc22 => ?_) (fun hc22 => ?_)
    · refine q_aload_n rfl rfl ?_
      refine q_iconst (v := nI 0) rfl rfl ?_
      refine q_ldc_w (v := 2147483647) rfl rfl ?_
      refine q_callV2 rfl (hx_line q hq) (Nat.le_of_ble_eq_true rfl) (Nat.le_of_ble_eq_true rfl) (sL_all q hq n hn hz _ _) ?_
      refine q_cn (show _ = nI 1 from f_all_1 n 0 (fun k _ hk => hok k (by omega))) ?_
      refine q_if_eqN rfl (by omega) (fun hc39 => ?_) (fun hc39 => ?_)
      · exact absurd hc39 (by decide)
      · refine q_iconst (v := nI 0) rfl rfl ?_
        refine q_goto rfl ?_
        refine q_iret rfl rfl ?_
        exact ⟨rfl, rfl⟩
    · omega
  · exact absurd hc11 (by decide)
theorem sX9_areAll {X : XX} {I A : Nat → Nat → Int32} {J B : Nat → Nat → Int64} {F : Nat → Nat} (q : Nat) (hr : q < 6) (n : Nat) (hn : n ≤ 40) (hz : A 57 q = nI n) (lo hi : Int32) : x_ev X xT 2 219 [.ref 51, .int (nI q), .int lo, .int hi] (HX I A J B F) (some (.int (nI (alN (fun x => A 58 (40 * q + x)) lo hi n)))) (HX I A J B F) := by
  refine q_ev (L := [some (.ref 51), some (.int (nI q)), some (.int lo), some (.int hi), none, none]) tX9_areAll (Nat.le_of_ble_eq_true rfl) rfl ?_
  refine q_iconst (v := nI 1) rfl rfl ?_
  refine q_istore (L' := [_, _, _, _, _, _]) rfl rfl ?_
  refine q_iconst (v := nI 0) rfl rfl ?_
  refine q_istore (L' := [_, _, _, _, _, _]) rfl rfl ?_
  refine q_up (Inv := fun k L h => L = [some (.ref 51), some (.int (nI q)), some (.int lo), some (.int hi), some (.int (nI (alN (fun x => A 58 (40 * q + x)) lo hi k))), some (.int (nI k))] ∧ h = HX I A J B F) (n) (fun k L h hk_k hi_k ih_k => ?_) (fun L h hi_k => ?_) (0) _ _ (by omega) (⟨rfl, rfl⟩)
  · obtain ⟨rfl, rfl⟩ := hi_k
    refine q_iload rfl rfl ?_
    refine q_aload_n rfl rfl ?_
    refine q_getfield rfl hx_51 rfl ?_
    refine q_iload_n rfl rfl ?_
    refine q_iald rfl (by decide) hx_57 (by omega) (by decide) (hz) ?_
    refine q_icmp_geN rfl (by omega) (by omega) (fun hcks14 => ?_) (fun hcks14 => ?_)
    · omega
    · refine q_iload rfl rfl ?_
      refine q_if_eqN rfl (by have := alN_le (fun x => A 58 (40 * q + x)) lo hi k; omega) (fun hcks19 => ?_) (fun hcks19 => ?_)
      · refine q_iconst (v := nI 0) rfl rfl ?_
        refine q_istore (L' := [_, _, _, _, _, _]) rfl rfl ?_
        refine q_iincN (c := 1) (L' := [_, _, _, _, _, _]) rfl rfl rfl rfl ?_
        refine q_goto rfl ?_
        exact ih_k _ _ (⟨by rw [show ∀ f a c j, alN f a c (j + 1) = if alN f a c j = 0 then 0 else if f_inL (f j).toInt64 a.toInt64 c.toInt64 = 0 then 0 else 1 from fun _ _ _ _ => rfl]; first | rw [if_pos hcks19] | (rw [if_neg hcks19]; first | rw [if_pos hcks42] | rw [if_neg hcks42]), rfl⟩)
      · refine q_aload_n rfl rfl ?_
        refine q_getfield rfl hx_51 rfl ?_
        refine q_bipush (v := nI 40) rfl rfl ?_
        refine q_iload_n rfl rfl ?_
        refine q_imulN rfl ?_
        refine q_iload rfl rfl ?_
        refine q_iaddN rfl ?_
        refine q_iald rfl (by decide) hx_58 (by omega) (by decide) (rfl) ?_
        refine q_i2l rfl ?_
        refine q_iload_n rfl rfl ?_
        refine q_i2l rfl ?_
        refine q_iload_n rfl rfl ?_
        refine q_i2l rfl ?_
        refine q_callS3 rfl rfl (Nat.le_of_ble_eq_true rfl) (Nat.le_of_ble_eq_true rfl) (sX9_in _ _ _) ?_
        refine q_if_eq rfl (fun hcks42 => ?_) (fun hcks42 => ?_)
        · refine q_iconst (v := nI 0) rfl rfl ?_
          refine q_istore (L' := [_, _, _, _, _, _]) rfl rfl ?_
          refine q_iincN (c := 1) (L' := [_, _, _, _, _, _]) rfl rfl rfl rfl ?_
          refine q_goto rfl ?_
          exact ih_k _ _ (⟨by rw [show ∀ f a c j, alN f a c (j + 1) = if alN f a c j = 0 then 0 else if f_inL (f j).toInt64 a.toInt64 c.toInt64 = 0 then 0 else 1 from fun _ _ _ _ => rfl]; first | rw [if_pos hcks19] | (rw [if_neg hcks19]; first | rw [if_pos hcks42] | rw [if_neg hcks42]), rfl⟩)
        · refine q_iconst (v := nI 1) rfl rfl ?_
          refine q_goto rfl ?_
          refine q_istore (L' := [_, _, _, _, _, _]) rfl rfl ?_
          refine q_iincN (c := 1) (L' := [_, _, _, _, _, _]) rfl rfl rfl rfl ?_
          refine q_goto rfl ?_
          exact ih_k _ _ (⟨by rw [show ∀ f a c j, alN f a c (j + 1) = if alN f a c j = 0 then 0 else if f_inL (f j).toInt64 a.toInt64 c.toInt64 = 0 then 0 else 1 from fun _ _ _ _ => rfl]; first | rw [if_pos hcks19] | (rw [if_neg hcks19]; first | rw [if_pos hcks42] | rw [if_neg hcks42]), rfl⟩)
  · obtain ⟨rfl, rfl⟩ := hi_k
    refine q_iload rfl rfl ?_
    refine q_aload_n rfl rfl ?_
    refine q_getfield rfl hx_51 rfl ?_
    refine q_iload_n rfl rfl ?_
    refine q_iald rfl (by decide) hx_57 (by omega) (by decide) (hz) ?_
    refine q_icmp_geN rfl (by omega) (by omega) (fun hckf14 => ?_) (fun hckf14 => ?_)
    · refine q_iload rfl rfl ?_
      refine q_zret rfl rfl (by have h9 := alN_le (fun x => A 58 (40 * q + x)) lo hi n; rcases (show alN (fun x => A 58 (40 * q + x)) lo hi n = 0 ∨ alN (fun x => A 58 (40 * q + x)) lo hi n = 1 by omega) with h8 | h8 <;> rw [h8]; exact Or.inl rfl; exact Or.inr rfl) ?_
      exact ⟨rfl, rfl⟩
    · omega
theorem sX9_noTurns_M {X : XX} {I A : Nat → Nat → Int32} {J B : Nat → Nat → Int64} {F : Nat → Nat} (q : Nat) (hr : q < 6) (hz : A 57 q = -1)  : x_ev X xT 3 220 [.ref 51, .int (nI q)] (HX I A J B F) (some (.int (-3))) (HX (u2 I 51 15 (nI 1)) (f_cnt A 61 1) J B F) := by
  refine q_ev (L := [some (.ref 51), some (.int (nI q))]) tX9_noTurns (Nat.le_of_ble_eq_true rfl) rfl ?_
  refine q_aload_n rfl rfl ?_
  refine q_getfield rfl hx_51 rfl ?_
  refine q_iload_n rfl rfl ?_
  refine q_iald rfl (by decide) hx_57 (by omega) (by decide) (hz) ?_
  refine q_if_ge rfl (fun hc6 => ?_) (fun hc6 => ?_)
  · exact absurd hc6 (by decide)
  · refine q_aload_n rfl rfl ?_
    refine q_iconst (v := nI 1) rfl rfl ?_
    refine q_callV1 rfl hx_51 (Nat.le_of_ble_eq_true rfl) (Nat.le_of_ble_eq_true rfl) (sX9_find 1 (by decide)) ?_
    refine q_goto rfl ?_
    refine q_iret rfl rfl ?_
    exact ⟨rfl, rfl⟩
theorem sX9_noTurns_S {X : XX} {I A : Nat → Nat → Int32} {J B : Nat → Nat → Int64} {F : Nat → Nat} (q : Nat) (hr : q < 6) (n : Nat) (hn : n ≤ 40) (hz : A 57 q = nI n) (hn8 : n < 1 ∨ 8 < n)  : x_ev X xT 3 220 [.ref 51, .int (nI q)] (HX I A J B F) (some (.int (-3))) (HX (u2 I 51 15 (nI 5)) (f_cnt A 61 5) J B F) := by
  refine q_ev (L := [some (.ref 51), some (.int (nI q))]) tX9_noTurns (Nat.le_of_ble_eq_true rfl) rfl ?_
  refine q_aload_n rfl rfl ?_
  refine q_getfield rfl hx_51 rfl ?_
  refine q_iload_n rfl rfl ?_
  refine q_iald rfl (by decide) hx_57 (by omega) (by decide) (hz) ?_
  refine q_if_geN rfl (by omega) (fun hc6 => ?_) (fun hc6 => ?_)
  · refine q_aload_n rfl rfl ?_
    refine q_getfield rfl hx_51 rfl ?_
    refine q_iload_n rfl rfl ?_
    refine q_iald rfl (by decide) hx_57 (by omega) (by decide) (hz) ?_
    refine q_i2l rfl ?_
    refine q_lconst (v := 1) rfl rfl ?_
    refine q_ldc2_w (v := 8) rfl rfl ?_
    refine q_callS3 rfl rfl (Nat.le_of_ble_eq_true rfl) (Nat.le_of_ble_eq_true rfl) (sX9_in _ _ _) ?_
    refine q_cn (f_in_0 (lo := nI 1) (hi := nI 8) rfl rfl (hn8.imp (fun z => nI_lt z (by omega)) (fun z => nI_lt z (by omega)))) ?_
    refine q_if_neN rfl (by omega) (fun hc31 => ?_) (fun hc31 => ?_)
    · exact absurd hc31 (by decide)
    · refine q_aload_n rfl rfl ?_
      refine q_iconst (v := nI 5) rfl rfl ?_
      refine q_callV1 rfl hx_51 (Nat.le_of_ble_eq_true rfl) (Nat.le_of_ble_eq_true rfl) (sX9_find 5 (by decide)) ?_
      refine q_goto rfl ?_
      refine q_iret rfl rfl ?_
      exact ⟨rfl, rfl⟩
  · omega
theorem sX9_noTurns_U {X : XX} {I A : Nat → Nat → Int32} {J B : Nat → Nat → Int64} {F : Nat → Nat} (q : Nat) (hr : q < 6) (n : Nat) (hn : n ≤ 40) (hz : A 57 q = nI n) (n1 : 1 ≤ n) (n8 : n ≤ 8) (hno : ¬ ∀ k, k < n → okN (-6) (nI 6) ((fun x => A 58 (40 * q + x)) k))  : x_ev X xT 3 220 [.ref 51, .int (nI q)] (HX I A J B F) (some (.int (-3))) (HX (u2 I 51 15 (nI 3)) (f_cnt A 61 3) J B F) := by
  refine q_ev (L := [some (.ref 51), some (.int (nI q))]) tX9_noTurns (Nat.le_of_ble_eq_true rfl) rfl ?_
  refine q_aload_n rfl rfl ?_
  refine q_getfield rfl hx_51 rfl ?_
  refine q_iload_n rfl rfl ?_
  refine q_iald rfl (by decide) hx_57 (by omega) (by decide) (hz) ?_
  refine q_if_geN rfl (by omega) (fun hc6 => ?_) (fun hc6 => ?_)
  · refine q_aload_n rfl rfl ?_
    refine q_getfield rfl hx_51 rfl ?_
    refine q_iload_n rfl rfl ?_
    refine q_iald rfl (by decide) hx_57 (by omega) (by decide) (hz) ?_
    refine q_i2l rfl ?_
    refine q_lconst (v := 1) rfl rfl ?_
    refine q_ldc2_w (v := 8) rfl rfl ?_
    refine q_callS3 rfl rfl (Nat.le_of_ble_eq_true rfl) (Nat.le_of_ble_eq_true rfl) (sX9_in _ _ _) ?_
    refine q_cn (f_in_1 (lo := nI 1) (hi := nI 8) rfl rfl (nI_nlt (by omega) (by omega)) (nI_nlt (by omega) (by omega))) ?_
    refine q_if_neN rfl (by omega) (fun hc31 => ?_) (fun hc31 => ?_)
    · refine q_aload_n rfl rfl ?_
      refine q_iload_n rfl rfl ?_
      refine q_bipush (v := (-6)) rfl rfl ?_
      refine q_bipush (v := nI 6) rfl rfl ?_
      refine q_callV3 rfl hx_51 (Nat.le_of_ble_eq_true rfl) (Nat.le_of_ble_eq_true rfl) (sX9_areAll q hr n hn hz _ _) ?_
      refine q_cn (show _ = nI 0 by rw [alN_0 hno]) ?_
      refine q_if_eqN rfl (by omega) (fun hc51 => ?_) (fun hc51 => ?_)
      · refine q_aload_n rfl rfl ?_
        refine q_iconst (v := nI 3) rfl rfl ?_
        refine q_callV1 rfl hx_51 (Nat.le_of_ble_eq_true rfl) (Nat.le_of_ble_eq_true rfl) (sX9_find 3 (by decide)) ?_
        refine q_iret rfl rfl ?_
        exact ⟨rfl, rfl⟩
      · exact absurd hc51 (by decide)
    · exact absurd hc31 (by decide)
  · omega
theorem sX9_noTurns_0 {X : XX} {I A : Nat → Nat → Int32} {J B : Nat → Nat → Int64} {F : Nat → Nat} (q : Nat) (hr : q < 6) (n : Nat) (hn : n ≤ 40) (hz : A 57 q = nI n) (n1 : 1 ≤ n) (n8 : n ≤ 8) (hok : ∀ k, k < n → okN (-6) (nI 6) ((fun x => A 58 (40 * q + x)) k))  : x_ev X xT 3 220 [.ref 51, .int (nI q)] (HX I A J B F) (some (.int (nI 0))) (HX I A J B F) := by
  refine q_ev (L := [some (.ref 51), some (.int (nI q))]) tX9_noTurns (Nat.le_of_ble_eq_true rfl) rfl ?_
  refine q_aload_n rfl rfl ?_
  refine q_getfield rfl hx_51 rfl ?_
  refine q_iload_n rfl rfl ?_
  refine q_iald rfl (by decide) hx_57 (by omega) (by decide) (hz) ?_
  refine q_if_geN rfl (by omega) (fun hc6 => ?_) (fun hc6 => ?_)
  · refine q_aload_n rfl rfl ?_
    refine q_getfield rfl hx_51 rfl ?_
    refine q_iload_n rfl rfl ?_
    refine q_iald rfl (by decide) hx_57 (by omega) (by decide) (hz) ?_
    refine q_i2l rfl ?_
    refine q_lconst (v := 1) rfl rfl ?_
    refine q_ldc2_w (v := 8) rfl rfl ?_
    refine q_callS3 rfl rfl (Nat.le_of_ble_eq_true rfl) (Nat.le_of_ble_eq_true rfl) (sX9_in _ _ _) ?_
    refine q_cn (f_in_1 (lo := nI 1) (hi := nI 8) rfl rfl (nI_nlt (by omega) (by omega)) (nI_nlt (by omega) (by omega))) ?_
    refine q_if_neN rfl (by omega) (fun hc31 => ?_) (fun hc31 => ?_)
    · refine q_aload_n rfl rfl ?_
      refine q_iload_n rfl rfl ?_
      refine q_bipush (v := (-6)) rfl rfl ?_
      refine q_bipush (v := nI 6) rfl rfl ?_
      refine q_callV3 rfl hx_51 (Nat.le_of_ble_eq_true rfl) (Nat.le_of_ble_eq_true rfl) (sX9_areAll q hr n hn hz _ _) ?_
      refine q_cn (show _ = nI 1 by rw [alN_1 hok]) ?_
      refine q_if_eqN rfl (by omega) (fun hc51 => ?_) (fun hc51 => ?_)
      · exact absurd hc51 (by decide)
      · refine q_iconst (v := nI 0) rfl rfl ?_
        refine q_goto rfl ?_
        refine q_iret rfl rfl ?_
        exact ⟨rfl, rfl⟩
    · exact absurd hc31 (by decide)
  · omega
theorem sX9_noNotes_M {X : XX} {I A : Nat → Nat → Int32} {J B : Nat → Nat → Int64} {F : Nat → Nat} (q : Nat) (hr : q < 6) (hz : A 57 q = -1)  : x_ev X xT 3 225 [.ref 51, .int (nI q)] (HX I A J B F) (some (.int (-3))) (HX (u2 I 51 15 (nI 1)) (f_cnt A 61 1) J B F) := by
  refine q_ev (L := [some (.ref 51), some (.int (nI q))]) tX9_noNotes (Nat.le_of_ble_eq_true rfl) rfl ?_
  refine q_aload_n rfl rfl ?_
  refine q_getfield rfl hx_51 rfl ?_
  refine q_iload_n rfl rfl ?_
  refine q_iald rfl (by decide) hx_57 (by omega) (by decide) (hz) ?_
  refine q_if_ge rfl (fun hc6 => ?_) (fun hc6 => ?_)
  · exact absurd hc6 (by decide)
  · refine q_aload_n rfl rfl ?_
    refine q_iconst (v := nI 1) rfl rfl ?_
    refine q_callV1 rfl hx_51 (Nat.le_of_ble_eq_true rfl) (Nat.le_of_ble_eq_true rfl) (sX9_find 1 (by decide)) ?_
    refine q_goto rfl ?_
    refine q_iret rfl rfl ?_
    exact ⟨rfl, rfl⟩
theorem sX9_noNotes_S {X : XX} {I A : Nat → Nat → Int32} {J B : Nat → Nat → Int64} {F : Nat → Nat} (q : Nat) (hr : q < 6) (n : Nat) (hn : n ≤ 40) (hz : A 57 q = nI n) (hn8 : 20 < n)  : x_ev X xT 3 225 [.ref 51, .int (nI q)] (HX I A J B F) (some (.int (-3))) (HX (u2 I 51 15 (nI 5)) (f_cnt A 61 5) J B F) := by
  refine q_ev (L := [some (.ref 51), some (.int (nI q))]) tX9_noNotes (Nat.le_of_ble_eq_true rfl) rfl ?_
  refine q_aload_n rfl rfl ?_
  refine q_getfield rfl hx_51 rfl ?_
  refine q_iload_n rfl rfl ?_
  refine q_iald rfl (by decide) hx_57 (by omega) (by decide) (hz) ?_
  refine q_if_geN rfl (by omega) (fun hc6 => ?_) (fun hc6 => ?_)
  · refine q_aload_n rfl rfl ?_
    refine q_getfield rfl hx_51 rfl ?_
    refine q_iload_n rfl rfl ?_
    refine q_iald rfl (by decide) hx_57 (by omega) (by decide) (hz) ?_
    refine q_bipush (v := nI 20) rfl rfl ?_
    refine q_icmp_leN rfl (by omega) (by omega) (fun hc25 => ?_) (fun hc25 => ?_)
    · omega
    · refine q_aload_n rfl rfl ?_
      refine q_iconst (v := nI 5) rfl rfl ?_
      refine q_callV1 rfl hx_51 (Nat.le_of_ble_eq_true rfl) (Nat.le_of_ble_eq_true rfl) (sX9_find 5 (by decide)) ?_
      refine q_goto rfl ?_
      refine q_iret rfl rfl ?_
      exact ⟨rfl, rfl⟩
  · omega
theorem sX9_noNotes_U {X : XX} {I A : Nat → Nat → Int32} {J B : Nat → Nat → Int64} {F : Nat → Nat} (q : Nat) (hr : q < 6) (n : Nat) (hn : n ≤ 40) (hz : A 57 q = nI n) (n8 : n ≤ 20) (hno : ¬ ∀ k, k < n → okN (nI 0) 2147483647 ((fun x => A 58 (40 * q + x)) k))  : x_ev X xT 3 225 [.ref 51, .int (nI q)] (HX I A J B F) (some (.int (-3))) (HX (u2 I 51 15 (nI 3)) (f_cnt A 61 3) J B F) := by
  refine q_ev (L := [some (.ref 51), some (.int (nI q))]) tX9_noNotes (Nat.le_of_ble_eq_true rfl) rfl ?_
  refine q_aload_n rfl rfl ?_
  refine q_getfield rfl hx_51 rfl ?_
  refine q_iload_n rfl rfl ?_
  refine q_iald rfl (by decide) hx_57 (by omega) (by decide) (hz) ?_
  refine q_if_geN rfl (by omega) (fun hc6 => ?_) (fun hc6 => ?_)
  · refine q_aload_n rfl rfl ?_
    refine q_getfield rfl hx_51 rfl ?_
    refine q_iload_n rfl rfl ?_
    refine q_iald rfl (by decide) hx_57 (by omega) (by decide) (hz) ?_
    refine q_bipush (v := nI 20) rfl rfl ?_
    refine q_icmp_leN rfl (by omega) (by omega) (fun hc25 => ?_) (fun hc25 => ?_)
    · refine q_aload_n rfl rfl ?_
      refine q_iload_n rfl rfl ?_
      refine q_iconst (v := nI 0) rfl rfl ?_
      refine q_ldc_w (v := 2147483647) rfl rfl ?_
      refine q_callV3 rfl hx_51 (Nat.le_of_ble_eq_true rfl) (Nat.le_of_ble_eq_true rfl) (sX9_areAll q hr n hn hz _ _) ?_
      refine q_cn (show _ = nI 0 by rw [alN_0 hno]) ?_
      refine q_if_eqN rfl (by omega) (fun hc45 => ?_) (fun hc45 => ?_)
      · refine q_aload_n rfl rfl ?_
        refine q_iconst (v := nI 3) rfl rfl ?_
        refine q_callV1 rfl hx_51 (Nat.le_of_ble_eq_true rfl) (Nat.le_of_ble_eq_true rfl) (sX9_find 3 (by decide)) ?_
        refine q_iret rfl rfl ?_
        exact ⟨rfl, rfl⟩
      · exact absurd hc45 (by decide)
    · omega
  · omega
theorem sX9_noNotes_0 {X : XX} {I A : Nat → Nat → Int32} {J B : Nat → Nat → Int64} {F : Nat → Nat} (q : Nat) (hr : q < 6) (n : Nat) (hn : n ≤ 40) (hz : A 57 q = nI n) (n8 : n ≤ 20) (hok : ∀ k, k < n → okN (nI 0) 2147483647 ((fun x => A 58 (40 * q + x)) k))  : x_ev X xT 3 225 [.ref 51, .int (nI q)] (HX I A J B F) (some (.int (nI 0))) (HX I A J B F) := by
  refine q_ev (L := [some (.ref 51), some (.int (nI q))]) tX9_noNotes (Nat.le_of_ble_eq_true rfl) rfl ?_
  refine q_aload_n rfl rfl ?_
  refine q_getfield rfl hx_51 rfl ?_
  refine q_iload_n rfl rfl ?_
  refine q_iald rfl (by decide) hx_57 (by omega) (by decide) (hz) ?_
  refine q_if_geN rfl (by omega) (fun hc6 => ?_) (fun hc6 => ?_)
  · refine q_aload_n rfl rfl ?_
    refine q_getfield rfl hx_51 rfl ?_
    refine q_iload_n rfl rfl ?_
    refine q_iald rfl (by decide) hx_57 (by omega) (by decide) (hz) ?_
    refine q_bipush (v := nI 20) rfl rfl ?_
    refine q_icmp_leN rfl (by omega) (by omega) (fun hc25 => ?_) (fun hc25 => ?_)
    · refine q_aload_n rfl rfl ?_
      refine q_iload_n rfl rfl ?_
      refine q_iconst (v := nI 0) rfl rfl ?_
      refine q_ldc_w (v := 2147483647) rfl rfl ?_
      refine q_callV3 rfl hx_51 (Nat.le_of_ble_eq_true rfl) (Nat.le_of_ble_eq_true rfl) (sX9_areAll q hr n hn hz _ _) ?_
      refine q_cn (show _ = nI 1 by rw [alN_1 hok]) ?_
      refine q_if_eqN rfl (by omega) (fun hc45 => ?_) (fun hc45 => ?_)
      · exact absurd hc45 (by decide)
      · refine q_iconst (v := nI 0) rfl rfl ?_
        refine q_goto rfl ?_
        refine q_iret rfl rfl ?_
        exact ⟨rfl, rfl⟩
    · omega
  · omega
