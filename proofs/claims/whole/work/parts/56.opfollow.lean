/-! following: the turns that the least effort goes by -/
def jF (f : Nat → Nat) (v : Nat) : Nat → Nat → Nat
  | 0, j => j
  | n + 1, j => if f j = v then j else jF f v n (j + 1)
theorem jF_of {f : Nat → Nat} {v : Nat} (n a j : Nat) (h0 : a ≤ j) (h1 : j ≤ a + n) (h2 : ∀ i, a ≤ i → i < j → f i ≠ v) (h3 : j = a + n ∨ f j = v) : jF f v n a = j := by
  induction n generalizing a with
  | zero =>
    show a = j
    omega
  | succ n ih =>
    show (if f a = v then a else jF f v n (a + 1)) = j
    by_cases e : f a = v
    · rw [if_pos e]
      by_cases e2 : a = j
      · exact e2
      · exact absurd e (h2 a (Nat.le_refl _) (by omega))
    · rw [if_neg e]
      have e3 : a ≠ j := by
        rintro rfl
        rcases h3 with h3 | h3
        · omega
        · exact e h3
      exact ih (a + 1) (by omega) (by omega) (fun i hi hj => h2 i (by omega) hj) (by omega)
theorem jF_at {f : Nat → Nat} {v : Nat} (n a : Nat) (h : ∃ i, a ≤ i ∧ i ≤ a + n ∧ f i = v) : f (jF f v n a) = v ∧ a ≤ jF f v n a ∧ jF f v n a ≤ a + n := by
  induction n generalizing a with
  | zero =>
    obtain ⟨i, h1, h2, h3⟩ := h
    have e : i = a := by omega
    subst e
    exact ⟨h3, Nat.le_refl _, Nat.le_refl _⟩
  | succ n ih =>
    show f (if f a = v then a else jF f v n (a + 1)) = v ∧ a ≤ (if f a = v then a else jF f v n (a + 1)) ∧ (if f a = v then a else jF f v n (a + 1)) ≤ a + (n + 1)
    by_cases e : f a = v
    · rw [if_pos e]
      exact ⟨e, Nat.le_refl _, by omega⟩
    · rw [if_neg e]
      obtain ⟨i, h1, h2, h3⟩ := h
      have e3 : a ≠ i := by
        rintro rfl
        exact e h3
      obtain ⟨h4, h5, h6⟩ := ih (a + 1) ⟨i, by omega, by omega, h3⟩
      exact ⟨h4, by omega, by omega⟩
theorem jF_le {f : Nat → Nat} {v : Nat} (n a : Nat) : jF f v n a ≤ a + n := by
  induction n generalizing a with
  | zero => exact Nat.le_refl _
  | succ n ih =>
    show (if f a = v then a else jF f v n (a + 1)) ≤ a + (n + 1)
    split
    · omega
    · have := ih (a + 1)
      omega
theorem jF_congr {f f' : Nat → Nat} {v v' : Nat} (n a : Nat) (h : ∀ i, i ≤ a + n → (f i = v ↔ f' i = v')) : jF f v n a = jF f' v' n a := by
  induction n generalizing a with
  | zero => rfl
  | succ n ih =>
    show (if f a = v then a else jF f v n (a + 1)) = (if f' a = v' then a else jF f' v' n (a + 1))
    by_cases e : f a = v
    · rw [if_pos e, if_pos ((h a (by omega)).mp e)]
    · rw [if_neg e, if_neg (fun z => e ((h a (by omega)).mpr z))]
      exact ih (a + 1) (fun i hi => h i (by omega))
theorem lMn_at {N : Nat} {g c : Nat → Nat → Nat} {D : Nat → Nat} {k s : Nat} (j : Nat) (h : lMn N g c D k s j < N) : ∃ i, i < j ∧ lBk N g c D k s i = lMn N g c D k s j := by
  induction j with
  | zero => exact absurd h (Nat.lt_irrefl _)
  | succ j ih =>
    have e : lMn N g c D k s (j + 1) = min (lMn N g c D k s j) (lBk N g c D k s j) := rfl
    by_cases h2 : lMn N g c D k s j ≤ lBk N g c D k s j
    · rw [e, Nat.min_eq_left h2]
      rw [e, Nat.min_eq_left h2] at h
      obtain ⟨i, hi, hv⟩ := ih h
      exact ⟨i, by omega, hv⟩
    · exact ⟨j, by omega, by rw [e, Nat.min_eq_right (by omega)]⟩
section PT
variable (N : Nat) (g c : Nat → Nat → Nat) (n s0 : Nat)
/-- the turn (0 to 12) from place s before moment k -/
def jT (k s : Nat) : Nat := jF (lBk N g c (dpR N g c n (n - (k + 1))) k s) (dpR N g c n (n - k) s) 12 0
/-- the place before moment k -/
def sT : Nat → Nat
  | 0 => s0
  | k + 1 => tN (sT k) (jT N g c n k (sT k))
end PT
variable {N N' : Nat} {g c : Nat → Nat → Nat} {n : Nat}
theorem jT_le (k s : Nat) : jT N g c n k s ≤ 12 := by
  have := jF_le (f := lBk N g c (dpR N g c n (n - (k + 1))) k s) (v := dpR N g c n (n - k) s) 12 0
  unfold jT
  omega
theorem sT_lt {s0 : Nat} (h : s0 < 24) (k : Nat) : sT N g c n s0 k < 24 := by
  cases k with
  | zero => exact h
  | succ k => exact tN_lt _ _
theorem jT_at {k s : Nat} (hk : k < n) (h : dpR N g c n (n - k) s < N) : lBk N g c (dpR N g c n (n - (k + 1))) k s (jT N g c n k s) = dpR N g c n (n - k) s := by
  rw [dpR_row hk] at h
  obtain ⟨i, hi, hv⟩ := lMn_at 13 h
  exact (jF_at 12 0 ⟨i, by omega, by omega, by rw [dpR_row hk]; exact hv⟩).1
theorem sT_fin {s0 : Nat} (hN : 1000 ≤ N) (h : dpR N g c n n s0 < N) (k : Nat) (hk : k ≤ n) : dpR N g c n (n - k) (sT N g c n s0 k) < N := by
  induction k with
  | zero => exact h
  | succ k ih =>
    have h2 := ih (by omega)
    have h3 := jT_at (by omega) h2
    show dpR N g c n (n - (k + 1)) (tN (sT N g c n s0 k) (jT N g c n k (sT N g c n s0 k))) < N
    rw [← h3] at h2
    unfold lBk at h2
    split at h2
    · exact absurd h2 (Nat.lt_irrefl _)
    · omega
theorem sT_cap {s0 : Nat} (hc : ∀ s j, j < 13 → c s j ≤ 10) (hN : 1000 ≤ N) (hN' : 1000 ≤ N') (n8 : n ≤ 8) (h : dpR N g c n n s0 < N) (k : Nat) (hk : k ≤ n) : sT N g c n s0 k = sT N' g c n s0 k ∧ (k < n → jT N g c n k (sT N g c n s0 k) = jT N' g c n k (sT N' g c n s0 k)) := by
  have hj : ∀ k, k < n → ∀ s, dpR N g c n (n - k) s < N → jT N g c n k s = jT N' g c n k s := by
    intro k hk s hf
    have h1 := dpR_cap hc hN hN' (n := n) (g := g) (n - k) (by omega) s
    refine jF_congr 12 0 (fun i hi => ?_)
    have h2 := lBk_cap (N := N) (N' := N') (B := 10 * (n - (k + 1))) (g := g) (c := c) (k := k) (s := s) (j := i) (D := dpR N g c n (n - (k + 1))) (D' := dpR N' g c n (n - (k + 1))) (hc s i (by omega)) (dpR_cap hc hN hN' (n - (k + 1)) (by omega) (tN s i))
    omega
  induction k with
  | zero => exact ⟨rfl, fun h0 => hj 0 h0 s0 h⟩
  | succ k ih =>
    obtain ⟨h1, h2⟩ := ih (by omega)
    have e : sT N g c n s0 (k + 1) = sT N' g c n s0 (k + 1) := by
      show tN _ _ = tN _ _
      rw [h2 (by omega), h1]
    refine ⟨e, fun hk2 => ?_⟩
    rw [← e]
    exact hj (k + 1) hk2 _ (sT_fin hN h (k + 1) hk)
def wT (js : Nat → Nat) (g0 : Nat → Int32) : Nat → (Nat → Int32)
  | 0 => g0
  | k + 1 => upd (wT js g0 k) k (sI 6 (js k))
set_option maxHeartbeats 1000000 in
theorem sX0_writeTurns {X : XX} {I A : Nat → Nat → Int32} {J B : Nat → Nat → Int64} {F : Nat → Nat} (hS : RelS F) (st : Nat) (hst : st < 24) (e7 : I 7 1 = nI st) (b m n : Nat) (l : LT) (hl9 : l.2.2.2 ≤ 9) (hV : GV b l m n A) (n8 : n ≤ 8) (n1 : 1 ≤ n) (s0 : Nat) (hs0 : s0 < 24) (q : Nat) (hq : q < 6) (hT : ∀ i, i ≤ n → ∀ f, f < 24 → A (F 0) ((n - i) * 24 + f) = nI (dpR 536870912 (fun k f => gnN b l (nI f) (m + k)) (cN 0 st) n i f)) (hfin : dpR 536870912 (fun k f => gnN b l (nI f) (m + k)) (cN 0 st) n n s0 < 536870912) : x_ev X xT 5 2 [.ref 13, .int (nI s0), .int (nI n), .ref (20 + 2 * q)] (HX I A J B F) none (HX (u2 I (20 + 2 * q) 1 (nI n)) (ua A (21 + 2 * q) (wT (fun k => (jT 536870912 (fun k f => gnN b l (nI f) (m + k)) (cN 0 st) n k (sT 536870912 (fun k f => gnN b l (nI f) (m + k)) (cN 0 st) n s0 k))) (f_fill (A (21 + 2 * q)) 0 0 (rm q)) n)) J B F) := by
  refine q_ev (L := [some (.ref 13), some (.int (nI s0)), some (.int (nI n)), some (.ref (20 + 2 * q)), none, none, none]) tX0_writeTurns (Nat.le_of_ble_eq_true rfl) rfl ?_
  refine q_aload_n rfl rfl ?_
  refine q_iload_n rfl rfl ?_
  refine q_iconst (v := nI 0) rfl rfl ?_
  refine q_callV2 rfl (hx_line q (by omega)) (Nat.le_of_ble_eq_true rfl) (Nat.le_of_ble_eq_true rfl) (sL_renew q (by omega) n (by rw [rm_row hq]; omega) 0) ?_
  refine q_iload_n rfl rfl ?_
  refine q_callS1 rfl rfl (Nat.le_of_ble_eq_true rfl) (Nat.le_of_ble_eq_true rfl) (sK_round _) ?_
  refine q_cn (rdN_s hs0) ?_
  refine q_istore (L' := [_, _, _, _, _, _, _]) rfl rfl ?_
  refine q_iconst (v := nI 0) rfl rfl ?_
  refine q_istore (L' := [_, _, _, _, _, _, _]) rfl rfl ?_
  refine q_up (Inv := fun k L h => ∃ z6, L = [some (.ref 13), some (.int (nI s0)), some (.int (nI n)), some (.ref (20 + 2 * q)), some (.int (nI (sT 536870912 (fun k f => gnN b l (nI f) (m + k)) (cN 0 st) n s0 k))), some (.int (nI k)), z6] ∧ h = HX (u2 I (20 + 2 * q) 1 (nI n)) (ua A (21 + 2 * q) (wT (fun k => (jT 536870912 (fun k f => gnN b l (nI f) (m + k)) (cN 0 st) n k (sT 536870912 (fun k f => gnN b l (nI f) (m + k)) (cN 0 st) n s0 k))) (f_fill (A (21 + 2 * q)) 0 0 (rm q)) k)) J B F) (n) (fun k L h hk_k hi_k ih_k => ?_) (fun L h hi_k => ?_) (0) _ _ (by omega) (⟨_, rfl, rfl⟩)
  · obtain ⟨z6, rfl, rfl⟩ := hi_k
    refine q_iload rfl rfl ?_
    refine q_iload_n rfl rfl ?_
    refine q_icmp_geN rfl (by omega) (by omega) (fun hcks18 => ?_) (fun hcks18 => ?_)
    · omega
    · refine q_bipush (v := (-6)) rfl rfl ?_
      refine q_istore (L' := [_, _, _, _, _, _, _]) rfl rfl ?_
      refine q_up (Inv := fun j L h => L = [some (.ref 13), some (.int (nI s0)), some (.int (nI n)), some (.ref (20 + 2 * q)), some (.int (nI (sT 536870912 (fun k f => gnN b l (nI f) (m + k)) (cN 0 st) n s0 k))), some (.int (nI k)), some (.int (sI 6 j))] ∧ h = HX (u2 I (20 + 2 * q) 1 (nI n)) (ua A (21 + 2 * q) (wT (fun k => (jT 536870912 (fun k f => gnN b l (nI f) (m + k)) (cN 0 st) n k (sT 536870912 (fun k f => gnN b l (nI f) (m + k)) (cN 0 st) n s0 k))) (f_fill (A (21 + 2 * q)) 0 0 (rm q)) k)) J B F ∧ (sT 536870912 (fun k f => gnN b l (nI f) (m + k)) (cN 0 st) n s0 k) < 24 ∧ ∀ i, i < j → (lBk 536870912 (fun k f => gnN b l (nI f) (m + k)) (cN 0 st) (dpR 536870912 (fun k f => gnN b l (nI f) (m + k)) (cN 0 st) n (n - (k + 1))) k (sT 536870912 (fun k f => gnN b l (nI f) (m + k)) (cN 0 st) n s0 k) i) ≠ dpR 536870912 (fun k f => gnN b l (nI f) (m + k)) (cN 0 st) n (n - k) (sT 536870912 (fun k f => gnN b l (nI f) (m + k)) (cN 0 st) n s0 k)) (12) (fun j L h hk_j hi_j ih_j => ?_) (fun L h hi_j => ?_) (0) _ _ (by omega) (⟨rfl, rfl, sT_lt hs0 k, fun i hi => absurd hi (Nat.not_lt_zero i)⟩)
      · obtain ⟨rfl, rfl, hsk, hno⟩ := hi_j
        refine q_iload rfl rfl ?_
        refine q_bipush (v := nI 6) rfl rfl ?_
        refine q_icmp_ge rfl (fun hcjs29 => ?_) (fun hcjs29 => ?_)
        · exact absurd ((sI_lt (c := 6) (m := 6) (by omega) (by omega) (by omega)).mpr (by omega)) (Int32.not_lt.mpr hcjs29)
        · refine q_aload_n rfl rfl ?_
          refine q_iload rfl rfl ?_
          refine q_iload rfl rfl ?_
          refine q_iload rfl rfl ?_
          refine q_iconst (v := nI 0) rfl rfl ?_
          refine q_callV4 rfl hx_13 (Nat.le_of_ble_eq_true rfl) (Nat.le_of_ble_eq_true rfl) (sX0_leastBehind hS st hst (by rw [u2_ne (by omega)]; exact e7) b m n l hl9 (GV_ua (c := 21 + 2 * q) (by omega) hV) n8 k (sT 536870912 (fun k f => gnN b l (nI f) (m + k)) (cN 0 st) n s0 k) j 0 (dpR 536870912 (fun k f => gnN b l (nI f) (m + k)) (cN 0 st) n (n - (k + 1)) (tN (sT 536870912 (fun k f => gnN b l (nI f) (m + k)) (cN 0 st) n s0 k) j)) hk_k (sT_lt hs0 k) (by omega) (by decide) (by rw [ua_ne (by have := F_lt hS; omega)]; have h7 := hT (n - (k + 1)) (by omega) (tN (sT 536870912 (fun k f => gnN b l (nI f) (m + k)) (cN 0 st) n s0 k) j) (tN_lt _ j); rw [show n - (n - (k + 1)) = k + 1 by omega] at h7; exact h7) (dpR_le _ _)) ?_
          refine q_aload_n rfl rfl ?_
          refine q_getfield rfl hx_13 rfl ?_
          refine q_iload rfl rfl ?_
          refine q_bipush (v := nI 24) rfl rfl ?_
          refine q_imulN rfl ?_
          refine q_iload rfl rfl ?_
          refine q_iaddN rfl ?_
          refine q_iald rfl ((F_lt hS).1) (hx_T hS) (by omega) (by decide) ((show ua A (21 + 2 * q) _ (F 0) _ = nI (dpR 536870912 (fun k f => gnN b l (nI f) (m + k)) (cN 0 st) n (n - k) (sT 536870912 (fun k f => gnN b l (nI f) (m + k)) (cN 0 st) n s0 k)) from by rw [ua_ne (by have := F_lt hS; omega)]; have h7 := hT (n - k) (by omega) (sT 536870912 (fun k f => gnN b l (nI f) (m + k)) (cN 0 st) n s0 k) (sT_lt hs0 k); rw [show n - (n - k) = k by omega] at h7; exact h7)) ?_
          refine q_icmp_eqN rfl (by have := (sT_fin (N := 536870912) (by decide) hfin k (by omega)); omega) (by have := (sT_fin (N := 536870912) (by decide) hfin k (by omega)); omega) (fun hcjs56 => ?_) (fun hcjs56 => ?_)
          · obtain rfl : j = (jT 536870912 (fun k f => gnN b l (nI f) (m + k)) (cN 0 st) n k (sT 536870912 (fun k f => gnN b l (nI f) (m + k)) (cN 0 st) n s0 k)) := (jF_of 12 0 j (by omega) (by omega) (fun i _ hi => hno i hi) (Or.inr (by have := (sT_fin (N := 536870912) (by decide) hfin k (by omega)); have e5 : (lBk 536870912 (fun k f => gnN b l (nI f) (m + k)) (cN 0 st) (fun _ => dpR 536870912 (fun k f => gnN b l (nI f) (m + k)) (cN 0 st) n (n - (k + 1)) (tN (sT 536870912 (fun k f => gnN b l (nI f) (m + k)) (cN 0 st) n s0 k) j)) k (sT 536870912 (fun k f => gnN b l (nI f) (m + k)) (cN 0 st) n s0 k) j) = (lBk 536870912 (fun k f => gnN b l (nI f) (m + k)) (cN 0 st) (dpR 536870912 (fun k f => gnN b l (nI f) (m + k)) (cN 0 st) n (n - (k + 1))) k (sT 536870912 (fun k f => gnN b l (nI f) (m + k)) (cN 0 st) n s0 k) j) := rfl; omega))).symm
            refine q_aload_n rfl rfl ?_
            refine q_iload rfl rfl ?_
            refine q_iload rfl rfl ?_
            refine q_callV2 rfl (hx_line q (by omega)) (Nat.le_of_ble_eq_true rfl) (Nat.le_of_ble_eq_true rfl) (sL_write q (by omega) n (by rw [rm_row hq]; omega) u2_eq k hk_k _) ?_
            refine q_iload rfl rfl ?_
            refine q_iload rfl rfl ?_
            refine q_iadd rfl ?_
            refine q_callS1 rfl rfl (Nat.le_of_ble_eq_true rfl) (Nat.le_of_ble_eq_true rfl) (sK_round _) ?_
            refine q_cn (show _ = nI (tN (sT 536870912 (fun k f => gnN b l (nI f) (m + k)) (cN 0 st) n s0 k) (jT 536870912 (fun k f => gnN b l (nI f) (m + k)) (cN 0 st) n k (sT 536870912 (fun k f => gnN b l (nI f) (m + k)) (cN 0 st) n s0 k))) by rw [rdN_t (sT_lt hs0 k) (by have := jT_le (N := 536870912) (g := (fun k f => gnN b l (nI f) (m + k))) (c := cN 0 st) (n := n) k (sT 536870912 (fun k f => gnN b l (nI f) (m + k)) (cN 0 st) n s0 k); omega)]) ?_
            refine q_istore (L' := [_, _, _, _, _, _, _]) rfl rfl ?_
            refine q_iincN (c := 1) (L' := [_, _, _, _, _, _, _]) rfl rfl rfl rfl ?_
            refine q_goto rfl ?_
            exact ih_k _ _ (⟨_, rfl, by rw [ua_ua, ua_eq]; rfl⟩)
          · refine q_iinc (v := sI 6 (j + 1)) (L' := [_, _, _, _, _, _, _]) rfl rfl (sI_inc 6 j) rfl ?_
            refine q_goto rfl ?_
            exact ih_j _ _ (⟨rfl, rfl, hsk, fun i hi => by by_cases e : i = j; subst e; intro z; have z2 : (lBk 536870912 (fun k f => gnN b l (nI f) (m + k)) (cN 0 st) (fun _ => dpR 536870912 (fun k f => gnN b l (nI f) (m + k)) (cN 0 st) n (n - (k + 1)) (tN (sT 536870912 (fun k f => gnN b l (nI f) (m + k)) (cN 0 st) n s0 k) i)) k (sT 536870912 (fun k f => gnN b l (nI f) (m + k)) (cN 0 st) n s0 k) i) = _ := z; have := (sT_fin (N := 536870912) (by decide) hfin k (by omega)); rw [z2] at hcjs56; omega; exact hno i (by omega)⟩)
      · obtain ⟨rfl, rfl, hsk, hno⟩ := hi_j
        refine q_iload rfl rfl ?_
        refine q_bipush (v := nI 6) rfl rfl ?_
        refine q_icmp_ge rfl (fun hcjf29 => ?_) (fun hcjf29 => ?_)
        · have ej : (jT 536870912 (fun k f => gnN b l (nI f) (m + k)) (cN 0 st) n k (sT 536870912 (fun k f => gnN b l (nI f) (m + k)) (cN 0 st) n s0 k)) = 12 := jF_of 12 0 12 (by omega) (by omega) (fun i _ hi => hno i hi) (Or.inl rfl)
          rw [show sI 6 12 = sI 6 (jT 536870912 (fun k f => gnN b l (nI f) (m + k)) (cN 0 st) n k (sT 536870912 (fun k f => gnN b l (nI f) (m + k)) (cN 0 st) n s0 k)) from by rw [ej]]
          refine q_aload_n rfl rfl ?_
          refine q_iload rfl rfl ?_
          refine q_iload rfl rfl ?_
          refine q_callV2 rfl (hx_line q (by omega)) (Nat.le_of_ble_eq_true rfl) (Nat.le_of_ble_eq_true rfl) (sL_write q (by omega) n (by rw [rm_row hq]; omega) u2_eq k hk_k _) ?_
          refine q_iload rfl rfl ?_
          refine q_iload rfl rfl ?_
          refine q_iadd rfl ?_
          refine q_callS1 rfl rfl (Nat.le_of_ble_eq_true rfl) (Nat.le_of_ble_eq_true rfl) (sK_round _) ?_
          refine q_cn (show _ = nI (tN (sT 536870912 (fun k f => gnN b l (nI f) (m + k)) (cN 0 st) n s0 k) (jT 536870912 (fun k f => gnN b l (nI f) (m + k)) (cN 0 st) n k (sT 536870912 (fun k f => gnN b l (nI f) (m + k)) (cN 0 st) n s0 k))) by rw [rdN_t (sT_lt hs0 k) (by have := jT_le (N := 536870912) (g := (fun k f => gnN b l (nI f) (m + k))) (c := cN 0 st) (n := n) k (sT 536870912 (fun k f => gnN b l (nI f) (m + k)) (cN 0 st) n s0 k); omega)]) ?_
          refine q_istore (L' := [_, _, _, _, _, _, _]) rfl rfl ?_
          refine q_iincN (c := 1) (L' := [_, _, _, _, _, _, _]) rfl rfl rfl rfl ?_
          refine q_goto rfl ?_
          exact ih_k _ _ (⟨_, rfl, by rw [ua_ua, ua_eq]; rfl⟩)
        · exact absurd (show nI 6 ≤ sI 6 12 by decide) hcjf29
  · obtain ⟨z6, rfl, rfl⟩ := hi_k
    refine q_iload rfl rfl ?_
    refine q_iload_n rfl rfl ?_
    refine q_icmp_geN rfl (by omega) (by omega) (fun hckf18 => ?_) (fun hckf18 => ?_)
    · refine q_vret rfl rfl ?_
      exact ⟨rfl, rfl⟩
    · omega
