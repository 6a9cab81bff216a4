/-! following: the turns that the least effort goes by -/
def jF (f : Nat → Nat) (v : Nat) : Nat → Nat → Nat
  | 0, j => j
  | n + 1, j => if f j = v then j else jF f v n (j + 1)
theorem jF_of {f : Nat → Nat} {v : Nat} (n a j : Nat) (h0 : a ≤ j) (h1 : j ≤ a + n) (h2 : ∀ i, a ≤ i → i < j → f i ≠ v) (h3 : j = a + n ∨ f j = v) : jF f v n a = j := by
  induction n generalizing a with
  | zero =>
    show a = j
    omega
  | succ n ih =>
    show (if f a = v then a else jF f v n (a + 1)) = j
    by_cases e : f a = v
    · rw [if_pos e]
      by_cases e2 : a = j
      · exact e2
      · exact absurd e (h2 a (Nat.le_refl _) (by omega))
    · rw [if_neg e]
      have e3 : a ≠ j := by
        rintro rfl
        rcases h3 with h3 | h3
        · omega
        · exact e h3
      exact ih (a + 1) (by omega) (by omega) (fun i hi hj => h2 i (by omega) hj) (by omega)
theorem jF_at {f : Nat → Nat} {v : Nat} (n a : Nat) (h : ∃ i, a ≤ i ∧ i ≤ a + n ∧ f i = v) : f (jF f v n a) = v ∧ a ≤ jF f v n a ∧ jF f v n a ≤ a + n := by
  induction n generalizing a with
  | zero =>
    obtain ⟨i, h1, h2, h3⟩ := h
    have e : i = a := by omega
    subst e
    exact ⟨h3, Nat.le_refl _, Nat.le_refl _⟩
  | succ n ih =>
    show f (if f a = v then a else jF f v n (a + 1)) = v ∧ a ≤ (if f a = v then a else jF f v n (a + 1)) ∧ (if f a = v then a else jF f v n (a + 1)) ≤ a + (n + 1)
    by_cases e : f a = v
    · rw [if_pos e]
      exact ⟨e, Nat.le_refl _, by omega⟩
    · rw [if_neg e]
      obtain ⟨i, h1, h2, h3⟩ := h
      have e3 : a ≠ i := by
        rintro rfl
        exact e h3
      obtain ⟨h4, h5, h6⟩ := ih (a + 1) ⟨i, by omega, by omega, h3⟩
      exact ⟨h4, by omega, by omega⟩
theorem jF_le {f : Nat → Nat} {v : Nat} (n a : Nat) : jF f v n a ≤ a + n := by
  induction n generalizing a with
  | zero => exact Nat.le_refl _
  | succ n ih =>
    show (if f a = v then a else jF f v n (a + 1)) ≤ a + (n + 1)
    split
    · omega
    · have := ih (a + 1)
      omega
theorem jF_congr {f f' : Nat → Nat} {v v' : Nat} (n a : Nat) (h : ∀ i, i ≤ a + n → (f i = v ↔ f' i = v')) : jF f v n a = jF f' v' n a := by
  induction n generalizing a with
  | zero => rfl
  | succ n ih =>
    show (if f a = v then a else jF f v n (a + 1)) = (if f' a = v' then a else jF f' v' n (a + 1))
    by_cases e : f a = v
    · rw [if_pos e, if_pos ((h a (by omega)).mp e)]
    · rw [if_neg e, if_neg (fun z => e ((h a (by omega)).mpr z))]
      exact ih (a + 1) (fun i hi => h i (by omega))
theorem lMn_at {N : Nat} {g c : Nat → Nat → Nat} {D : Nat → Nat} {k s : Nat} (j : Nat) (h : lMn N g c D k s j < N) : ∃ i, i < j ∧ lBk N g c D k s i = lMn N g c D k s j := by
  induction j with
  | zero => exact absurd h (Nat.lt_irrefl _)
  | succ j ih =>
    have e : lMn N g c D k s (j + 1) = min (lMn N g c D k s j) (lBk N g c D k s j) := rfl
    by_cases h2 : lMn N g c D k s j ≤ lBk N g c D k s j
    · rw [e, Nat.min_eq_left h2]
      rw [e, Nat.min_eq_left h2] at h
      obtain ⟨i, hi, hv⟩ := ih h
      exact ⟨i, by omega, hv⟩
    · exact ⟨j, by omega, by rw [e, Nat.min_eq_right (by omega)]⟩
section PT
variable (N : Nat) (g c : Nat → Nat → Nat) (n s0 : Nat)
/-- the turn (0 to 12) from place s before moment k -/
def jT (k s : Nat) : Nat := jF (lBk N g c (dpR N g c n (n - (k + 1))) k s) (dpR N g c n (n - k) s) 12 0
/-- the place before moment k -/
def sT : Nat → Nat
  | 0 => s0
  | k + 1 => tN (sT k) (jT N g c n k (sT k))
end PT
variable {N N' : Nat} {g c : Nat → Nat → Nat} {n : Nat}
theorem jT_le (k s : Nat) : jT N g c n k s ≤ 12 := by
  have := jF_le (f := lBk N g c (dpR N g c n (n - (k + 1))) k s) (v := dpR N g c n (n - k) s) 12 0
  unfold jT
  omega
theorem sT_lt {s0 : Nat} (h : s0 < 24) (k : Nat) : sT N g c n s0 k < 24 := by
  cases k with
  | zero => exact h
  | succ k => exact tN_lt _ _
theorem jT_at {k s : Nat} (hk : k < n) (h : dpR N g c n (n - k) s < N) : lBk N g c (dpR N g c n (n - (k + 1))) k s (jT N g c n k s) = dpR N g c n (n - k) s := by
  rw [dpR_row hk] at h
  obtain ⟨i, hi, hv⟩ := lMn_at 13 h
  exact (jF_at 12 0 ⟨i, by omega, by omega, by rw [dpR_row hk]; exact hv⟩).1
theorem sT_fin {s0 : Nat} (hN : 1000 ≤ N) (h : dpR N g c n n s0 < N) (k : Nat) (hk : k ≤ n) : dpR N g c n (n - k) (sT N g c n s0 k) < N := by
  induction k with
  | zero => exact h
  | succ k ih =>
    have h2 := ih (by omega)
    have h3 := jT_at (by omega) h2
    show dpR N g c n (n - (k + 1)) (tN (sT N g c n s0 k) (jT N g c n k (sT N g c n s0 k))) < N
    rw [← h3] at h2
    unfold lBk at h2
    split at h2
    · exact absurd h2 (Nat.lt_irrefl _)
    · omega
theorem sT_cap {s0 : Nat} (hc : ∀ s j, j < 13 → c s j ≤ 10) (hN : 1000 ≤ N) (hN' : 1000 ≤ N') (n8 : n ≤ 8) (h : dpR N g c n n s0 < N) (k : Nat) (hk : k ≤ n) : sT N g c n s0 k = sT N' g c n s0 k ∧ (k < n → jT N g c n k (sT N g c n s0 k) = jT N' g c n k (sT N' g c n s0 k)) := by
  have hj : ∀ k, k < n → ∀ s, dpR N g c n (n - k) s < N → jT N g c n k s = jT N' g c n k s := by
    intro k hk s hf
    have h1 := dpR_cap hc hN hN' (n := n) (g := g) (n - k) (by omega) s
    refine jF_congr 12 0 (fun i hi => ?_)
    have h2 := lBk_cap (N := N) (N' := N') (B := 10 * (n - (k + 1))) (g := g) (c := c) (k := k) (s := s) (j := i) (D := dpR N g c n (n - (k + 1))) (D' := dpR N' g c n (n - (k + 1))) (hc s i (by omega)) (dpR_cap hc hN hN' (n - (k + 1)) (by omega) (tN s i))
    omega
  induction k with
  | zero => exact ⟨rfl, fun h0 => hj 0 h0 s0 h⟩
  | succ k ih =>
    obtain ⟨h1, h2⟩ := ih (by omega)
    have e : sT N g c n s0 (k + 1) = sT N' g c n s0 (k + 1) := by
      show tN _ _ = tN _ _
      rw [h2 (by omega), h1]
    refine ⟨e, fun hk2 => ?_⟩
    rw [← e]
    exact hj (k + 1) hk2 _ (sT_fin hN h (k + 1) hk)
