/-! the order of lights: sets against orders (pure) -/
def od_g (g : Nat → Nat → Nat → Nat) (i : Nat) : Nat → Nat → Nat := fun k f => g i k f
/-- the least effort for a row of lights from moment k on -/
def od_e (g : Nat → Nat → Nat → Nat) (c : Nat → Nat → Nat) : List Nat → Nat → Nat → Nat
  | [], _, _ => 0
  | i :: q, k, s => lMn 100000 (g i) c (od_e g c q (k + 1)) k s 13
def od_n : List Nat → Nat
  | [] => 0
  | i :: q => i * 8 ^ q.length + od_n q
def od_v (g : Nat → Nat → Nat → Nat) (c : Nat → Nat → Nat) (q : List Nat) (k s : Nat) : Nat := if od_e g c q k s < 100000 then od_e g c q k s * 32768 + od_n q else 536870912
theorem od_e_fin {g : Nat → Nat → Nat → Nat} {c : Nat → Nat → Nat} (hc : ∀ s j, j < 13 → c s j ≤ 10) (q : List Nat) : q.length ≤ 8 → ∀ k s, od_e g c q k s = 100000 ∨ od_e g c q k s ≤ 10 * q.length := by
  induction q with
  | nil => exact fun _ k s => Or.inr (Nat.le_refl _)
  | cons i q ih =>
    intro hl k s
    have hl' : q.length + 1 ≤ 8 := hl
    have h := lMn_cap (N := 100000) (N' := 100000) (B := 10 * (q.length + 1)) (g := g i) (c := c) (D := od_e g c q (k + 1)) (D' := od_e g c q (k + 1)) (k := k) (s := s) (by omega) (by omega) (fun j hj => by
      have h2 := lBk_cap (N := 100000) (N' := 100000) (B := 10 * q.length) (g := g i) (c := c) (k := k) (s := s) (j := j) (D := od_e g c q (k + 1)) (D' := od_e g c q (k + 1)) (hc s j hj) ((ih (by omega) (k + 1) (tN s j)).imp (fun z => ⟨z, z⟩) (fun z => ⟨rfl, z⟩))
      omega) 13 (Nat.le_refl _)
    exact h.imp (fun z => z.1) (fun z => z.2)
theorem od_e_le {g : Nat → Nat → Nat → Nat} {c : Nat → Nat → Nat} (q : List Nat) (k s : Nat) : od_e g c q k s ≤ 100000 := by
  cases q with
  | nil => exact Nat.zero_le _
  | cons i q => exact lMn_le 13
theorem lMn_lb {N : Nat} {g c : Nat → Nat → Nat} {D : Nat → Nat} {k s : Nat} (n : Nat) : ∀ j, j < n → lMn N g c D k s n ≤ lBk N g c D k s j := by
  induction n with
  | zero => exact fun j hj => absurd hj (Nat.not_lt_zero j)
  | succ n ih =>
    intro j hj
    show min _ _ ≤ _
    by_cases e : j = n
    · subst e
      exact Nat.min_le_right _ _
    · exact Nat.le_trans (Nat.min_le_left _ _) (ih j (by omega))
theorem od_v_nil {g : Nat → Nat → Nat → Nat} {c : Nat → Nat → Nat} {k s : Nat} : od_v g c [] k s = 0 := by
  unfold od_v
  rw [show od_e g c [] k s = 0 from rfl, if_pos (by omega)]
  show 0 * 32768 + 0 = 0
  omega
/-- a row's number by its first light -/
theorem od_v_c {g : Nat → Nat → Nat → Nat} {c : Nat → Nat → Nat} (hc : ∀ s j, j < 13 → c s j ≤ 10) {i : Nat} {q : List Nat} (hq : q.length ≤ 7) {k s C : Nat} (hC : C ≤ 536870912) : C ≤ od_v g c (i :: q) k s ↔ ∀ j, j < 13 → ¬ g i k (tN s j) = 0 → C ≤ c s j * 32768 + i * 8 ^ q.length + od_v g c q (k + 1) (tN s j) := by
  have hE : od_e g c (i :: q) k s = lMn 100000 (g i) c (od_e g c q (k + 1)) k s 13 := rfl
  have hN : od_n (i :: q) = i * 8 ^ q.length + od_n q := rfl
  constructor
  · intro h j hj hg
    have h1 := lMn_lb (N := 100000) (g := g i) (c := c) (D := od_e g c q (k + 1)) (k := k) (s := s) 13 j hj
    have h2 : lBk 100000 (g i) c (od_e g c q (k + 1)) k s j = c s j + od_e g c q (k + 1) (tN s j) := if_neg hg
    have h3 := od_e_fin (g := g) hc q (by omega) (k + 1) (tN s j)
    have h4 := hc s j hj
    unfold od_v at h ⊢
    by_cases h5 : od_e g c q (k + 1) (tN s j) < 100000
    · rw [if_pos h5]
      rw [if_pos (show od_e g c (i :: q) k s < 100000 by omega), hN, hE] at h
      have h6 : lMn 100000 (g i) c (od_e g c q (k + 1)) k s 13 * 32768 ≤ (c s j + od_e g c q (k + 1) (tN s j)) * 32768 := Nat.mul_le_mul_right _ (by omega)
      rw [Nat.add_mul] at h6
      refine Nat.le_trans h (Nat.le_trans (Nat.add_le_add_right h6 _) ?_)
      exact Nat.le_of_eq (Nat.add_add_add_comm _ _ _ _)
    · rw [if_neg h5]
      exact Nat.le_trans hC (Nat.le_add_left _ _)
  · intro h
    unfold od_v
    by_cases h5 : od_e g c (i :: q) k s < 100000
    · rw [if_pos h5, hN]
      obtain ⟨j, hj, hv⟩ := lMn_at (N := 100000) (g := g i) (c := c) (D := od_e g c q (k + 1)) (k := k) (s := s) 13 h5
      rw [← hE] at hv
      by_cases hg : g i k (tN s j) = 0
      · have h2 : lBk 100000 (g i) c (od_e g c q (k + 1)) k s j = 100000 := if_pos hg
        omega
      · have h2 : lBk 100000 (g i) c (od_e g c q (k + 1)) k s j = c s j + od_e g c q (k + 1) (tN s j) := if_neg hg
        have h7 := h j hj hg
        unfold od_v at h7
        rw [if_pos (by omega)] at h7
        have h6 : od_e g c (i :: q) k s * 32768 = (c s j + od_e g c q (k + 1) (tN s j)) * 32768 := by rw [← hv, h2]
        rw [Nat.add_mul] at h6
        rw [h6]
        clear h6 h2 hv h5 hE
        generalize od_e g c q (k + 1) (tN s j) = Y at *
        omega
    · rw [if_neg h5]
      exact hC
/-! the sets: what the class's table holds -/
abbrev od_b (m i : Nat) : Nat := sv_t m i
/-- least by one light (of number i), by turns 0 to j less 1 -/
def od_j (g : Nat → Nat → Nat → Nat) (c : Nat → Nat → Nat) (D : Nat → Nat) (i k fig s : Nat) (a : Nat) : Nat → Nat
  | 0 => a
  | j + 1 => if g i k (tN s j) = 0 then od_j g c D i k fig s a j else min (od_j g c D i k fig s a j) (c s j * 32768 + fig + D (tN s j))
/-- least by lights 0 to i less 1, of those not yet in the set m (k looked at, r + 1 to look at) -/
def od_i (g : Nat → Nat → Nat → Nat) (c : Nat → Nat → Nat) (T : Nat → Nat → Nat) (m k r s : Nat) : Nat → Nat
  | 0 => 536870912
  | i + 1 => if od_b m i = 0 then od_j g c (T (m + 2 ^ i)) i k (i * 8 ^ r) s (od_i g c T m k r s i) 13 else od_i g c T m k r s i
def od_w (g : Nat → Nat → Nat → Nat) (c : Nat → Nat → Nat) (n : Nat) : Nat → Nat → Nat → Nat
  | 0, _, _ => 0
  | r + 1, m, s => od_i g c (fun m' s' => od_w g c n r m' s') m (n - (r + 1)) r s n
theorem od_j_iff {g : Nat → Nat → Nat → Nat} {c : Nat → Nat → Nat} {D : Nat → Nat} {i k fig s a C : Nat} (n : Nat) : C ≤ od_j g c D i k fig s a n ↔ C ≤ a ∧ ∀ j, j < n → ¬ g i k (tN s j) = 0 → C ≤ c s j * 32768 + fig + D (tN s j) := by
  induction n with
  | zero => exact ⟨fun h => ⟨h, fun j hj => absurd hj (Nat.not_lt_zero j)⟩, fun h => h.1⟩
  | succ n ih =>
    show C ≤ (if g i k (tN s n) = 0 then od_j g c D i k fig s a n else min (od_j g c D i k fig s a n) (c s n * 32768 + fig + D (tN s n))) ↔ _
    by_cases h : g i k (tN s n) = 0
    · rw [if_pos h, ih]
      refine and_congr Iff.rfl ⟨fun h2 j hj hg => ?_, fun h2 j hj hg => h2 j (by omega) hg⟩
      by_cases e : j = n
      · subst e
        exact absurd h hg
      · exact h2 j (by omega) hg
    · rw [if_neg h, Nat.le_min, ih, and_assoc]
      refine and_congr Iff.rfl ⟨fun h2 j hj hg => ?_, fun h2 => ⟨fun j hj hg => h2 j (by omega) hg, h2 n (by omega) h⟩⟩
      by_cases e : j = n
      · subst e
        exact h2.2
      · exact h2.1 j (by omega) hg
theorem od_i_iff {g : Nat → Nat → Nat → Nat} {c : Nat → Nat → Nat} {T : Nat → Nat → Nat} {m k r s C : Nat} (hC : C ≤ 536870912) (n : Nat) : C ≤ od_i g c T m k r s n ↔ ∀ i, i < n → od_b m i = 0 → ∀ j, j < 13 → ¬ g i k (tN s j) = 0 → C ≤ c s j * 32768 + i * 8 ^ r + T (m + 2 ^ i) (tN s j) := by
  induction n with
  | zero => exact ⟨fun _ i hi => absurd hi (Nat.not_lt_zero i), fun _ => hC⟩
  | succ n ih =>
    show C ≤ (if od_b m n = 0 then od_j g c (T (m + 2 ^ n)) n k (n * 8 ^ r) s (od_i g c T m k r s n) 13 else od_i g c T m k r s n) ↔ _
    by_cases h : od_b m n = 0
    · rw [if_pos h, od_j_iff, ih]
      constructor
      · intro h2 i hi hb j hj hg
        by_cases e : i = n
        · subst e
          exact h2.2 j hj hg
        · exact h2.1 i (by omega) hb j hj hg
      · exact fun h2 => ⟨fun i hi hb => h2 i (by omega) hb, h2 n (by omega) h⟩
    · rw [if_neg h, ih]
      constructor
      · intro h2 i hi hb j hj hg
        by_cases e : i = n
        · subst e
          exact absurd hb h
        · exact h2 i (by omega) hb j hj hg
      · exact fun h2 i hi hb => h2 i (by omega) hb
/-- all rows of the lights that are not in the set m -/
def od_c (n m : Nat) (f : Nat → List (List Nat)) : Nat → List (List Nat)
  | 0 => []
  | i + 1 => od_c n m f i ++ (if od_b m i = 0 then (f i).map (fun q => i :: q) else [])
def od_q (n : Nat) : Nat → Nat → List (List Nat)
  | 0, _ => [[]]
  | r + 1, m => od_c n m (fun i => od_q n r (m + 2 ^ i)) n
theorem od_c_mem {n m : Nat} {f : Nat → List (List Nat)} {p : List Nat} (x : Nat) : p ∈ od_c n m f x ↔ ∃ i q, i < x ∧ od_b m i = 0 ∧ q ∈ f i ∧ p = i :: q := by
  induction x with
  | zero => exact ⟨fun h => absurd h (List.not_mem_nil), fun ⟨i, q, h, _⟩ => absurd h (Nat.not_lt_zero i)⟩
  | succ x ih =>
    show p ∈ od_c n m f x ++ (if od_b m x = 0 then (f x).map (fun q => x :: q) else []) ↔ _
    rw [List.mem_append, ih]
    constructor
    · rintro (⟨i, q, hi, h⟩ | h)
      · exact ⟨i, q, by omega, h⟩
      · by_cases hb : od_b m x = 0
        · rw [if_pos hb, List.mem_map] at h
          obtain ⟨q, hq, e⟩ := h
          exact ⟨x, q, by omega, hb, hq, e.symm⟩
        · rw [if_neg hb] at h
          exact absurd h (List.not_mem_nil)
    · rintro ⟨i, q, hi, hb, hq, e⟩
      by_cases h : i = x
      · subst h
        refine Or.inr ?_
        rw [if_pos hb, List.mem_map]
        exact ⟨q, hq, e.symm⟩
      · exact Or.inl ⟨i, q, by omega, hb, hq, e⟩
theorem od_q_len {n : Nat} (r : Nat) : ∀ m p, p ∈ od_q n r m → p.length = r := by
  induction r with
  | zero =>
    intro m p h
    rw [show od_q n 0 m = [[]] from rfl, List.mem_singleton] at h
    rw [h]
    rfl
  | succ r ih =>
    intro m p h
    obtain ⟨i, q, _, _, hq, rfl⟩ := (od_c_mem n).mp (show p ∈ od_c n m (fun i => od_q n r (m + 2 ^ i)) n from h)
    show q.length + 1 = r + 1
    rw [ih _ q hq]
theorem od_w_iff {g : Nat → Nat → Nat → Nat} {c : Nat → Nat → Nat} (hc : ∀ s j, j < 13 → c s j ≤ 10) {n : Nat} (n8 : n ≤ 8) (r : Nat) : r ≤ n → ∀ m s C, C ≤ 536870912 → (C ≤ od_w g c n r m s ↔ r = 0 ∧ C = 0 ∨ 0 < r ∧ ∀ p, p ∈ od_q n r m → C ≤ od_v g c p (n - r) s) := by
  induction r with
  | zero =>
    intro _ m s C hC
    show C ≤ 0 ↔ _
    omega
  | succ r ih =>
    intro hr m s C hC
    show C ≤ od_i g c (fun m' s' => od_w g c n r m' s') m (n - (r + 1)) r s n ↔ _
    rw [od_i_iff hC]
    constructor
    · intro h
      refine Or.inr ⟨by omega, fun p hp => ?_⟩
      obtain ⟨i, q, hi, hb, hq, rfl⟩ := (od_c_mem n).mp (show p ∈ od_c n m (fun i => od_q n r (m + 2 ^ i)) n from hp)
      have hl := od_q_len r _ q hq
      rw [od_v_c hc (by omega) hC, hl]
      intro j hj hg
      have h2 := h i hi hb j hj hg
      rw [show n - (r + 1) + 1 = n - r by omega]
      rcases Nat.eq_zero_or_pos r with h0 | h0
      · subst h0
        have h3 : C ≤ c s j * 32768 + i * 8 ^ 0 + 0 := h2
        exact Nat.le_trans h3 (Nat.add_le_add_left (Nat.zero_le _) _)
      · have h3 := (ih (by omega) (m + 2 ^ i) (tN s j) (C - (c s j * 32768 + i * 8 ^ r)) (by omega)).mp (by
          show _ ≤ od_w g c n r (m + 2 ^ i) (tN s j)
          omega)
        rcases h3 with h3 | h3
        · omega
        · have h4 := h3.2 q hq
          omega
    · intro h i hi hb j hj hg
      rcases h with h | h
      · exact absurd h.1 (by omega)
      · show C ≤ c s j * 32768 + i * 8 ^ r + od_w g c n r (m + 2 ^ i) (tN s j)
        rcases Nat.eq_zero_or_pos r with h0 | h0
        · subst h0
          have h2 := h.2 [i] ((od_c_mem n).mpr ⟨i, [], hi, hb, List.mem_singleton.mpr rfl, rfl⟩)
          rw [od_v_c hc (by decide) hC] at h2
          have h3 := h2 j hj hg
          rw [od_v_nil] at h3
          exact h3
        · have h3 := (ih (by omega) (m + 2 ^ i) (tN s j) (C - (c s j * 32768 + i * 8 ^ r)) (by omega)).mpr (Or.inr ⟨h0, fun q hq => by
            have hl := od_q_len r _ q hq
            have h2 := h.2 (i :: q) ((od_c_mem n).mpr ⟨i, q, hi, hb, hq, rfl⟩)
            rw [od_v_c hc (by omega) hC, hl] at h2
            have h4 := h2 j hj hg
            rw [show n - (r + 1) + 1 = n - r by omega] at h4
            omega⟩)
          omega
/-! the first least of a list -/
def od_f (e : List Nat → Nat) : Nat × List Nat → List (List Nat) → Nat × List Nat
  | a, [] => a
  | a, p :: l => od_f e (if e p < a.1 then (e p, p) else a) l
theorem od_f_le {e : List Nat → Nat} (l : List (List Nat)) : ∀ a, (od_f e a l).1 ≤ a.1 ∧ ∀ p, p ∈ l → (od_f e a l).1 ≤ e p := by
  induction l with
  | nil => exact fun a => ⟨Nat.le_refl _, fun p hp => absurd hp (List.not_mem_nil)⟩
  | cons x l ih =>
    intro a
    show (od_f e (if e x < a.1 then (e x, x) else a) l).1 ≤ a.1 ∧ ∀ p, p ∈ x :: l → (od_f e (if e x < a.1 then (e x, x) else a) l).1 ≤ e p
    have h := ih (if e x < a.1 then (e x, x) else a)
    have h2 : (if e x < a.1 then (e x, x) else a).1 ≤ a.1 ∧ (if e x < a.1 then (e x, x) else a).1 ≤ e x := by
      split
      · exact ⟨by show e x ≤ a.1; omega, Nat.le_refl _⟩
      · exact ⟨Nat.le_refl _, by omega⟩
    refine ⟨Nat.le_trans h.1 h2.1, fun p hp => ?_⟩
    rcases List.mem_cons.mp hp with rfl | hp
    · exact Nat.le_trans h.1 h2.2
    · exact h.2 p hp
/-- the first of the least: no row ahead of it is as little -/
theorem od_f_at {e : List Nat → Nat} (l : List (List Nat)) (hs : l.Pairwise (fun p q => od_n p ≤ od_n q)) : ∀ a, od_f e a l = a ∨ ((od_f e a l).2 ∈ l ∧ (od_f e a l).1 = e (od_f e a l).2 ∧ (od_f e a l).1 < a.1 ∧ ∀ p, p ∈ l → e p = (od_f e a l).1 → od_n (od_f e a l).2 ≤ od_n p) := by
  induction l with
  | nil => exact fun a => Or.inl rfl
  | cons x l ih =>
    intro a
    have hs2 := List.pairwise_cons.mp hs
    show od_f e (if e x < a.1 then (e x, x) else a) l = a ∨ _
    show od_f e (if e x < a.1 then (e x, x) else a) l = a ∨ ((od_f e (if e x < a.1 then (e x, x) else a) l).2 ∈ x :: l ∧ (od_f e (if e x < a.1 then (e x, x) else a) l).1 = e (od_f e (if e x < a.1 then (e x, x) else a) l).2 ∧ (od_f e (if e x < a.1 then (e x, x) else a) l).1 < a.1 ∧ ∀ p, p ∈ x :: l → e p = (od_f e (if e x < a.1 then (e x, x) else a) l).1 → od_n (od_f e (if e x < a.1 then (e x, x) else a) l).2 ≤ od_n p)
    by_cases h : e x < a.1
    · rw [if_pos h]
      rcases ih hs2.2 (e x, x) with h1 | ⟨h1, h2, h3, h4⟩
      · rw [h1]
        refine Or.inr ⟨List.mem_cons_self, rfl, h, fun p hp hep => ?_⟩
        rcases List.mem_cons.mp hp with rfl | hp
        · exact Nat.le_refl _
        · exact hs2.1 p hp
      · refine Or.inr ⟨List.mem_cons_of_mem _ h1, h2, by have h5 : (od_f e (e x, x) l).1 < e x := h3; omega, fun p hp hep => ?_⟩
        rcases List.mem_cons.mp hp with rfl | hp
        · have h5 : (od_f e (e p, p) l).1 < e p := h3
          omega
        · exact h4 p hp hep
    · rw [if_neg h]
      rcases ih hs2.2 a with h1 | ⟨h1, h2, h3, h4⟩
      · exact Or.inl h1
      · refine Or.inr ⟨List.mem_cons_of_mem _ h1, h2, h3, fun p hp hep => ?_⟩
        rcases List.mem_cons.mp hp with rfl | hp
        · omega
        · exact h4 p hp hep
/-- what both tell -/
theorem od_same {g : Nat → Nat → Nat → Nat} {c : Nat → Nat → Nat} (hc : ∀ s j, j < 13 → c s j ≤ 10) {n : Nat} (n1 : 1 ≤ n) (n5 : n ≤ 5) (hs : (od_q n n 0).Pairwise (fun p q => od_n p ≤ od_n q)) (hb : ∀ p, p ∈ od_q n n 0 → od_n p < 32768) (s : Nat) : (100000 ≤ (od_f (fun p => od_e g c p 0 s) (100000, []) (od_q n n 0)).1 → od_w g c n n 0 s = 536870912) ∧ ((od_f (fun p => od_e g c p 0 s) (100000, []) (od_q n n 0)).1 < 100000 → od_w g c n n 0 s = (od_f (fun p => od_e g c p 0 s) (100000, []) (od_q n n 0)).1 * 32768 + od_n (od_f (fun p => od_e g c p 0 s) (100000, []) (od_q n n 0)).2 ∧ (od_f (fun p => od_e g c p 0 s) (100000, []) (od_q n n 0)).2 ∈ od_q n n 0 ∧ (od_f (fun p => od_e g c p 0 s) (100000, []) (od_q n n 0)).1 ≤ 80) := by
  have hw := fun C hC => (od_w_iff (g := g) hc (n := n) (by omega) n (Nat.le_refl _) 0 s C hC).trans ⟨fun h => h.resolve_left (by omega) |>.2, fun h => Or.inr ⟨by omega, h⟩⟩
  rw [Nat.sub_self] at hw
  have hle : od_w g c n n 0 s ≤ 536870912 := by
    have h1 : ∀ i, od_i g c (fun m' s' => od_w g c n (n - 1) m' s') 0 (n - (n - 1 + 1)) (n - 1) s i ≤ 536870912 := by
      intro i
      induction i with
      | zero => exact Nat.le_refl _
      | succ i ih =>
        show (if od_b 0 i = 0 then od_j g c _ i _ _ s _ 13 else _) ≤ _
        split
        · exact Nat.le_trans ((od_j_iff 13).mp (Nat.le_refl _)).1 ih
        · exact ih
    have h2 := h1 n
    rw [show od_w g c n n 0 s = od_w g c n (n - 1 + 1) 0 s by rw [show n - 1 + 1 = n by omega]]
    exact h2
  have hf := od_f_le (e := fun p => od_e g c p 0 s) (od_q n n 0) (100000, [])
  have ha := od_f_at (e := fun p => od_e g c p 0 s) (od_q n n 0) hs (100000, [])
  generalize od_f (fun p => od_e g c p 0 s) (100000, []) (od_q n n 0) = F at *
  constructor
  · intro h
    refine Nat.le_antisymm hle ((hw _ (Nat.le_refl _)).mpr (fun p hp => ?_))
    have h2 := hf.2 p hp
    have h3 : F.1 ≤ od_e g c p 0 s := h2
    unfold od_v
    rw [if_neg (by omega)]
    exact Nat.le_refl _
  · intro h
    rcases ha with h1 | ⟨h1, h2, h3, h4⟩
    · rw [h1] at h
      exact absurd h (Nat.lt_irrefl _)
    · have h2' : F.1 = od_e g c F.2 0 s := h2
      have hv : od_v g c F.2 0 s = F.1 * 32768 + od_n F.2 := by
        unfold od_v
        rw [← h2', if_pos h]
      have hlen := od_q_len n 0 F.2 h1
      have h80 : F.1 ≤ 80 := by
        have h9 := od_e_fin (g := g) hc F.2 (by omega) 0 s
        rw [← h2', hlen] at h9
        omega
      have hb2 := hb F.2 h1
      refine ⟨Nat.le_antisymm ?_ ?_, h1, h80⟩
      · have h5 := (hw _ hle).mp (Nat.le_refl _) F.2 h1
        rw [hv] at h5
        exact h5
      · refine (hw _ (by omega)).mpr (fun p hp => ?_)
        unfold od_v
        by_cases h5 : od_e g c p 0 s < 100000
        · rw [if_pos h5]
          have h6 : F.1 ≤ od_e g c p 0 s := hf.2 p hp
          by_cases h7 : od_e g c p 0 s = F.1
          · have h8 := h4 p hp h7
            rw [h7]
            omega
          · have h8 : (F.1 + 1) * 32768 ≤ od_e g c p 0 s * 32768 := Nat.mul_le_mul_right _ (by omega)
            rw [Nat.add_mul] at h8
            omega
        · rw [if_neg h5]
          omega
