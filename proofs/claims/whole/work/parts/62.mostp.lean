/-! the most within an effort: pure, both sides -/
def mo_r (g c : Nat → Nat → Nat) (D : Nat → Nat → Nat) (k s : Nat) : Nat → Nat → Nat
  | 0, _ => 0
  | j + 1, l => if c s j ≤ l then max (mo_r g c D k s j l) (g k (tN s j) + D (tN s j) (l - c s j)) else mo_r g c D k s j l
def mo_d (g c : Nat → Nat → Nat) (n : Nat) : Nat → Nat → Nat → Nat
  | 0, _, _ => 0
  | i + 1, s, l => mo_r g c (mo_d g c n i) (n - (i + 1)) s 13 l
theorem mo_r_le {g c : Nat → Nat → Nat} {D : Nat → Nat → Nat} {k s K : Nat} (hg : ∀ k s, g k s ≤ 24) (hD : ∀ s l, D s l ≤ K) (j l : Nat) : mo_r g c D k s j l ≤ K + 24 := by
  induction j with
  | zero => exact Nat.zero_le _
  | succ j ih =>
    have h1 := hg k (tN s j)
    have h2 := hD (tN s j) (l - c s j)
    show (if c s j ≤ l then max (mo_r g c D k s j l) (g k (tN s j) + D (tN s j) (l - c s j)) else mo_r g c D k s j l) ≤ _
    split <;> omega
theorem mo_d_le {g c : Nat → Nat → Nat} {n : Nat} (hg : ∀ k s, g k s ≤ 24) (i : Nat) : ∀ s l, mo_d g c n i s l ≤ 24 * i := by
  induction i with
  | zero => exact fun s l => Nat.le_refl _
  | succ i ih => exact fun s l => mo_r_le hg ih 13 l
theorem mo_row {g c : Nat → Nat → Nat} {n k s l : Nat} (hk : k < n) : mo_d g c n (n - k) s l = mo_r g c (mo_d g c n (n - (k + 1))) k s 13 l := by
  rw [show n - k = (n - (k + 1)) + 1 by omega]
  show mo_r g c (mo_d g c n (n - (k + 1))) (n - (n - (k + 1) + 1)) s 13 l = _
  rw [show n - (n - (k + 1) + 1) = k by omega]
theorem mo_r_y {g c : Nat → Nat → Nat} {D : Nat → Nat → Nat} {k s j l : Nat} (h : c s j ≤ l) : mo_r g c D k s (j + 1) l = max (mo_r g c D k s j l) (g k (tN s j) + D (tN s j) (l - c s j)) := if_pos h
theorem mo_r_n {g c : Nat → Nat → Nat} {D : Nat → Nat → Nat} {k s j l : Nat} (h : ¬ c s j ≤ l) : mo_r g c D k s (j + 1) l = mo_r g c D k s j l := if_neg h
theorem mo_r_ge {g c : Nat → Nat → Nat} {D : Nat → Nat → Nat} {k s l : Nat} (n : Nat) : ∀ j, j < n → c s j ≤ l → g k (tN s j) + D (tN s j) (l - c s j) ≤ mo_r g c D k s n l := by
  induction n with
  | zero => exact fun j hj => absurd hj (Nat.not_lt_zero j)
  | succ n ih =>
    intro j hj hc
    by_cases e : j = n
    · subst e
      rw [mo_r_y hc]
      exact Nat.le_max_right _ _
    · have h := ih j (by omega) hc
      by_cases h2 : c s n ≤ l
      · rw [mo_r_y h2]
        exact Nat.le_trans h (Nat.le_max_left _ _)
      · rw [mo_r_n h2]
        exact h
theorem mo_r_at {g c : Nat → Nat → Nat} {D : Nat → Nat → Nat} {k s l : Nat} (n : Nat) : mo_r g c D k s n l = 0 ∨ ∃ j, j < n ∧ c s j ≤ l ∧ mo_r g c D k s n l = g k (tN s j) + D (tN s j) (l - c s j) := by
  induction n with
  | zero => exact Or.inl rfl
  | succ n ih =>
    by_cases h2 : c s n ≤ l
    · rw [mo_r_y h2]
      by_cases h3 : mo_r g c D k s n l ≤ g k (tN s n) + D (tN s n) (l - c s n)
      · rw [Nat.max_eq_right h3]
        exact Or.inr ⟨n, by omega, h2, rfl⟩
      · rw [Nat.max_eq_left (by omega)]
        exact ih.imp id (fun ⟨j, hj, h⟩ => ⟨j, by omega, h⟩)
    · rw [mo_r_n h2]
      exact ih.imp id (fun ⟨j, hj, h⟩ => ⟨j, by omega, h⟩)
/-! forward, as the reference goes: a number is one more than what was got, 0 is none -/
def mo_t (c : Nat → Nat → Nat) (x j : Nat) : Nat := 41 * tN (x / 41) j + (x % 41 + c (x / 41) j)
def mo_j (c : Nat → Nat → Nat) (e : Nat) (gm : Nat → Nat) (mo : Nat → Nat) (x : Nat) (f : Nat → Nat) : Nat → (Nat → Nat)
  | 0 => f
  | j + 1 => if 1 ≤ mo x ∧ x % 41 + c (x / 41) j ≤ e ∧ mo_j c e gm mo x f j (mo_t c x j) < mo x + gm (tN (x / 41) j) then sv_upd (mo_j c e gm mo x f j) (mo_t c x j) (mo x + gm (tN (x / 41) j)) else mo_j c e gm mo x f j
def mo_x (c : Nat → Nat → Nat) (e : Nat) (gm : Nat → Nat) (mo : Nat → Nat) : Nat → (Nat → Nat)
  | 0 => fun _ => 0
  | x + 1 => mo_j c e gm mo x (mo_x c e gm mo x) 13
def mo_0 (s0 : Nat) : Nat → Nat := fun y => if y = 41 * s0 then 1 else 0
def mo_f (g c : Nat → Nat → Nat) (e s0 : Nat) : Nat → (Nat → Nat)
  | 0 => mo_0 s0
  | m + 1 => mo_x c e (g m) (mo_f g c e s0 m) 984
def mo_b (f : Nat → Nat) : Nat → Nat
  | 0 => 0
  | y + 1 => max (mo_b f y) (f y - 1)
section MO
variable {g c : Nat → Nat → Nat} {e s0 : Nat} {gm mo f : Nat → Nat} {x : Nat}
theorem mo_j0 (h : mo x = 0) (j : Nat) : mo_j c e gm mo x f j = f := by
  induction j with
  | zero => rfl
  | succ j ih => exact (if_neg (fun z => by omega)).trans ih
theorem mo_jy {j : Nat} (h1 : 1 ≤ mo x) (h2 : x % 41 + c (x / 41) j ≤ e) (h3 : mo_j c e gm mo x f j (mo_t c x j) < mo x + gm (tN (x / 41) j)) : mo_j c e gm mo x f (j + 1) = sv_upd (mo_j c e gm mo x f j) (mo_t c x j) (mo x + gm (tN (x / 41) j)) := if_pos ⟨h1, h2, h3⟩
theorem mo_jn {j : Nat} (h : ¬ (1 ≤ mo x ∧ x % 41 + c (x / 41) j ≤ e ∧ mo_j c e gm mo x f j (mo_t c x j) < mo x + gm (tN (x / 41) j))) : mo_j c e gm mo x f (j + 1) = mo_j c e gm mo x f j := if_neg h
theorem mo_j_up (j y : Nat) : f y ≤ mo_j c e gm mo x f j y := by
  induction j with
  | zero => exact Nat.le_refl _
  | succ j ih =>
    by_cases h : 1 ≤ mo x ∧ x % 41 + c (x / 41) j ≤ e ∧ mo_j c e gm mo x f j (mo_t c x j) < mo x + gm (tN (x / 41) j)
    · rw [mo_jy h.1 h.2.1 h.2.2]
      by_cases e9 : y = mo_t c x j
      · subst e9
        rw [sv_upd_s]
        omega
      · rw [sv_upd_n e9]
        exact ih
    · rw [mo_jn h]
      exact ih
theorem mo_j_ge (n : Nat) : ∀ j, j < n → 1 ≤ mo x → x % 41 + c (x / 41) j ≤ e → mo x + gm (tN (x / 41) j) ≤ mo_j c e gm mo x f n (mo_t c x j) := by
  induction n with
  | zero => exact fun j hj => absurd hj (Nat.not_lt_zero j)
  | succ n ih =>
    intro j hj h1 h2
    have hup : mo_j c e gm mo x f n (mo_t c x j) ≤ mo_j c e gm mo x f (n + 1) (mo_t c x j) := by
      by_cases h : 1 ≤ mo x ∧ x % 41 + c (x / 41) n ≤ e ∧ mo_j c e gm mo x f n (mo_t c x n) < mo x + gm (tN (x / 41) n)
      · rw [mo_jy h.1 h.2.1 h.2.2]
        by_cases e9 : mo_t c x j = mo_t c x n
        · rw [e9, sv_upd_s]
          omega
        · rw [sv_upd_n e9]
          exact Nat.le_refl _
      · rw [mo_jn h]
        exact Nat.le_refl _
    by_cases e8 : j = n
    · subst e8
      by_cases h3 : mo_j c e gm mo x f j (mo_t c x j) < mo x + gm (tN (x / 41) j)
      · rw [mo_jy h1 h2 h3, sv_upd_s]
        exact Nat.le_refl _
      · omega
    · exact Nat.le_trans (ih j (by omega) h1 h2) hup
theorem mo_j_at (n y : Nat) : mo_j c e gm mo x f n y = f y ∨ ∃ j, j < n ∧ 1 ≤ mo x ∧ x % 41 + c (x / 41) j ≤ e ∧ y = mo_t c x j ∧ mo_j c e gm mo x f n y = mo x + gm (tN (x / 41) j) := by
  induction n with
  | zero => exact Or.inl rfl
  | succ n ih =>
    by_cases h : 1 ≤ mo x ∧ x % 41 + c (x / 41) n ≤ e ∧ mo_j c e gm mo x f n (mo_t c x n) < mo x + gm (tN (x / 41) n)
    · rw [mo_jy h.1 h.2.1 h.2.2]
      by_cases e9 : y = mo_t c x n
      · subst e9
        rw [sv_upd_s]
        exact Or.inr ⟨n, by omega, h.1, h.2.1, rfl, rfl⟩
      · rw [sv_upd_n e9]
        exact ih.imp id (fun ⟨j, hj, hr⟩ => ⟨j, by omega, hr⟩)
    · rw [mo_jn h]
      exact ih.imp id (fun ⟨j, hj, hr⟩ => ⟨j, by omega, hr⟩)
theorem mo_x_ge (n : Nat) : ∀ x, x < n → ∀ j, j < 13 → 1 ≤ mo x → x % 41 + c (x / 41) j ≤ e → mo x + gm (tN (x / 41) j) ≤ mo_x c e gm mo n (mo_t c x j) := by
  induction n with
  | zero => exact fun x hx => absurd hx (Nat.not_lt_zero x)
  | succ n ih =>
    intro x hx j hj h1 h2
    by_cases e9 : x = n
    · subst e9
      exact mo_j_ge 13 j hj h1 h2
    · exact Nat.le_trans (ih x (by omega) j hj h1 h2) (mo_j_up 13 _)
theorem mo_x_at (n y : Nat) : mo_x c e gm mo n y = 0 ∨ ∃ x, x < n ∧ ∃ j, j < 13 ∧ 1 ≤ mo x ∧ x % 41 + c (x / 41) j ≤ e ∧ y = mo_t c x j ∧ mo_x c e gm mo n y = mo x + gm (tN (x / 41) j) := by
  induction n with
  | zero => exact Or.inl rfl
  | succ n ih =>
    show mo_j c e gm mo n (mo_x c e gm mo n) 13 y = 0 ∨ ∃ x, x < n + 1 ∧ ∃ j, j < 13 ∧ 1 ≤ mo x ∧ x % 41 + c (x / 41) j ≤ e ∧ y = mo_t c x j ∧ mo_j c e gm mo n (mo_x c e gm mo n) 13 y = mo x + gm (tN (x / 41) j)
    rcases mo_j_at (c := c) (e := e) (gm := gm) (mo := mo) (x := n) (f := mo_x c e gm mo n) 13 y with h | ⟨j, hj, h⟩
    · rw [h]
      exact ih.imp id (fun ⟨x, hx, hr⟩ => ⟨x, by omega, hr⟩)
    · exact Or.inr ⟨n, by omega, j, hj, h⟩
theorem mo_j_le {K : Nat} (hg : ∀ s, gm s ≤ 24) (hm : mo x + 24 ≤ K) (hf : ∀ y, f y ≤ K) (j y : Nat) : mo_j c e gm mo x f j y ≤ K := by
  rcases mo_j_at (c := c) (e := e) (gm := gm) (mo := mo) (x := x) (f := f) j y with h | ⟨i, _, _, _, _, h⟩
  · rw [h]
    exact hf y
  · have := hg (tN (x / 41) i)
    omega
theorem mo_x_le {K : Nat} (hg : ∀ s, gm s ≤ 24) (hm : ∀ x, mo x + 24 ≤ K) (n y : Nat) : mo_x c e gm mo n y ≤ K := by
  rcases mo_x_at (c := c) (e := e) (gm := gm) (mo := mo) n y with h | ⟨x, _, i, _, _, _, _, h⟩
  · omega
  · have := hg (tN (x / 41) i)
    have := hm x
    omega
theorem mo_f_le (hg : ∀ k s, g k s ≤ 24) (m : Nat) : ∀ y, mo_f g c e s0 m y ≤ 24 * m + 1 := by
  induction m with
  | zero =>
    intro y
    show (if y = 41 * s0 then 1 else 0) ≤ _
    split <;> omega
  | succ m ih => exact fun y => mo_x_le (hg m) (fun x => by have := ih x; omega) 984 y
theorem mo_t_d {x j : Nat} (h : x % 41 + c (x / 41) j ≤ e) (he : e ≤ 40) : mo_t c x j / 41 = tN (x / 41) j ∧ mo_t c x j % 41 = x % 41 + c (x / 41) j ∧ mo_t c x j < 984 := by
  have ht := tN_lt (x / 41) j
  unfold mo_t
  omega
theorem mo_val (he : e ≤ 40) (m : Nat) : ∀ y, 1 ≤ mo_f g c e s0 m y → y % 41 ≤ e ∧ (s0 < 24 → y < 984) := by
  cases m with
  | zero =>
    intro y hy
    have h2 : 1 ≤ (if y = 41 * s0 then 1 else 0) := hy
    split at h2 <;> omega
  | succ m =>
    intro y hy
    rcases mo_x_at (c := c) (e := e) (gm := g m) (mo := mo_f g c e s0 m) 984 y with h | ⟨x, hx, j, hj, h1, h2, h3, _⟩
    · have h4 : 1 ≤ mo_x c e (g m) (mo_f g c e s0 m) 984 y := hy
      omega
    · have h5 := mo_t_d h2 he
      rw [h3]
      omega
def mo_q (g c : Nat → Nat → Nat) (e s0 n C m : Nat) : Prop := ∀ y, 1 ≤ mo_f g c e s0 m y → mo_f g c e s0 m y - 1 + mo_d g c n (n - m) (y / 41) (e - y % 41) ≤ C
theorem mo_st (he : e ≤ 40) (hs0 : s0 < 24) (hc6 : ∀ s, s < 24 → c s 6 = 0) {n C m : Nat} (hm : m < n) : mo_q g c e s0 n C m ↔ mo_q g c e s0 n C (m + 1) := by
  constructor
  · intro h y hy
    rcases mo_x_at (c := c) (e := e) (gm := g m) (mo := mo_f g c e s0 m) 984 y with h0 | ⟨x, hx, j, hj, h1, h2, h3, h4⟩
    · have h5 : 1 ≤ mo_x c e (g m) (mo_f g c e s0 m) 984 y := hy
      omega
    · have h5 := mo_t_d h2 he
      have h6 := h x h1
      have h7 := (mo_val he m x h1).1
      rw [mo_row hm] at h6
      have h8 := mo_r_ge (g := g) (c := c) (D := mo_d g c n (n - (m + 1))) (k := m) (s := x / 41) (l := e - x % 41) 13 j hj (by omega)
      show mo_x c e (g m) (mo_f g c e s0 m) 984 y - 1 + _ ≤ C
      rw [h4, h3, h5.1, h5.2.1, show e - (x % 41 + c (x / 41) j) = e - x % 41 - c (x / 41) j from (Nat.sub_sub _ _ _).symm]
      omega
  · intro h x hx
    have h7 := mo_val he m x hx
    rw [mo_row hm]
    have key : ∀ j, j < 13 → c (x / 41) j ≤ e - x % 41 → mo_f g c e s0 m x - 1 + (g m (tN (x / 41) j) + mo_d g c n (n - (m + 1)) (tN (x / 41) j) (e - x % 41 - c (x / 41) j)) ≤ C := by
      intro j hj hc
      have h2 : x % 41 + c (x / 41) j ≤ e := by omega
      have h5 := mo_t_d h2 he
      have h8 := mo_x_ge (c := c) (e := e) (gm := g m) (mo := mo_f g c e s0 m) 984 x (h7.2 hs0) j hj hx h2
      have h9 := h (mo_t c x j) (show 1 ≤ mo_x c e (g m) (mo_f g c e s0 m) 984 (mo_t c x j) by omega)
      rw [h5.1, h5.2.1, show e - (x % 41 + c (x / 41) j) = e - x % 41 - c (x / 41) j from (Nat.sub_sub _ _ _).symm, show mo_f g c e s0 (m + 1) (mo_t c x j) = mo_x c e (g m) (mo_f g c e s0 m) 984 (mo_t c x j) from rfl] at h9
      omega
    rcases mo_r_at (g := g) (c := c) (D := mo_d g c n (n - (m + 1))) (k := m) (s := x / 41) (l := e - x % 41) 13 with h0 | ⟨j, hj, hc, h0⟩
    · rw [h0]
      have := key 6 (by decide) (by rw [hc6 _ (by have := h7.2 hs0; omega)]; exact Nat.zero_le _)
      omega
    · rw [h0]
      exact key j hj hc
theorem mo_b_ge (f : Nat → Nat) (n : Nat) : ∀ y, y < n → f y - 1 ≤ mo_b f n := by
  induction n with
  | zero => exact fun y hy => absurd hy (Nat.not_lt_zero y)
  | succ n ih =>
    intro y hy
    show _ ≤ max _ _
    by_cases e9 : y = n
    · subst e9
      exact Nat.le_max_right _ _
    · exact Nat.le_trans (ih y (by omega)) (Nat.le_max_left _ _)
theorem mo_b_le {f : Nat → Nat} {C : Nat} (n : Nat) (h : ∀ y, y < n → f y - 1 ≤ C) : mo_b f n ≤ C := by
  induction n with
  | zero => exact Nat.zero_le _
  | succ n ih =>
    have h1 := ih (fun y hy => h y (by omega))
    have h2 := h n (by omega)
    show max _ _ ≤ _
    omega
theorem mo_same (he : e ≤ 40) (hs0 : s0 < 24) (hc6 : ∀ s, s < 24 → c s 6 = 0) (n : Nat) : mo_b (mo_f g c e s0 n) 984 = mo_d g c n n s0 e := by
  have hall : ∀ C m, m ≤ n → (mo_q g c e s0 n C 0 ↔ mo_q g c e s0 n C m) := by
    intro C m
    induction m with
    | zero => exact fun _ => Iff.rfl
    | succ m ih => exact fun hm => (ih (by omega)).trans (mo_st he hs0 hc6 (by omega))
  have h0 : ∀ C, mo_q g c e s0 n C 0 ↔ mo_d g c n n s0 e ≤ C := by
    intro C
    constructor
    · intro h
      have h1 := h (41 * s0) (show 1 ≤ (if 41 * s0 = 41 * s0 then 1 else 0) by rw [if_pos rfl]; exact Nat.le_refl _)
      rw [show mo_f g c e s0 0 (41 * s0) = 1 from if_pos rfl, show 41 * s0 / 41 = s0 by omega, show 41 * s0 % 41 = 0 by omega, Nat.sub_zero, Nat.sub_zero] at h1
      omega
    · intro h y hy
      have h2 : 1 ≤ (if y = 41 * s0 then 1 else 0) := hy
      have h3 : y = 41 * s0 := by
        split at h2
        · assumption
        · omega
      subst h3
      rw [show mo_f g c e s0 0 (41 * s0) = 1 from if_pos rfl, show 41 * s0 / 41 = s0 by omega, show 41 * s0 % 41 = 0 by omega, Nat.sub_zero, Nat.sub_zero]
      omega
  have hn : ∀ y, mo_d g c n (n - n) (y / 41) (e - y % 41) = 0 := by
    intro y
    rw [Nat.sub_self]
    rfl
  refine Nat.le_antisymm ?_ ?_
  · have h1 := (hall _ n (Nat.le_refl _)).mp ((h0 _).mpr (Nat.le_refl _))
    refine mo_b_le 984 (fun y _ => ?_)
    by_cases h2 : 1 ≤ mo_f g c e s0 n y
    · have h3 := h1 y h2
      omega
    · omega
  · refine (h0 _).mp ((hall _ n (Nat.le_refl _)).mpr (fun y hy => ?_))
    rw [hn]
    exact mo_b_ge _ 984 y ((mo_val he n y hy).2 hs0)
end MO
