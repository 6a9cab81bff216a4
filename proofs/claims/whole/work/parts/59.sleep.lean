/-! sleep: weights spread against a sum over who sleeps when (pure) -/
theorem sv_add {f : Nat → Nat} {a : Nat} (b : Nat) : nsum f (a + b) = nsum f a + nsum (fun i => f (a + i)) b := by
  induction b with
  | zero => rfl
  | succ b ih =>
    show nsum f (a + b) + f (a + b) = nsum f a + (nsum (fun i => f (a + i)) b + f (a + b))
    rw [ih, Nat.add_assoc]
theorem sv_mul {f : Nat → Nat} {c : Nat} (n : Nat) : nsum (fun i => c * f i) n = c * nsum f n := by
  induction n with
  | zero => rfl
  | succ n ih =>
    show nsum (fun i => c * f i) n + c * f n = c * (nsum f n + f n)
    rw [ih, Nat.mul_add]
theorem sv_plus {f g : Nat → Nat} (n : Nat) : nsum (fun i => f i + g i) n = nsum f n + nsum g n := by
  induction n with
  | zero => rfl
  | succ n ih =>
    show nsum (fun i => f i + g i) n + (f n + g n) = nsum f n + f n + (nsum g n + g n)
    rw [ih]
    omega
theorem sv_mono {f g : Nat → Nat} {n : Nat} (h : ∀ i, i < n → f i ≤ g i) : nsum f n ≤ nsum g n := by
  induction n with
  | zero => exact Nat.le_refl _
  | succ n ih =>
    show nsum f n + f n ≤ nsum g n + g n
    have h1 := ih (fun i hi => h i (by omega))
    have h2 := h n (by omega)
    omega
theorem sv_0 (n : Nat) : nsum (fun _ => 0) n = 0 := by
  induction n with
  | zero => rfl
  | succ n ih =>
    show nsum (fun _ => 0) n + 0 = 0
    rw [ih]
def sv_upd (f : Nat → Nat) (i v : Nat) : Nat → Nat := fun x => if x = i then v else f x
theorem sv_upd_s {f : Nat → Nat} {i v : Nat} : sv_upd f i v i = v := if_pos rfl
theorem sv_upd_n {f : Nat → Nat} {i v x : Nat} (h : x ≠ i) : sv_upd f i v x = f x := if_neg h
theorem sv_sum_upd {f φ : Nat → Nat} {i d : Nat} (n : Nat) (hi : i < n) : nsum (fun u => sv_upd f i (f i + d) u * φ u) n = nsum (fun u => f u * φ u) n + d * φ i := by
  induction n with
  | zero => exact absurd hi (Nat.not_lt_zero i)
  | succ n ih =>
    show nsum (fun u => sv_upd f i (f i + d) u * φ u) n + sv_upd f i (f i + d) n * φ n = nsum (fun u => f u * φ u) n + f n * φ n + d * φ i
    by_cases h : n = i
    · subst h
      rw [sv_upd_s, nsum_congr (g := fun u => f u * φ u) (fun u hu => by rw [sv_upd_n (by omega)]), Nat.add_mul, Nat.add_assoc]
    · rw [sv_upd_n h, ih (by omega)]
      omega
def sv_a (W : Nat → Nat) (p s : Nat) (f : Nat → Nat) : Nat → Nat := sv_upd f s (f s + W s * p)
def sv_w (W : Nat → Nat) (p j : Nat) : Nat → Nat → Nat
  | 0 => fun _ => 0
  | s + 1 => sv_upd (sv_a W p s (sv_w W p j s)) (tN s j) (sv_a W p s (sv_w W p j s) (tN s j) + W s * (12 - p))
theorem sv_w_sum {W : Nat → Nat} {p j : Nat} (φ : Nat → Nat) (s : Nat) (hs : s ≤ 24) : nsum (fun u => sv_w W p j s u * φ u) 24 = nsum (fun t => W t * (p * φ t + (12 - p) * φ (tN t j))) s := by
  induction s with
  | zero =>
    show nsum (fun u => 0 * φ u) 24 = 0
    rw [nsum_congr (g := fun _ => 0) (fun u _ => Nat.zero_mul _), sv_0]
  | succ s ih =>
    show nsum (fun u => sv_upd (sv_a W p s (sv_w W p j s)) (tN s j) (sv_a W p s (sv_w W p j s) (tN s j) + W s * (12 - p)) u * φ u) 24 = nsum (fun t => W t * (p * φ t + (12 - p) * φ (tN t j))) s + W s * (p * φ s + (12 - p) * φ (tN s j))
    rw [sv_sum_upd 24 (tN_lt s j), show nsum (fun u => sv_a W p s (sv_w W p j s) u * φ u) 24 = nsum (fun u => sv_w W p j s u * φ u) 24 + W s * p * φ s from sv_sum_upd 24 (by omega), ih (by omega), Nat.mul_add, ← Nat.mul_assoc, ← Nat.mul_assoc, Nat.add_assoc]
def sv_z (e : Nat) (gk W : Nat → Nat) : Nat → Nat := fun s => if e = 1 ∧ gk s = 0 then 0 else W s
def sv_t (m k : Nat) : Nat := m / 2 ^ k % 2
theorem sv_t_lt (m k : Nat) : sv_t m k < 2 := Nat.mod_lt _ (by decide)
def sv_wg (p j x : Nat) : Nat := if j = 6 then (if x = 1 then 0 else 1) else (if x = 1 then p else 12 - p)
section SV
variable (s0 p e : Nat) (js : Nat → Nat) (g : Nat → Nat → Nat)
/-- the weights behind k moments, what was got, weighed -/
def sv_wt : Nat → Nat → Nat
  | 0 => sv_upd (fun _ => 0) s0 (0 + 1)
  | k + 1 => sv_z e (g k) (sv_w (sv_wt k) p (js k) 24)
def sv_gt : Nat → Nat
  | 0 => 0
  | k + 1 => sv_gt k * 12 + nsum (fun s => sv_w (sv_wt s0 p e js g k) p (js k) 24 s * g k s) 24
def sv_wy (m : Nat) : Nat → Nat
  | 0 => 1
  | k + 1 => sv_wy m k * sv_wg p (js k) (sv_t m k)
def sv_sl (m : Nat) : Nat → Nat
  | 0 => s0
  | k + 1 => if sv_t m k = 1 then sv_sl m k else tN (sv_sl m k) (js k)
def sv_ga (m : Nat) : Nat → Nat
  | 0 => 0
  | k + 1 => sv_ga m k + g k (sv_sl s0 js m (k + 1))
def sv_ge (m : Nat) : Nat → Nat
  | 0 => 1
  | k + 1 => if sv_ge m k = 0 then 0 else if g k (sv_sl s0 js m (k + 1)) = 0 then 0 else 1
def sv_tm (m n : Nat) : Nat := if e = 0 then sv_wy p js m n * sv_ga s0 js g m n else if sv_ge s0 js g m n = 0 then 0 else sv_wy p js m n
def sv_cz : Nat → Nat
  | 0 => 1
  | k + 1 => if js k = 6 then 12 * sv_cz k else sv_cz k
def sv_vy (m : Nat) : Nat → Nat
  | 0 => 1
  | k + 1 => if e = 1 ∧ g k (sv_sl s0 js m (k + 1)) = 0 then 0 else sv_vy m k * sv_wg p (js k) (sv_t m k)
end SV
section SVt
variable {s0 p e : Nat} {js : Nat → Nat} {g : Nat → Nat → Nat}
theorem sv_t0 {m k : Nat} (h : m < 2 ^ k) : sv_t m k = 0 := by
  unfold sv_t
  rw [Nat.div_eq_of_lt h]
theorem sv_t1 {m k : Nat} (h : m < 2 ^ k) : sv_t (2 ^ k + m) k = 1 := by
  unfold sv_t
  rw [Nat.add_comm, Nat.add_div_right m (Nat.two_pow_pos k), Nat.div_eq_of_lt h]
theorem sv_tl {m k i : Nat} (h : i < k) : sv_t (2 ^ k + m) i = sv_t m i := by
  unfold sv_t
  rw [show 2 ^ k = 2 ^ i * (2 * 2 ^ (k - i - 1)) by rw [← Nat.pow_succ', ← Nat.pow_add]; congr 1; omega, Nat.mul_add_div (Nat.two_pow_pos i), Nat.add_comm, Nat.add_mul_mod_self_left]
theorem sv_sl_c {m m' : Nat} (k : Nat) (h : ∀ i, i < k → sv_t m i = sv_t m' i) : sv_sl s0 js m k = sv_sl s0 js m' k := by
  induction k with
  | zero => rfl
  | succ k ih =>
    show (if sv_t m k = 1 then sv_sl s0 js m k else tN (sv_sl s0 js m k) (js k)) = (if sv_t m' k = 1 then sv_sl s0 js m' k else tN (sv_sl s0 js m' k) (js k))
    rw [ih (fun i hi => h i (by omega)), h k (by omega)]
theorem sv_wy_c {m m' : Nat} (k : Nat) (h : ∀ i, i < k → sv_t m i = sv_t m' i) : sv_wy p js m k = sv_wy p js m' k := by
  induction k with
  | zero => rfl
  | succ k ih =>
    show sv_wy p js m k * _ = sv_wy p js m' k * _
    rw [ih (fun i hi => h i (by omega)), h k (by omega)]
theorem sv_ga_c {m m' : Nat} (k : Nat) (h : ∀ i, i < k → sv_t m i = sv_t m' i) : sv_ga s0 js g m k = sv_ga s0 js g m' k := by
  induction k with
  | zero => rfl
  | succ k ih =>
    show sv_ga s0 js g m k + _ = sv_ga s0 js g m' k + _
    rw [ih (fun i hi => h i (by omega)), sv_sl_c (k + 1) h]
theorem sv_vy_c {m m' : Nat} (k : Nat) (h : ∀ i, i < k → sv_t m i = sv_t m' i) : sv_vy s0 p e js g m k = sv_vy s0 p e js g m' k := by
  induction k with
  | zero => rfl
  | succ k ih =>
    show (if e = 1 ∧ g k (sv_sl s0 js m (k + 1)) = 0 then 0 else sv_vy s0 p e js g m k * sv_wg p (js k) (sv_t m k)) = (if e = 1 ∧ g k (sv_sl s0 js m' (k + 1)) = 0 then 0 else sv_vy s0 p e js g m' k * sv_wg p (js k) (sv_t m' k))
    rw [ih (fun i hi => h i (by omega)), sv_sl_c (k + 1) h, h k (by omega)]
theorem sv_sl_lt (hs0 : s0 < 24) (m k : Nat) : sv_sl s0 js m k < 24 := by
  induction k with
  | zero => exact hs0
  | succ k ih =>
    show (if sv_t m k = 1 then sv_sl s0 js m k else tN (sv_sl s0 js m k) (js k)) < 24
    split
    · exact ih
    · exact tN_lt _ _
theorem sv_vy_0 {m : Nat} (k : Nat) : sv_vy s0 p 0 js g m k = sv_wy p js m k := by
  induction k with
  | zero => rfl
  | succ k ih =>
    show (if 0 = 1 ∧ _ then 0 else sv_vy s0 p 0 js g m k * _) = sv_wy p js m k * _
    rw [if_neg (by omega), ih]
theorem sv_vy_1 {m : Nat} (k : Nat) : sv_vy s0 p 1 js g m k = if sv_ge s0 js g m k = 0 then 0 else sv_wy p js m k := by
  induction k with
  | zero => rfl
  | succ k ih =>
    have e1 : sv_ge s0 js g m (k + 1) = if sv_ge s0 js g m k = 0 then 0 else if g k (sv_sl s0 js m (k + 1)) = 0 then 0 else 1 := rfl
    have e2 : sv_vy s0 p 1 js g m (k + 1) = if 1 = 1 ∧ g k (sv_sl s0 js m (k + 1)) = 0 then 0 else sv_vy s0 p 1 js g m k * sv_wg p (js k) (sv_t m k) := rfl
    have e3 : sv_wy p js m (k + 1) = sv_wy p js m k * sv_wg p (js k) (sv_t m k) := rfl
    rw [e1, e2, e3, ih]
    by_cases h1 : sv_ge s0 js g m k = 0
    · rw [if_pos h1, if_pos h1, if_pos rfl, Nat.zero_mul]
      split <;> rfl
    · rw [if_neg h1, if_neg h1]
      by_cases h2 : g k (sv_sl s0 js m (k + 1)) = 0
      · rw [if_pos h2, if_pos ⟨rfl, h2⟩, if_pos rfl]
      · rw [if_neg h2, if_neg (fun z => h2 z.2), if_neg (by decide)]
theorem sv_wg0 (p : Nat) : sv_wg p 6 0 = 1 ∧ sv_wg p 6 1 = 0 := ⟨rfl, rfl⟩
theorem sv_wg1 {p j : Nat} (h : ¬ j = 6) : sv_wg p j 0 = 12 - p ∧ sv_wg p j 1 = p := by
  unfold sv_wg
  rw [if_neg h, if_neg h]
  exact ⟨rfl, rfl⟩
theorem tN_6 {s : Nat} (h : s < 24) : tN s 6 = s := by
  unfold tN
  omega
theorem sv_pp (k : Nat) : (2 : Nat) ^ (k + 1) = 2 ^ k + 2 ^ k := by
  rw [Nat.pow_succ]
  omega
theorem sv_lo {m k : Nat} : ∀ i, i < k → sv_t (2 ^ k + m) i = sv_t m i := fun _ hi => sv_tl hi
theorem sv_slA {m k : Nat} (h : m < 2 ^ k) : sv_sl s0 js m (k + 1) = tN (sv_sl s0 js m k) (js k) := by
  show (if sv_t m k = 1 then _ else _) = _
  rw [sv_t0 h, if_neg (by decide)]
theorem sv_slB {m k : Nat} (h : m < 2 ^ k) : sv_sl s0 js (2 ^ k + m) (k + 1) = sv_sl s0 js m k := by
  show (if sv_t (2 ^ k + m) k = 1 then sv_sl s0 js (2 ^ k + m) k else _) = _
  rw [sv_t1 h, if_pos rfl, sv_sl_c k sv_lo]
theorem sv_if {c : Prop} [Decidable c] {a x : Nat} : (if c then 0 else a) * x = a * (if c then 0 else x) := by
  split
  · rw [Nat.zero_mul, Nat.mul_zero]
  · rfl
theorem sv_vyA {m k : Nat} (φ : Nat → Nat) (h : m < 2 ^ k) : sv_vy s0 p e js g m (k + 1) * φ (sv_sl s0 js m (k + 1)) = sv_vy s0 p e js g m k * (sv_wg p (js k) 0 * (if e = 1 ∧ g k (tN (sv_sl s0 js m k) (js k)) = 0 then 0 else φ (tN (sv_sl s0 js m k) (js k)))) := by
  show (if e = 1 ∧ g k (sv_sl s0 js m (k + 1)) = 0 then 0 else sv_vy s0 p e js g m k * sv_wg p (js k) (sv_t m k)) * _ = _
  rw [sv_slA h, sv_t0 h, sv_if, Nat.mul_assoc]
theorem sv_vyB {m k : Nat} (φ : Nat → Nat) (h : m < 2 ^ k) : sv_vy s0 p e js g (2 ^ k + m) (k + 1) * φ (sv_sl s0 js (2 ^ k + m) (k + 1)) = sv_vy s0 p e js g m k * (sv_wg p (js k) 1 * (if e = 1 ∧ g k (sv_sl s0 js m k) = 0 then 0 else φ (sv_sl s0 js m k))) := by
  show (if e = 1 ∧ g k (sv_sl s0 js (2 ^ k + m) (k + 1)) = 0 then 0 else sv_vy s0 p e js g (2 ^ k + m) k * sv_wg p (js k) (sv_t (2 ^ k + m) k)) * _ = _
  rw [sv_slB h, sv_t1 h, sv_if, sv_vy_c k sv_lo, Nat.mul_assoc]
theorem sv_m1 (hp : p ≤ 12) (hs0 : s0 < 24) (k : Nat) : ∀ φ : Nat → Nat, nsum (fun s => sv_wt s0 p e js g k s * φ s) 24 = sv_cz js k * nsum (fun m => sv_vy s0 p e js g m k * φ (sv_sl s0 js m k)) (2 ^ k) := by
  induction k with
  | zero =>
    intro φ
    rw [show nsum (fun s => sv_wt s0 p e js g 0 s * φ s) 24 = nsum (fun s => (fun _ => 0) s * φ s) 24 + 1 * φ s0 from sv_sum_upd (f := fun _ => 0) 24 hs0, nsum_congr (g := fun _ => 0) (fun u _ => Nat.zero_mul _), sv_0]
    show 0 + 1 * φ s0 = 1 * (0 + 1 * φ s0)
    omega
  | succ k ih =>
    intro φ
    rw [show nsum (fun s => sv_wt s0 p e js g (k + 1) s * φ s) 24 = nsum (fun s => sv_w (sv_wt s0 p e js g k) p (js k) 24 s * (if e = 1 ∧ g k s = 0 then 0 else φ s)) 24 from nsum_congr (fun s _ => sv_if),
      sv_w_sum (fun s => if e = 1 ∧ g k s = 0 then 0 else φ s) 24 (Nat.le_refl _), ih (fun t => p * (if e = 1 ∧ g k t = 0 then 0 else φ t) + (12 - p) * (if e = 1 ∧ g k (tN t (js k)) = 0 then 0 else φ (tN t (js k)))),
      sv_pp, sv_add, nsum_congr (n := 2 ^ k) (fun m hm => sv_vyA φ hm), nsum_congr (n := 2 ^ k) (fun m hm => sv_vyB φ hm), ← sv_plus]
    show _ = (if js k = 6 then 12 * sv_cz js k else sv_cz js k) * _
    by_cases h : js k = 6
    · rw [if_pos h, Nat.mul_comm 12, Nat.mul_assoc]
      refine congrArg _ ?_
      rw [← sv_mul]
      refine nsum_congr (fun m _ => ?_)
      rw [h, tN_6 (sv_sl_lt hs0 m k), (sv_wg0 p).1, (sv_wg0 p).2, ← Nat.add_mul, Nat.add_sub_cancel' hp, Nat.one_mul, Nat.zero_mul, Nat.mul_zero, Nat.add_zero, Nat.mul_left_comm]
    · rw [if_neg h]
      refine congrArg _ (nsum_congr (fun m _ => ?_))
      rw [(sv_wg1 h).1, (sv_wg1 h).2, ← Nat.mul_add, Nat.add_comm]
theorem sv_m0 (hp : p ≤ 12) {k : Nat} (ψ : Nat → Nat) (hψ : ∀ m, m < 2 ^ k → ψ (2 ^ k + m) = ψ m) : sv_cz js (k + 1) * nsum (fun m => sv_wy p js m (k + 1) * ψ m) (2 ^ (k + 1)) = 12 * (sv_cz js k * nsum (fun m => sv_wy p js m k * ψ m) (2 ^ k)) := by
  rw [sv_pp, sv_add, nsum_congr (n := 2 ^ k) (g := fun m => sv_wg p (js k) 0 * (sv_wy p js m k * ψ m)) (fun m hm => by
      show sv_wy p js m k * sv_wg p (js k) (sv_t m k) * ψ m = _
      rw [sv_t0 hm, Nat.mul_comm (sv_wy p js m k), Nat.mul_assoc]),
    nsum_congr (n := 2 ^ k) (f := fun i => sv_wy p js (2 ^ k + i) (k + 1) * ψ (2 ^ k + i)) (g := fun m => sv_wg p (js k) 1 * (sv_wy p js m k * ψ m)) (fun m hm => by
      show sv_wy p js (2 ^ k + m) k * sv_wg p (js k) (sv_t (2 ^ k + m) k) * ψ (2 ^ k + m) = _
      rw [sv_t1 hm, hψ m hm, sv_wy_c k sv_lo, Nat.mul_comm (sv_wy p js m k), Nat.mul_assoc]), sv_mul, sv_mul, ← Nat.add_mul]
  show (if js k = 6 then 12 * sv_cz js k else sv_cz js k) * _ = _
  by_cases h : js k = 6
  · rw [if_pos h, h, (sv_wg0 p).1, (sv_wg0 p).2, Nat.add_zero, Nat.one_mul, Nat.mul_assoc]
  · rw [if_neg h, (sv_wg1 h).1, (sv_wg1 h).2, Nat.sub_add_cancel hp, Nat.mul_left_comm]
theorem sv_m3 (hp : p ≤ 12) (k : Nat) : 12 ^ k = sv_cz js k * nsum (fun m => sv_wy p js m k) (2 ^ k) := by
  induction k with
  | zero => rfl
  | succ k ih =>
    have h := sv_m0 (js := js) hp (k := k) (fun _ => 1) (fun _ _ => rfl)
    rw [nsum_congr (n := 2 ^ (k + 1)) (g := fun m => sv_wy p js m (k + 1)) (fun m _ => Nat.mul_one _), nsum_congr (n := 2 ^ k) (g := fun m => sv_wy p js m k) (fun m _ => Nat.mul_one _)] at h
    rw [h, ← ih, Nat.pow_succ, Nat.mul_comm]
theorem sv_m2 (hp : p ≤ 12) (hs0 : s0 < 24) (k : Nat) : sv_gt s0 p 0 js g k = sv_cz js k * nsum (fun m => sv_wy p js m k * sv_ga s0 js g m k) (2 ^ k) := by
  induction k with
  | zero => rfl
  | succ k ih =>
    have h0 := sv_m0 (js := js) hp (k := k) (fun m => sv_ga s0 js g m k) (fun m _ => sv_ga_c k sv_lo)
    have h1 := sv_m1 (e := 0) (js := js) (g := g) hp hs0 (k + 1) (g k)
    rw [nsum_congr (n := 2 ^ (k + 1)) (g := fun m => sv_wy p js m (k + 1) * g k (sv_sl s0 js m (k + 1))) (fun m _ => by rw [sv_vy_0])] at h1
    have h2 : nsum (fun s => sv_wt s0 p 0 js g (k + 1) s * g k s) 24 = nsum (fun s => sv_w (sv_wt s0 p 0 js g k) p (js k) 24 s * g k s) 24 := nsum_congr (fun s _ => by
      show sv_z 0 (g k) (sv_w (sv_wt s0 p 0 js g k) p (js k) 24) s * g k s = _
      unfold sv_z
      rw [if_neg (by omega)])
    show sv_gt s0 p 0 js g k * 12 + nsum (fun s => sv_w (sv_wt s0 p 0 js g k) p (js k) 24 s * g k s) 24 = _
    rw [← h2, h1, ih, Nat.mul_comm _ 12, ← h0, ← Nat.mul_add, ← sv_plus]
    refine congrArg _ (nsum_congr (fun m _ => ?_))
    rw [← Nat.mul_add]
    rfl
theorem sv_wt_le (hp : p ≤ 12) (hs0 : s0 < 24) (k : Nat) : nsum (sv_wt s0 p e js g k) 24 ≤ 12 ^ k ∧ nsum (sv_w (sv_wt s0 p e js g k) p (js k) 24) 24 ≤ 12 ^ (k + 1) := by
  have hW : ∀ W : Nat → Nat, nsum (sv_w W p (js k) 24) 24 = 12 * nsum W 24 := by
    intro W
    have h := sv_w_sum (W := W) (p := p) (j := js k) (fun _ => 1) 24 (Nat.le_refl _)
    rw [nsum_congr (g := sv_w W p (js k) 24) (fun u _ => Nat.mul_one _)] at h
    rw [h, ← sv_mul]
    refine nsum_congr (fun t _ => ?_)
    rw [Nat.mul_one, Nat.mul_one, Nat.add_sub_cancel' hp, Nat.mul_comm]
  have key : nsum (sv_wt s0 p e js g k) 24 ≤ 12 ^ k := by
    clear hW
    induction k with
    | zero =>
      have h := sv_sum_upd (f := fun _ => 0) (φ := fun _ => 1) (i := s0) (d := 1) 24 hs0
      rw [nsum_congr (n := 24) (f := fun u => sv_upd (fun _ => 0) s0 (0 + 1) u * 1) (g := sv_wt s0 p e js g 0) (fun u _ => Nat.mul_one _), nsum_congr (n := 24) (f := fun u => 0 * 1) (g := fun _ => 0) (fun u _ => Nat.zero_mul _), sv_0] at h
      rw [h]
      decide
    | succ k ih =>
      have h := sv_w_sum (W := sv_wt s0 p e js g k) (p := p) (j := js k) (fun _ => 1) 24 (Nat.le_refl _)
      rw [nsum_congr (g := sv_w (sv_wt s0 p e js g k) p (js k) 24) (fun u _ => Nat.mul_one _)] at h
      refine Nat.le_trans (sv_mono (g := sv_w (sv_wt s0 p e js g k) p (js k) 24) (fun s _ => ?_)) ?_
      · show (if e = 1 ∧ _ then 0 else _) ≤ _
        split
        · exact Nat.zero_le _
        · exact Nat.le_refl _
      · rw [h, nsum_congr (g := fun t => 12 * sv_wt s0 p e js g k t) (fun t _ => by rw [Nat.mul_one, Nat.mul_one, Nat.add_sub_cancel' hp, Nat.mul_comm]), sv_mul, Nat.pow_succ, Nat.mul_comm]
        exact Nat.mul_le_mul_right 12 ih
  refine ⟨key, ?_⟩
  rw [hW, Nat.pow_succ, Nat.mul_comm]
  exact Nat.mul_le_mul_right 12 key
theorem sv_gt_le (hp : p ≤ 12) (hs0 : s0 < 24) (hg : ∀ k s, g k s ≤ 24) (k : Nat) : sv_gt s0 p e js g k ≤ 24 * k * 12 ^ k := by
  induction k with
  | zero => exact Nat.zero_le _
  | succ k ih =>
    have h := (sv_wt_le (e := e) (js := js) (g := g) hp hs0 k).2
    show sv_gt s0 p e js g k * 12 + nsum (fun s => sv_w (sv_wt s0 p e js g k) p (js k) 24 s * g k s) 24 ≤ _
    have h2 : nsum (fun s => sv_w (sv_wt s0 p e js g k) p (js k) 24 s * g k s) 24 ≤ 24 * 12 ^ (k + 1) := by
      refine Nat.le_trans (sv_mono (g := fun s => 24 * sv_w (sv_wt s0 p e js g k) p (js k) 24 s) (fun s _ => ?_)) ?_
      · show _ ≤ 24 * _
        rw [Nat.mul_comm 24]
        exact Nat.mul_le_mul_left _ (hg k s)
      · rw [sv_mul]
        exact Nat.mul_le_mul_left _ h
    have h3 : sv_gt s0 p e js g k * 12 ≤ 24 * k * 12 ^ k * 12 := Nat.mul_le_mul_right 12 ih
    have h4 : 24 * (k + 1) * 12 ^ (k + 1) = 24 * k * 12 ^ k * 12 + 24 * 12 ^ (k + 1) := by
      rw [Nat.mul_add, Nat.add_mul, Nat.mul_one, Nat.mul_assoc (24 * k), Nat.pow_succ]
    omega
theorem sv_ga_le (hg : ∀ k s, g k s ≤ 24) (m k : Nat) : sv_ga s0 js g m k ≤ 24 * k := by
  induction k with
  | zero => exact Nat.le_refl _
  | succ k ih =>
    have := hg k (sv_sl s0 js m (k + 1))
    show sv_ga s0 js g m k + g k (sv_sl s0 js m (k + 1)) ≤ _
    omega
theorem sv_ge_le (m k : Nat) : sv_ge s0 js g m k ≤ 1 := by
  cases k with
  | zero => exact Nat.le_refl _
  | succ k =>
    show (if sv_ge s0 js g m k = 0 then 0 else if g k (sv_sl s0 js m (k + 1)) = 0 then 0 else 1) ≤ 1
    split
    · exact Nat.zero_le _
    · split <;> decide
/-- both sides tell the same -/
theorem sv_same (hp : p ≤ 12) (hs0 : s0 < 24) (he : e ≤ 1) (n : Nat) : (if e = 0 then sv_gt s0 p e js g n else nsum (sv_wt s0 p e js g n) 24) = sv_cz js n * nsum (fun m => sv_tm s0 p e js g m n) (2 ^ n) := by
  rcases (show e = 0 ∨ e = 1 by omega) with rfl | rfl
  · rw [if_pos rfl, sv_m2 hp hs0]
    rfl
  · rw [if_neg (by decide)]
    have h := sv_m1 (e := 1) (js := js) (g := g) hp hs0 n (fun _ => 1)
    rw [nsum_congr (n := 24) (g := sv_wt s0 p 1 js g n) (fun u _ => Nat.mul_one _)] at h
    rw [h]
    refine congrArg _ (nsum_congr (fun m _ => ?_))
    rw [Nat.mul_one, sv_vy_1]
    rfl
theorem sv_div {c u l : Nat} (hc : 0 < c) : c * u / Nat.gcd (c * l) (c * u) = u / Nat.gcd u l ∧ c * l / Nat.gcd (c * l) (c * u) = l / Nat.gcd u l := by
  rw [Nat.gcd_mul_left, Nat.gcd_comm l u, Nat.mul_div_mul_left _ _ hc, Nat.mul_div_mul_left _ _ hc]
  exact ⟨rfl, rfl⟩
end SVt
/-! Euclid's steps -/
theorem eu_gcd (x y : Nat) : Nat.gcd y (x % y) = Nat.gcd x y := by rw [Nat.gcd_comm y, ← Nat.gcd_rec, Nat.gcd_comm]
def euP (j x y : Nat) : Prop := x * y * 2 ^ (j - 1) ≤ 2 ^ 70 ∧ (j = 0 ∨ y < x)
theorem eu_st {j x y : Nat} (hy : 0 < y) (h : euP j x y) : euP (j + 1) y (x % y) := by
  have h1 := Nat.mod_lt x hy
  refine ⟨?_, Or.inr h1⟩
  rw [Nat.add_sub_cancel]
  rcases h.2 with rfl | hlt
  · have h3 := h.1
    refine Nat.le_trans (Nat.mul_le_mul_right _ (Nat.mul_le_mul_left y (Nat.mod_le x y))) ?_
    rw [Nat.mul_comm y x]
    exact h3
  · rcases Nat.eq_zero_or_pos j with rfl | hj
    · have h3 := h.1
      refine Nat.le_trans (Nat.mul_le_mul_right _ (Nat.mul_le_mul_left y (Nat.mod_le x y))) ?_
      rw [Nat.mul_comm y x]
      exact h3
    · have h4 : x % y + y ≤ x := by
        have h5 := Nat.mod_add_div x y
        have h6 : 1 ≤ x / y := (Nat.one_le_div_iff hy).mpr (by omega)
        have h7 : y * 1 ≤ y * (x / y) := Nat.mul_le_mul_left y h6
        omega
      have h8 : 2 * (x % y) ≤ x := by omega
      refine Nat.le_trans ?_ h.1
      rw [show (2 : Nat) ^ j = 2 * 2 ^ (j - 1) by rw [← Nat.pow_succ']; congr 1; omega, ← Nat.mul_assoc, Nat.mul_assoc y, Nat.mul_comm (x % y), Nat.mul_comm x y]
      exact Nat.mul_le_mul_right _ (Nat.mul_le_mul_left y h8)
theorem eu_end {x y : Nat} (h : euP 100 x y) : y = 0 := by
  rcases h.2 with h0 | hlt
  · exact absurd h0 (by decide)
  · rcases Nat.eq_zero_or_pos y with h1 | h1
    · exact h1
    · have h2 : 1 * 1 * 2 ^ 99 ≤ x * y * 2 ^ 99 := Nat.mul_le_mul_right _ (Nat.mul_le_mul (by omega) h1)
      exact absurd (Nat.le_trans h2 h.1) (by decide)
theorem lN_inj0 {y : Nat} (hy : y < 2 ^ 63) : lN y = 0 ↔ y = 0 := by
  constructor
  · intro h
    have h2 := congrArg Int64.toInt h
    rw [pk_lT hy] at h2
    have h3 : (0 : Int64).toInt = 0 := by decide
    omega
  · rintro rfl
    rfl
