/-! loops of Arrays, Line, Light -/
theorem nI_inc (i : Nat) : nI i + Int32.ofInt 1 = nI (i + 1) := (nI_succ i).symm
theorem nI_nge {a b : Nat} (h : a < b) (hb : b < 2 ^ 31) : ¬ nI b ≤ nI a := nI_ge h hb
def f_fill (g : Nat → Int32) (v : Int32) (i n : Nat) : Nat → Int32 := fun j => if i ≤ j ∧ j < i + n then v else g j
theorem f_fill_0 (g : Nat → Int32) (v : Int32) (i : Nat) : f_fill g v i 0 = g := by
  funext j
  unfold f_fill
  rw [if_neg (by omega)]
theorem f_fill_s (g : Nat → Int32) (v : Int32) (i n : Nat) : f_fill (upd g i v) v (i + 1) n = f_fill g v i (n + 1) := by
  funext j
  unfold f_fill upd
  by_cases h1 : j = i
  · subst h1
    simp
  · by_cases h2 : i + 1 ≤ j ∧ j < i + 1 + n
    · rw [if_pos h2, if_pos (by omega)]
    · rw [if_neg h2, if_neg h1, if_neg (by omega)]
theorem lp_J7_fill_53178 {X : XX} {c m : Nat} {v : Int32} (lc : c < 1000) (hm : m < 2 ^ 31) : ∀ (n i : Nat) (g : Nat → Int32) (h : XH), i + n = m → h[c]? = some (.inl (0, m, .inl g)) → Wp X xT 0 mJ7_fill_53178 5 [some (.ref c), some (.int v), some (.int (nI i)), some (.int (nI m))] [] h (fun r' h'' => r' = none ∧ h'' = h.set c (.inl (0, m, .inl (f_fill g v i n)))) := by
  intro n
  induction n with
  | zero =>
    intro i g h hi Lc
    refine q_iload_n rfl rfl ?_
    refine q_iload_n rfl rfl ?_
    refine q_icmp_ge rfl (fun hc7 => ?_) (fun hc7 => ?_)
    · refine q_vret rfl rfl ?_
      exact ⟨rfl, by rw [f_fill_0, x_set_same Lc]⟩
    · exact absurd (nI_le (show m ≤ i by omega) (by omega)) hc7
  | succ n ih =>
    intro i g h hi Lc
    refine q_iload_n rfl rfl ?_
    refine q_iload_n rfl rfl ?_
    refine q_icmp_ge rfl (fun hc7 => ?_) (fun hc7 => ?_)
    · exact absurd hc7 (nI_nge (show i < m by omega) (by omega))
    · refine q_aload_n rfl rfl ?_
      refine q_iload_n rfl rfl ?_
      refine q_iload_n rfl rfl ?_
      refine q_iastX rfl Lc (f_ixk (show i < m by omega) hm) (fun h1 he1 Lc_1 ho1 => ?_)
      refine q_iinc (v := nI (i + 1)) (L' := [_, _, _, _]) rfl rfl (nI_inc i) rfl ?_
      refine q_goto rfl ?_
      rw [nI_clamp (show i < 2 ^ 31 by omega)] at he1 Lc_1
      refine q_post (ih (i + 1) (upd g i v) h1 (by omega) Lc_1) (fun r h2 hh => ⟨hh.1, ?_⟩)
      rw [hh.2, he1, List.set_set, f_fill_s]
theorem sJ7_fill_53178 {X : XX} {h : XH} {c m : Nat} {g : Nat → Int32} (Lc : h[c]? = some (.inl (0, m, .inl g))) (lc : c < 1000) (hm : m < 2 ^ 31) (v : Int32) : x_ev X xT 1 257 [.ref c, .int v] h none (h.set c (.inl (0, m, .inl (f_fill g v 0 m)))) := by
  refine q_ev (L := [some (.ref c), some (.int v), none, none]) tJ7_fill_53178 (Nat.le_of_ble_eq_true rfl) rfl ?_
  refine q_iconst (v := 0) rfl rfl ?_
  refine q_istore_n (L' := [_, _, _, _]) rfl rfl ?_
  refine q_aload_n rfl rfl ?_
  refine q_alen rfl (lc) Lc (by decide) rfl ?_
  refine q_istore_n (L' := [_, _, _, _]) rfl rfl ?_
  exact lp_J7_fill_53178 lc hm m 0 g h (by omega) Lc
theorem sX2_renew {X : XX} {h : XH} {a c m : Nat} {sz : Int32} {f : Nat → Int32} (La : h[a]? = some (.inr (2, [.ref c, .int sz]))) (Lc : h[c]? = some (.inl (0, m, .inl f))) (lc : c < 1000) (hm : m < 2 ^ 31) (x v : Int32) : x_ev X xT 2 29 [.ref a, .int x, .int v] h none ((h.set a (.inr (2, [.ref c, .int (f_max 0 (f_min x (nI m)))]))).set c (.inl (0, m, .inl (f_fill f v 0 m)))) := by
  refine q_ev (L := [some (.ref a), some (.int x), some (.int v)]) tX2_renew (Nat.le_of_ble_eq_true rfl) rfl ?_
  refine q_aload_n rfl rfl ?_
  refine q_iconst (v := 0) rfl rfl ?_
  refine q_iload_n rfl rfl ?_
  refine q_aload_n rfl rfl ?_
  refine q_getfield rfl La rfl ?_
  refine q_alen rfl (lc) Lc (by decide) rfl ?_
  refine q_callS2 rfl rfl (Nat.le_of_ble_eq_true rfl) (Nat.le_of_ble_eq_true rfl) (sJ9_min_7cf53 _ _) ?_
  refine q_callS2 rfl rfl (Nat.le_of_ble_eq_true rfl) (Nat.le_of_ble_eq_true rfl) (sJ9_max_7cf53 _ _) ?_
  refine q_putX rfl La rfl (Nat.le_of_ble_eq_true rfl) (rfl) (by decide +kernel) (fun h1 he1 La_1 ho1 => ?_)
  have Lc_1 := ho1 _ _ (x_ne1 La Lc) Lc
  refine q_aload_n rfl rfl ?_
  refine q_getfield rfl La_1 rfl ?_
  refine q_iload_n rfl rfl ?_
  refine q_callS2 rfl rfl (Nat.le_of_ble_eq_true rfl) (Nat.le_of_ble_eq_true rfl) (sJ7_fill_53178 Lc_1 lc hm v) ?_
  refine q_vret rfl rfl ?_
  refine ⟨rfl, ?_⟩
  rw [he1]
  rfl
def f_sum (f : Nat → Int32) : Nat → Nat → Int64 → Int64
  | 0, _, s => s
  | n + 1, i, s => f_sum f n (i + 1) (s + (f i).toInt64)
theorem lp_X2_sum {X : XX} {h : XH} {a c m k : Nat} {f : Nat → Int32} (La : h[a]? = some (.inr (2, [.ref c, .int (nI k)]))) (Lc : h[c]? = some (.inl (0, m, .inl f))) (lc : c < 1000) (hkm : k ≤ m) (hm : m < 2 ^ 31)  : ∀ (n : Nat) (i : Nat) (s : Int64), i + n = k → Wp X xT 0 mX2_sum 4 [some (.ref a), some (.long s), none, some (.int (nI i))] [] h (fun r' h'' => r' = some (.long (f_sum f n i s)) ∧ h'' = h) := by
  intro n
  induction n with
  | zero =>
    intro i s hi
    refine q_iload_n rfl rfl ?_
    refine q_aload_n rfl rfl ?_
    refine q_getfield rfl La rfl ?_
    refine q_icmp_ge rfl (fun hc9 => ?_) (fun hc9 => ?_)
    · refine q_lload_n rfl rfl ?_
      refine q_lret rfl rfl ?_
      exact ⟨rfl, rfl⟩
    · exact absurd (nI_le (show k ≤ i by omega) (by omega)) hc9
  | succ n ih =>
    intro i s hi
    refine q_iload_n rfl rfl ?_
    refine q_aload_n rfl rfl ?_
    refine q_getfield rfl La rfl ?_
    refine q_icmp_ge rfl (fun hc9 => ?_) (fun hc9 => ?_)
    · exact absurd hc9 (nI_nge (show i < k by omega) (by omega))
    · refine q_lload_n rfl rfl ?_
      refine q_aload_n rfl rfl ?_
      refine q_getfield rfl La rfl ?_
      refine q_iload_n rfl rfl ?_
      refine q_iaload rfl (lc) Lc (f_ixk (show i < m by omega) hm) ?_
      refine q_i2l rfl ?_
      refine q_ladd rfl ?_
      refine q_lstore_n (L' := [_, _, _, _]) rfl rfl ?_
      refine q_iinc (v := nI (i + 1)) (L' := [_, _, _, _]) rfl rfl (nI_inc i) rfl ?_
      refine q_goto rfl ?_
      rw [nI_clamp (show i < 2 ^ 31 by omega)]
      exact ih (i + 1) _ (by omega)
theorem sX2_sum {X : XX} {h : XH} {a c m k : Nat} {f : Nat → Int32} (La : h[a]? = some (.inr (2, [.ref c, .int (nI k)]))) (Lc : h[c]? = some (.inl (0, m, .inl f))) (lc : c < 1000) (hkm : k ≤ m) (hm : m < 2 ^ 31)  : x_ev X xT 1 35 [.ref a] h (some (.long (f_sum f k 0 0))) h := by
  refine q_ev (L := [some (.ref a), none, none, none]) tX2_sum (Nat.le_of_ble_eq_true rfl) rfl ?_
  refine q_lconst (v := 0) rfl rfl ?_
  refine q_lstore_n (L' := [_, _, _, _]) rfl rfl ?_
  refine q_iconst (v := 0) rfl rfl ?_
  refine q_istore_n (L' := [_, _, _, _]) rfl rfl ?_
  exact lp_X2_sum La Lc lc hkm hm k 0 0 (by omega)
def f_mix (f : Nat → Int32) : Nat → Nat → Int64 → Int64
  | 0, _, s => s
  | n + 1, i, s => f_mix f n (i + 1) (31 * s + (f i).toInt64)
theorem lp_X2_mixedInto {X : XX} {h : XH} {a c m k : Nat} {f : Nat → Int32} (La : h[a]? = some (.inr (2, [.ref c, .int (nI k)]))) (Lc : h[c]? = some (.inl (0, m, .inl f))) (lc : c < 1000) (hkm : k ≤ m) (hm : m < 2 ^ 31)  : ∀ (n : Nat) (i : Nat) (s : Int64), i + n = k → Wp X xT 0 mX2_mixedInto 14 [some (.ref a), some (.long s), none, some (.int (nI i))] [] h (fun r' h'' => r' = some (.long (f_mix f n i s)) ∧ h'' = h) := by
  intro n
  induction n with
  | zero =>
    intro i s hi
    refine q_iload_n rfl rfl ?_
    refine q_aload_n rfl rfl ?_
    refine q_getfield rfl La rfl ?_
    refine q_icmp_ge rfl (fun hc19 => ?_) (fun hc19 => ?_)
    · refine q_lload_n rfl rfl ?_
      refine q_lret rfl rfl ?_
      exact ⟨rfl, rfl⟩
    · exact absurd (nI_le (show k ≤ i by omega) (by omega)) hc19
  | succ n ih =>
    intro i s hi
    refine q_iload_n rfl rfl ?_
    refine q_aload_n rfl rfl ?_
    refine q_getfield rfl La rfl ?_
    refine q_icmp_ge rfl (fun hc19 => ?_) (fun hc19 => ?_)
    · exact absurd hc19 (nI_nge (show i < k by omega) (by omega))
    · refine q_ldc2_w (v := 31) rfl rfl ?_
      refine q_lload_n rfl rfl ?_
      refine q_lmul rfl ?_
      refine q_aload_n rfl rfl ?_
      refine q_getfield rfl La rfl ?_
      refine q_iload_n rfl rfl ?_
      refine q_iaload rfl (lc) Lc (f_ixk (show i < m by omega) hm) ?_
      refine q_i2l rfl ?_
      refine q_ladd rfl ?_
      refine q_lstore_n (L' := [_, _, _, _]) rfl rfl ?_
      refine q_iinc (v := nI (i + 1)) (L' := [_, _, _, _]) rfl rfl (nI_inc i) rfl ?_
      refine q_goto rfl ?_
      rw [nI_clamp (show i < 2 ^ 31 by omega)]
      exact ih (i + 1) _ (by omega)
theorem sX2_mixedInto {X : XX} {h : XH} {a c m k : Nat} {f : Nat → Int32} (La : h[a]? = some (.inr (2, [.ref c, .int (nI k)]))) (Lc : h[c]? = some (.inl (0, m, .inl f))) (lc : c < 1000) (hkm : k ≤ m) (hm : m < 2 ^ 31) (s : Int64) : x_ev X xT 1 38 [.ref a, .long s] h (some (.long (f_mix f k 0 (31 * s + (nI k).toInt64)))) h := by
  refine q_ev (L := [some (.ref a), some (.long s), none, none]) tX2_mixedInto (Nat.le_of_ble_eq_true rfl) rfl ?_
  refine q_ldc2_w (v := 31) rfl rfl ?_
  refine q_lload_n rfl rfl ?_
  refine q_lmul rfl ?_
  refine q_aload_n rfl rfl ?_
  refine q_getfield rfl La rfl ?_
  refine q_i2l rfl ?_
  refine q_ladd rfl ?_
  refine q_lstore_n (L' := [_, _, _, _]) rfl rfl ?_
  refine q_iconst (v := 0) rfl rfl ?_
  refine q_istore_n (L' := [_, _, _, _]) rfl rfl ?_
  exact lp_X2_mixedInto La Lc lc hkm hm k 0 _ (by omega)
theorem sX2_mixedInto_no {X : XX} {h : XH} {a c : Nat} (La : h[a]? = some (.inr (2, [.ref c, .int (-1)]))) (s : Int64) : x_ev X xT 1 38 [.ref a, .long s] h (some (.long (31 * s + (-1 : Int32).toInt64))) h := by
  refine q_ev (L := [some (.ref a), some (.long s), none, none]) tX2_mixedInto (Nat.le_of_ble_eq_true rfl) rfl ?_
  refine q_ldc2_w (v := 31) rfl rfl ?_
  refine q_lload_n rfl rfl ?_
  refine q_lmul rfl ?_
  refine q_aload_n rfl rfl ?_
  refine q_getfield rfl La rfl ?_
  refine q_i2l rfl ?_
  refine q_ladd rfl ?_
  refine q_lstore_n (L' := [_, _, _, _]) rfl rfl ?_
  refine q_iconst (v := 0) rfl rfl ?_
  refine q_istore_n (L' := [_, _, _, _]) rfl rfl ?_
  refine q_iload_n rfl rfl ?_
  refine q_aload_n rfl rfl ?_
  refine q_getfield rfl La rfl ?_
  refine q_icmp_ge rfl (fun hc19 => ?_) (fun hc19 => ?_)
  · refine q_lload_n rfl rfl ?_
    refine q_lret rfl rfl ?_
    exact ⟨rfl, rfl⟩
  · exact absurd (by decide) hc19
def f_all (f : Nat → Int32) (lo hi : Int32) : Nat → Nat → Int32
  | 0, _ => 1
  | n + 1, i => if f i < lo then 0 else if f i ≤ hi then f_all f lo hi n (i + 1) else 0
theorem lp_X2_isAllWithin {X : XX} {h : XH} {a c m k : Nat} {f : Nat → Int32} (La : h[a]? = some (.inr (2, [.ref c, .int (nI k)]))) (Lc : h[c]? = some (.inl (0, m, .inl f))) (lc : c < 1000) (hkm : k ≤ m) (hm : m < 2 ^ 31) (lo hi : Int32) : ∀ (n : Nat) (i : Nat), i + n = k → Wp X xT 0 mX2_isAllWithin 2 [some (.ref a), some (.int lo), some (.int hi), some (.int (nI i))] [] h (fun r' h'' => r' = some (.int (f_all f lo hi n i)) ∧ h'' = h) := by
  intro n
  induction n with
  | zero =>
    intro i hi9
    refine q_iload_n rfl rfl ?_
    refine q_aload_n rfl rfl ?_
    refine q_getfield rfl La rfl ?_
    refine q_icmp_ge rfl (fun hc7 => ?_) (fun hc7 => ?_)
    · refine q_iconst (v := 1) rfl rfl ?_
      refine q_zret rfl rfl (by decide) ?_
      exact ⟨rfl, rfl⟩
    · exact absurd (nI_le (show k ≤ i by omega) (by omega)) hc7
  | succ n ih =>
    intro i hi9
    refine q_iload_n rfl rfl ?_
    refine q_aload_n rfl rfl ?_
    refine q_getfield rfl La rfl ?_
    refine q_icmp_ge rfl (fun hc7 => ?_) (fun hc7 => ?_)
    · exact absurd hc7 (nI_nge (show i < k by omega) (by omega))
    · refine q_aload_n rfl rfl ?_
      refine q_getfield rfl La rfl ?_
      refine q_iload_n rfl rfl ?_
      refine q_iaload rfl (lc) Lc (f_ixk (show i < m by omega) hm) ?_
      refine q_iload_n rfl rfl ?_
      refine q_icmp_lt rfl (fun hc17 => ?_) (fun hc17 => ?_)
      · refine q_iconst (v := 0) rfl rfl ?_
        refine q_zret rfl rfl (by decide) ?_
        rw [nI_clamp (show i < 2 ^ 31 by omega)] at *
        exact ⟨by simp [f_all, *], rfl⟩
      · refine q_aload_n rfl rfl ?_
        refine q_getfield rfl La rfl ?_
        refine q_iload_n rfl rfl ?_
        refine q_iaload rfl (lc) Lc (f_ixk (show i < m by omega) hm) ?_
        refine q_iload_n rfl rfl ?_
        refine q_icmp_le rfl (fun hc27 => ?_) (fun hc27 => ?_)
        · refine q_iinc (v := nI (i + 1)) (L' := [_, _, _, _]) rfl rfl (nI_inc i) rfl ?_
          refine q_goto rfl ?_
          rw [nI_clamp (show i < 2 ^ 31 by omega)] at hc17 hc27
          refine q_post (ih (i + 1) (by omega)) (fun r h2 hh => ⟨?_, hh.2⟩)
          rw [hh.1]
          simp [f_all, hc17, hc27]
        · refine q_iconst (v := 0) rfl rfl ?_
          refine q_zret rfl rfl (by decide) ?_
          rw [nI_clamp (show i < 2 ^ 31 by omega)] at *
          exact ⟨by simp [f_all, *], rfl⟩
theorem sX2_isAllWithin {X : XX} {h : XH} {a c m k : Nat} {f : Nat → Int32} (La : h[a]? = some (.inr (2, [.ref c, .int (nI k)]))) (Lc : h[c]? = some (.inl (0, m, .inl f))) (lc : c < 1000) (hkm : k ≤ m) (hm : m < 2 ^ 31) (lo hi : Int32) : x_ev X xT 1 36 [.ref a, .int lo, .int hi] h (some (.int (f_all f lo hi k 0))) h := by
  refine q_ev (L := [some (.ref a), some (.int lo), some (.int hi), none]) tX2_isAllWithin (Nat.le_of_ble_eq_true rfl) rfl ?_
  refine q_iconst (v := 0) rfl rfl ?_
  refine q_istore_n (L' := [_, _, _, _]) rfl rfl ?_
  exact lp_X2_isAllWithin La Lc lc hkm hm lo hi k 0 (by omega)
def f_less (f : Nat → Int32) : Nat → Nat → Int32
  | 0, _ => -9
  | n + 1, i => if f (i - 1) ≤ f i then f_less f n (i + 1) else nI i
theorem lp_X2_firstLess {X : XX} {h : XH} {a c m k : Nat} {f : Nat → Int32} (La : h[a]? = some (.inr (2, [.ref c, .int (nI k)]))) (Lc : h[c]? = some (.inl (0, m, .inl f))) (lc : c < 1000) (hkm : k ≤ m) (hm : m < 2 ^ 31)  : ∀ (n : Nat) (i : Nat), 1 ≤ i → i + n = k ∨ (n = 0 ∧ k = 0 ∧ i = 1) → Wp X xT 0 mX2_firstLess 2 [some (.ref a), some (.int (nI i))] [] h (fun r' h'' => r' = some (.int (f_less f n i)) ∧ h'' = h) := by
  intro n
  induction n with
  | zero =>
    intro i h1i hi
    refine q_iload_n rfl rfl ?_
    refine q_aload_n rfl rfl ?_
    refine q_getfield rfl La rfl ?_
    refine q_icmp_ge rfl (fun hc7 => ?_) (fun hc7 => ?_)
    · refine q_bipush (v := (-9)) rfl rfl ?_
      refine q_iret rfl rfl ?_
      exact ⟨rfl, rfl⟩
    · exact absurd (nI_le (show k ≤ i by omega) (by omega)) hc7
  | succ n ih =>
    intro i h1i hi
    refine q_iload_n rfl rfl ?_
    refine q_aload_n rfl rfl ?_
    refine q_getfield rfl La rfl ?_
    refine q_icmp_ge rfl (fun hc7 => ?_) (fun hc7 => ?_)
    · exact absurd hc7 (nI_nge (show i < k by omega) (by omega))
    · refine q_aload_n rfl rfl ?_
      refine q_getfield rfl La rfl ?_
      refine q_iload_n rfl rfl ?_
      refine q_iaload rfl (lc) Lc (f_ixk (show i < m by omega) hm) ?_
      refine q_aload_n rfl rfl ?_
      refine q_getfield rfl La rfl ?_
      refine q_iload_n rfl rfl ?_
      refine q_iconst (v := 1) rfl rfl ?_
      refine q_isub rfl ?_
      refine q_iaload rfl (lc) Lc (by rw [show nI i - 1 = nI (i - 1) from pk_sub (a := i) (b := 1) h1i]; exact f_ixk (show i - 1 < m by omega) hm) ?_
      refine q_icmp_ge rfl (fun hc24 => ?_) (fun hc24 => ?_)
      · refine q_iinc (v := nI (i + 1)) (L' := [_, _]) rfl rfl (nI_inc i) rfl ?_
        refine q_goto rfl ?_
        have e1 : (nI i - 1).toNatClampNeg = i - 1 := by rw [show nI i - 1 = nI (i - 1) from pk_sub (a := i) (b := 1) h1i]; exact nI_clamp (by omega)
        rw [e1, nI_clamp (show i < 2 ^ 31 by omega)] at hc24
        refine q_post (ih (i + 1) (by omega) (by omega)) (fun r h2 hh => ⟨?_, hh.2⟩)
        rw [hh.1]
        simp [f_less, hc24]
      · refine q_iload_n rfl rfl ?_
        refine q_iret rfl rfl ?_
        have e1 : (nI i - 1).toNatClampNeg = i - 1 := by rw [show nI i - 1 = nI (i - 1) from pk_sub (a := i) (b := 1) h1i]; exact nI_clamp (by omega)
        rw [e1, nI_clamp (show i < 2 ^ 31 by omega)] at hc24
        exact ⟨by simp [f_less, hc24], rfl⟩
theorem sX2_firstLess {X : XX} {h : XH} {a c m k : Nat} {f : Nat → Int32} (La : h[a]? = some (.inr (2, [.ref c, .int (nI k)]))) (Lc : h[c]? = some (.inl (0, m, .inl f))) (lc : c < 1000) (hkm : k ≤ m) (hm : m < 2 ^ 31)  : x_ev X xT 1 37 [.ref a] h (some (.int (f_less f (k - 1) 1))) h := by
  refine q_ev (L := [some (.ref a), none]) tX2_firstLess (Nat.le_of_ble_eq_true rfl) rfl ?_
  refine q_iconst (v := 1) rfl rfl ?_
  refine q_istore_n (L' := [_, _]) rfl rfl ?_
  exact lp_X2_firstLess La Lc lc hkm hm (k - 1) 1 (by omega) (by omega)
