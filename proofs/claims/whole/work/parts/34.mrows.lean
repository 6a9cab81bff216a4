/-! rows and texts: the reference's calls -/
theorem ua_eq {A : Nat → Nat → Int32} {c : Nat} {f : Nat → Int32} : ua A c f c = f := if_pos rfl
theorem ua_ua {A : Nat → Nat → Int32} {c : Nat} {f g : Nat → Int32} : ua (ua A c f) c g = ua A c g := by
  funext x
  unfold ua
  split <;> rfl
theorem ua_self {A : Nat → Nat → Int32} {c : Nat} {f : Nat → Int32} (h : f = A c) : ua A c f = A := by
  subst h
  funext x
  unfold ua
  split
  · rename_i h
    rw [h]
  · rfl
theorem ua_ne {A : Nat → Nat → Int32} {c x : Nat} {f : Nat → Int32} (h : x ≠ c) : ua A c f x = A x := if_neg h
theorem u2_eq {I : Nat → Nat → Int32} {a k : Nat} {v : Int32} : u2 I a k v a k = v := if_pos ⟨rfl, rfl⟩
theorem u2_u2 {I : Nat → Nat → Int32} {a k : Nat} {v w : Int32} : u2 (u2 I a k v) a k w = u2 I a k w := by
  funext x y
  unfold u2
  split <;> rfl
theorem f_fill_u (g : Nat → Int32) (v : Int32) (a k : Nat) : upd (f_fill g v a k) (a + k) v = f_fill g v a (k + 1) := by
  funext j
  unfold f_fill upd
  dsimp only
  by_cases h1 : j = a + k
  · subst h1
    simp
  · by_cases h2 : a ≤ j ∧ j < a + k
    · rw [if_neg h1, if_pos h2, if_pos (by omega)]
    · rw [if_neg h1, if_neg h2, if_neg (by omega)]
theorem f_nltm {j k : Nat} (hj : j < k) (hk : k < 2 ^ 30) : ¬ nI k - nI 1 < nI j := by
  rw [Int32.lt_iff_toInt_lt, pk_sub_toInt (by omega) (by omega), nI_toInt (by omega)]
  omega
/-- n places come from a on to b on, those ahead of k from the end or from the start -/
def f_mf (g : Nat → Int32) (a b k : Nat) : Nat → Int32 := fun x => if b ≤ x ∧ x < b + k then g (a + (x - b)) else g x
theorem f_mf_0 (g : Nat → Int32) (a b : Nat) : f_mf g a b 0 = g := by
  funext x
  unfold f_mf
  rw [if_neg (by omega)]
theorem f_mf_u (g : Nat → Int32) (a b k : Nat) (h : a + k < b ∨ b + k ≤ a + k) : upd (f_mf g a b k) (b + k) (f_mf g a b k (a + k)) = f_mf g a b (k + 1) := by
  have e : f_mf g a b k (a + k) = g (a + k) := by
    unfold f_mf
    rw [if_neg (by omega)]
  rw [e]
  funext x
  unfold f_mf upd
  dsimp only
  by_cases h1 : x = b + k
  · rw [if_pos h1, if_pos (by omega), h1, show b + k - b = k by omega]
  · by_cases h2 : b ≤ x ∧ x < b + k
    · rw [if_neg h1, if_pos h2, if_pos (by omega)]
    · rw [if_neg h1, if_neg h2, if_neg (by omega)]
def f_mb (g : Nat → Int32) (a b n k : Nat) : Nat → Int32 := fun x => if b + (n - k) ≤ x ∧ x < b + n then g (a + (x - b)) else g x
theorem f_mb_0 (g : Nat → Int32) (a b n : Nat) : f_mb g a b n 0 = g := by
  funext x
  unfold f_mb
  rw [if_neg (by omega)]
theorem f_mb_u (g : Nat → Int32) (a b n k : Nat) (hk : k < n) (h : a + n ≤ b ∨ b + n ≤ a ∨ a ≤ b) : upd (f_mb g a b n k) (b + (n - 1 - k)) (f_mb g a b n k (a + (n - 1 - k))) = f_mb g a b n (k + 1) := by
  have e : f_mb g a b n k (a + (n - 1 - k)) = g (a + (n - 1 - k)) := by
    unfold f_mb
    rw [if_neg (by omega)]
  rw [e]
  funext x
  unfold f_mb upd
  dsimp only
  by_cases h1 : x = b + (n - 1 - k)
  · rw [if_pos h1, if_pos (by omega), h1, show b + (n - 1 - k) - b = n - 1 - k by omega]
  · by_cases h2 : b + (n - k) ≤ x ∧ x < b + n
    · rw [if_neg h1, if_pos h2, if_pos (by omega)]
    · rw [if_neg h1, if_neg h2, if_neg (by omega)]
theorem f_mf_cpy (g : Nat → Int32) (a b n : Nat) : f_mf g a b n = va_cpy g g a b n := by
  funext x
  unfold f_mf
  split
  · rename_i h
    rw [pk_cpy_in h.1 h.2]
  · rw [pk_cpy_out (by omega)]
theorem f_mb_cpy (g : Nat → Int32) (a b n : Nat) : f_mb g a b n n = va_cpy g g a b n := by
  funext x
  unfold f_mb
  split
  · rename_i h
    rw [pk_cpy_in (by omega) h.2]
  · rw [pk_cpy_out (by omega)]
theorem lg_i (x y : Int32) : 0 < lg_cmp x.toInt64 y.toInt64 ↔ y < x := by
  rw [lg_gt, Int64.lt_iff_toInt_lt, Int32.toInt_toInt64, Int32.toInt_toInt64, ← Int32.lt_iff_toInt_lt]
theorem sX9_makeRow {X : XX} {I A : Nat → Nat → Int32} {J B : Nat → Nat → Int64} {F : Nat → Nat} (q : Nat) (hr : q < 6) (v : Int32) : x_ev X xT 1 156 [.ref 51, .int (nI q), .int v] (HX I A J B F) none (HX I (ua (ua A 57 (upd (A 57) q v)) 58 (f_fill (A 58) 0 (40 * q) 40)) J B F) := by
  refine q_ev (L := [some (.ref 51), some (.int (nI q)), some (.int v), none]) tX9_makeRow (Nat.le_of_ble_eq_true rfl) rfl ?_
  refine q_aload_n rfl rfl ?_
  refine q_getfield rfl hx_51 rfl ?_
  refine q_iload_n rfl rfl ?_
  refine q_iload_n rfl rfl ?_
  refine q_iastN rfl hx_57 (by omega) (by decide) ?_
  refine q_heap (ha_57 _) ?_
  refine q_iconst (v := nI 0) rfl rfl ?_
  refine q_istore_n (L' := [_, _, _, _]) rfl rfl ?_
  refine q_up (Inv := fun k L h => L = [some (.ref 51), some (.int (nI q)), some (.int v), some (.int (nI k))] ∧ h = HX I (ua (ua A 57 (upd (A 57) q v)) 58 (f_fill (A 58) 0 (40 * q) k)) J B F) (40) (fun k L h hk_k hi_k ih_k => ?_) (fun L h hi_k => ?_) (0) _ _ (by omega) (⟨rfl, by rw [f_fill_0, ua_self (A := ua A 57 (upd (A 57) q v)) (c := 58) (f := A 58) rfl]⟩)
  · obtain ⟨rfl, rfl⟩ := hi_k
    refine q_iload_n rfl rfl ?_
    refine q_bipush (v := nI 40) rfl rfl ?_
    refine q_icmp_geN rfl (by omega) (by omega) (fun hcks12 => ?_) (fun hcks12 => ?_)
    · omega
    · refine q_aload_n rfl rfl ?_
      refine q_getfield rfl hx_51 rfl ?_
      refine q_bipush (v := nI 40) rfl rfl ?_
      refine q_iload_n rfl rfl ?_
      refine q_imulN rfl ?_
      refine q_iload_n rfl rfl ?_
      refine q_iaddN rfl ?_
      refine q_iconst (v := 0) rfl rfl ?_
      refine q_iastN rfl hx_58 (by omega) (by decide) ?_
      refine q_heap (ha_58 _) ?_
      refine q_iincN (c := 1) (L' := [_, _, _, _]) rfl rfl rfl rfl ?_
      refine q_goto rfl ?_
      exact ih_k _ _ (⟨rfl, by rw [ua_ua, ua_eq, f_fill_u]⟩)
  · obtain ⟨rfl, rfl⟩ := hi_k
    refine q_iload_n rfl rfl ?_
    refine q_bipush (v := nI 40) rfl rfl ?_
    refine q_icmp_geN rfl (by omega) (by omega) (fun hckf12 => ?_) (fun hckf12 => ?_)
    · refine q_vret rfl rfl ?_
      exact ⟨rfl, rfl⟩
    · omega
theorem m_row_bad {X : XX} {I A : Nat → Nat → Int32} {J B : Nat → Nat → Int64} {F : Nat → Nat} (x : Int32) (hx : x < 0 ∨ 6 ≤ x) (n : Int32) : x_ev X xT 3 155 [.ref 51, .int x, .int n] (HX I A J B F) (some (.int (-1))) (HX I A J B F) := by
  refine q_ev (L := [some (.ref 51), some (.int x), some (.int n)]) tX9_row (Nat.le_of_ble_eq_true rfl) rfl ?_
  refine q_iload_n rfl rfl ?_
  refine q_callS1 rfl rfl (Nat.le_of_ble_eq_true rfl) (Nat.le_of_ble_eq_true rfl) (sX9_isRow_0 x hx) ?_
  refine q_if_eqN rfl (by omega) (fun hc4 => ?_) (fun hc4 => ?_)
  · refine q_iconst (v := (-1)) rfl rfl ?_
    refine q_iret rfl rfl ?_
    exact ⟨rfl, rfl⟩
  · exact absurd hc4 (by decide)
theorem m_row_B {X : XX} {I A : Nat → Nat → Int32} {J B : Nat → Nat → Int64} {F : Nat → Nat} (q : Nat) (hr : q < 6) (n : Int32) (hn : nI 40 < n) : x_ev X xT 3 155 [.ref 51, .int (nI q), .int n] (HX I A J B F) (some (.int (-1))) (HX I A J B F) := by
  refine q_ev (L := [some (.ref 51), some (.int (nI q)), some (.int n)]) tX9_row (Nat.le_of_ble_eq_true rfl) rfl ?_
  refine q_iload_n rfl rfl ?_
  refine q_callS1 rfl rfl (Nat.le_of_ble_eq_true rfl) (Nat.le_of_ble_eq_true rfl) (sX9_isRow_1 q hr) ?_
  refine q_if_eqN rfl (by omega) (fun hc4 => ?_) (fun hc4 => ?_)
  · exact absurd hc4 (by decide)
  · refine q_iload_n rfl rfl ?_
    refine q_bipush (v := nI 40) rfl rfl ?_
    refine q_icmp_le rfl (fun hc10 => ?_) (fun hc10 => ?_)
    · exact absurd hc10 (Int32.not_le.mpr hn)
    · refine q_iconst (v := (-1)) rfl rfl ?_
      refine q_iret rfl rfl ?_
      exact ⟨rfl, rfl⟩
theorem m_row_S {X : XX} {I A : Nat → Nat → Int32} {J B : Nat → Nat → Int64} {F : Nat → Nat} (q : Nat) (hr : q < 6) (n : Int32) (hn : n < 0) : x_ev X xT 3 155 [.ref 51, .int (nI q), .int n] (HX I A J B F) (some (.int (-3))) (HX (u2 I 51 15 (nI 5)) (f_cnt A 61 5) J B F) := by
  refine q_ev (L := [some (.ref 51), some (.int (nI q)), some (.int n)]) tX9_row (Nat.le_of_ble_eq_true rfl) rfl ?_
  refine q_iload_n rfl rfl ?_
  refine q_callS1 rfl rfl (Nat.le_of_ble_eq_true rfl) (Nat.le_of_ble_eq_true rfl) (sX9_isRow_1 q hr) ?_
  refine q_if_eqN rfl (by omega) (fun hc4 => ?_) (fun hc4 => ?_)
  · exact absurd hc4 (by decide)
  · refine q_iload_n rfl rfl ?_
    refine q_bipush (v := nI 40) rfl rfl ?_
    refine q_icmp_le rfl (fun hc10 => ?_) (fun hc10 => ?_)
    · refine q_iload_n rfl rfl ?_
      refine q_if_ge rfl (fun hc16 => ?_) (fun hc16 => ?_)
      · exact absurd hn (Int32.not_lt.mpr hc16)
      · refine q_aload_n rfl rfl ?_
        refine q_iconst (v := nI 5) rfl rfl ?_
        refine q_callV1 rfl hx_51 (Nat.le_of_ble_eq_true rfl) (Nat.le_of_ble_eq_true rfl) (sX9_find 5 (by decide)) ?_
        refine q_iret rfl rfl ?_
        exact ⟨rfl, rfl⟩
    · exact absurd (Int32.le_of_lt (Int32.lt_of_lt_of_le hn (nI_pos' (n := 40) (by decide)))) hc10
theorem m_row_0 {X : XX} {I A : Nat → Nat → Int32} {J B : Nat → Nat → Int64} {F : Nat → Nat} (q : Nat) (hr : q < 6) (n : Nat) (hn : n ≤ 40) : x_ev X xT 3 155 [.ref 51, .int (nI q), .int (nI n)] (HX I A J B F) (some (.int (nI n))) (HX I (ua (ua A 57 (upd (A 57) q (nI n))) 58 (f_fill (A 58) 0 (40 * q) 40)) J B F) := by
  refine q_ev (L := [some (.ref 51), some (.int (nI q)), some (.int (nI n))]) tX9_row (Nat.le_of_ble_eq_true rfl) rfl ?_
  refine q_iload_n rfl rfl ?_
  refine q_callS1 rfl rfl (Nat.le_of_ble_eq_true rfl) (Nat.le_of_ble_eq_true rfl) (sX9_isRow_1 q hr) ?_
  refine q_if_eqN rfl (by omega) (fun hc4 => ?_) (fun hc4 => ?_)
  · exact absurd hc4 (by decide)
  · refine q_iload_n rfl rfl ?_
    refine q_bipush (v := nI 40) rfl rfl ?_
    refine q_icmp_leN rfl (by omega) (by omega) (fun hc10 => ?_) (fun hc10 => ?_)
    · refine q_iload_n rfl rfl ?_
      refine q_if_geN rfl (by omega) (fun hc16 => ?_) (fun hc16 => ?_)
      · refine q_aload_n rfl rfl ?_
        refine q_iload_n rfl rfl ?_
        refine q_iload_n rfl rfl ?_
        refine q_callV2 rfl hx_51 (Nat.le_of_ble_eq_true rfl) (Nat.le_of_ble_eq_true rfl) (sX9_makeRow q hr _) ?_
        refine q_iload_n rfl rfl ?_
        refine q_iret rfl rfl ?_
        exact ⟨rfl, rfl⟩
      · omega
    · omega
theorem m_text_bad {X : XX} {I A : Nat → Nat → Int32} {J B : Nat → Nat → Int64} {F : Nat → Nat} (x : Int32) (hx : x < 0 ∨ 4 ≤ x) (n : Int32) : x_ev X xT 3 164 [.ref 51, .int x, .int n] (HX I A J B F) (some (.int (-1))) (HX I A J B F) := by
  refine q_ev (L := [some (.ref 51), some (.int x), some (.int n), none]) tX9_text (Nat.le_of_ble_eq_true rfl) rfl ?_
  refine q_iload_n rfl rfl ?_
  refine q_callS1 rfl rfl (Nat.le_of_ble_eq_true rfl) (Nat.le_of_ble_eq_true rfl) (sX9_isText_0 x hx) ?_
  refine q_if_eqN rfl (by omega) (fun hc4 => ?_) (fun hc4 => ?_)
  · refine q_iconst (v := (-1)) rfl rfl ?_
    refine q_iret rfl rfl ?_
    exact ⟨rfl, rfl⟩
  · exact absurd hc4 (by decide)
theorem m_text_B {X : XX} {I A : Nat → Nat → Int32} {J B : Nat → Nat → Int64} {F : Nat → Nat} (t : Nat) (ht : t < 4) (n : Int32) (hn : nI 60 < n) : x_ev X xT 3 164 [.ref 51, .int (nI t), .int n] (HX I A J B F) (some (.int (-1))) (HX I A J B F) := by
  refine q_ev (L := [some (.ref 51), some (.int (nI t)), some (.int n), none]) tX9_text (Nat.le_of_ble_eq_true rfl) rfl ?_
  refine q_iload_n rfl rfl ?_
  refine q_callS1 rfl rfl (Nat.le_of_ble_eq_true rfl) (Nat.le_of_ble_eq_true rfl) (sX9_isText_1 t ht) ?_
  refine q_if_eqN rfl (by omega) (fun hc4 => ?_) (fun hc4 => ?_)
  · exact absurd hc4 (by decide)
  · refine q_iload_n rfl rfl ?_
    refine q_bipush (v := nI 60) rfl rfl ?_
    refine q_icmp_le rfl (fun hc10 => ?_) (fun hc10 => ?_)
    · exact absurd hc10 (Int32.not_le.mpr hn)
    · refine q_iconst (v := (-1)) rfl rfl ?_
      refine q_iret rfl rfl ?_
      exact ⟨rfl, rfl⟩
theorem m_text_S {X : XX} {I A : Nat → Nat → Int32} {J B : Nat → Nat → Int64} {F : Nat → Nat} (t : Nat) (ht : t < 4) (n : Int32) (hn : n < 0) : x_ev X xT 3 164 [.ref 51, .int (nI t), .int n] (HX I A J B F) (some (.int (-3))) (HX (u2 I 51 15 (nI 5)) (f_cnt A 61 5) J B F) := by
  refine q_ev (L := [some (.ref 51), some (.int (nI t)), some (.int n), none]) tX9_text (Nat.le_of_ble_eq_true rfl) rfl ?_
  refine q_iload_n rfl rfl ?_
  refine q_callS1 rfl rfl (Nat.le_of_ble_eq_true rfl) (Nat.le_of_ble_eq_true rfl) (sX9_isText_1 t ht) ?_
  refine q_if_eqN rfl (by omega) (fun hc4 => ?_) (fun hc4 => ?_)
  · exact absurd hc4 (by decide)
  · refine q_iload_n rfl rfl ?_
    refine q_bipush (v := nI 60) rfl rfl ?_
    refine q_icmp_le rfl (fun hc10 => ?_) (fun hc10 => ?_)
    · refine q_iload_n rfl rfl ?_
      refine q_if_ge rfl (fun hc16 => ?_) (fun hc16 => ?_)
      · exact absurd hn (Int32.not_lt.mpr hc16)
      · refine q_aload_n rfl rfl ?_
        refine q_iconst (v := nI 5) rfl rfl ?_
        refine q_callV1 rfl hx_51 (Nat.le_of_ble_eq_true rfl) (Nat.le_of_ble_eq_true rfl) (sX9_find 5 (by decide)) ?_
        refine q_iret rfl rfl ?_
        exact ⟨rfl, rfl⟩
    · exact absurd (Int32.le_of_lt (Int32.lt_of_lt_of_le hn (nI_pos' (n := 60) (by decide)))) hc10
theorem m_text_0 {X : XX} {I A : Nat → Nat → Int32} {J B : Nat → Nat → Int64} {F : Nat → Nat} (t : Nat) (ht : t < 4) (n : Nat) (hn : n ≤ 60) : x_ev X xT 3 164 [.ref 51, .int (nI t), .int (nI n)] (HX I A J B F) (some (.int (nI n))) (HX I (ua (ua A 59 (upd (A 59) t (nI n))) 60 (f_fill (A 60) 32 (60 * t) 60)) J B F) := by
  refine q_ev (L := [some (.ref 51), some (.int (nI t)), some (.int (nI n)), none]) tX9_text (Nat.le_of_ble_eq_true rfl) rfl ?_
  refine q_iload_n rfl rfl ?_
  refine q_callS1 rfl rfl (Nat.le_of_ble_eq_true rfl) (Nat.le_of_ble_eq_true rfl) (sX9_isText_1 t ht) ?_
  refine q_if_eqN rfl (by omega) (fun hc4 => ?_) (fun hc4 => ?_)
  · exact absurd hc4 (by decide)
  · refine q_iload_n rfl rfl ?_
    refine q_bipush (v := nI 60) rfl rfl ?_
    refine q_icmp_leN rfl (by omega) (by omega) (fun hc10 => ?_) (fun hc10 => ?_)
    · refine q_iload_n rfl rfl ?_
      refine q_if_geN rfl (by omega) (fun hc16 => ?_) (fun hc16 => ?_)
      · refine q_aload_n rfl rfl ?_
        refine q_getfield rfl hx_51 rfl ?_
        refine q_iload_n rfl rfl ?_
        refine q_iload_n rfl rfl ?_
        refine q_iastN rfl hx_59 (by omega) (by decide) ?_
        refine q_heap (ha_59 _) ?_
        refine q_iconst (v := nI 0) rfl rfl ?_
        refine q_istore_n (L' := [_, _, _, _]) rfl rfl ?_
        refine q_up (Inv := fun k L h => L = [some (.ref 51), some (.int (nI t)), some (.int (nI n)), some (.int (nI k))] ∧ h = HX I (ua (ua A 59 (upd (A 59) t (nI n))) 60 (f_fill (A 60) 32 (60 * t) k)) J B F) (60) (fun k L h hk_k hi_k ih_k => ?_) (fun L h hi_k => ?_) (0) _ _ (by omega) (⟨rfl, by rw [f_fill_0, ua_self (A := ua A 59 (upd (A 59) t (nI n))) (c := 60) (f := A 60) rfl]⟩)
        · obtain ⟨rfl, rfl⟩ := hi_k
          refine q_iload_n rfl rfl ?_
          refine q_bipush (v := nI 60) rfl rfl ?_
          refine q_icmp_geN rfl (by omega) (by omega) (fun hcks37 => ?_) (fun hcks37 => ?_)
          · omega
          · refine q_aload_n rfl rfl ?_
            refine q_getfield rfl hx_51 rfl ?_
            refine q_bipush (v := nI 60) rfl rfl ?_
            refine q_iload_n rfl rfl ?_
            refine q_imulN rfl ?_
            refine q_iload_n rfl rfl ?_
            refine q_iaddN rfl ?_
            refine q_bipush (v := 32) rfl rfl ?_
            refine q_iastN rfl hx_60 (by omega) (by decide) ?_
            refine q_heap (ha_60 _) ?_
            refine q_iincN (c := 1) (L' := [_, _, _, _]) rfl rfl rfl rfl ?_
            refine q_goto rfl ?_
            exact ih_k _ _ (⟨rfl, by rw [ua_ua, ua_eq, f_fill_u]⟩)
        · obtain ⟨rfl, rfl⟩ := hi_k
          refine q_iload_n rfl rfl ?_
          refine q_bipush (v := nI 60) rfl rfl ?_
          refine q_icmp_geN rfl (by omega) (by omega) (fun hckf37 => ?_) (fun hckf37 => ?_)
          · refine q_iload_n rfl rfl ?_
            refine q_iret rfl rfl ?_
            exact ⟨rfl, rfl⟩
          · omega
      · omega
    · omega
theorem m_refused_bad {X : XX} {I A : Nat → Nat → Int32} {J B : Nat → Nat → Int64} {F : Nat → Nat} (x : Int32) (hx : x < 0 ∨ 6 ≤ x) (i : Int32) : x_ev X xT 3 157 [.ref 51, .int x, .int i] (HX I A J B F) (some (.int (-1))) (HX I A J B F) := by
  refine q_ev (L := [some (.ref 51), some (.int x), some (.int i)]) tX9_refused (Nat.le_of_ble_eq_true rfl) rfl ?_
  refine q_iload_n rfl rfl ?_
  refine q_callS1 rfl rfl (Nat.le_of_ble_eq_true rfl) (Nat.le_of_ble_eq_true rfl) (sX9_isRow_0 x hx) ?_
  refine q_if_neN rfl (by omega) (fun hc4 => ?_) (fun hc4 => ?_)
  · exact absurd hc4 (by decide)
  · refine q_iconst (v := (-1)) rfl rfl ?_
    refine q_goto rfl ?_
    refine q_iret rfl rfl ?_
    exact ⟨rfl, rfl⟩
theorem m_refused_M {X : XX} {I A : Nat → Nat → Int32} {J B : Nat → Nat → Int64} {F : Nat → Nat} (q : Nat) (hr : q < 6) (hz : A 57 q = -1) (i : Int32) : x_ev X xT 3 157 [.ref 51, .int (nI q), .int i] (HX I A J B F) (some (.int (-3))) (HX (u2 I 51 15 (nI 1)) (f_cnt A 61 1) J B F) := by
  refine q_ev (L := [some (.ref 51), some (.int (nI q)), some (.int i)]) tX9_refused (Nat.le_of_ble_eq_true rfl) rfl ?_
  refine q_iload_n rfl rfl ?_
  refine q_callS1 rfl rfl (Nat.le_of_ble_eq_true rfl) (Nat.le_of_ble_eq_true rfl) (sX9_isRow_1 q hr) ?_
  refine q_if_neN rfl (by omega) (fun hc4 => ?_) (fun hc4 => ?_)
  · refine q_aload_n rfl rfl ?_
    refine q_getfield rfl hx_51 rfl ?_
    refine q_iload_n rfl rfl ?_
    refine q_iald rfl (by decide) hx_57 (by omega) (by decide) (hz) ?_
    refine q_if_ge rfl (fun hc17 => ?_) (fun hc17 => ?_)
    · exact absurd hc17 (by decide)
    · refine q_aload_n rfl rfl ?_
      refine q_iconst (v := nI 1) rfl rfl ?_
      refine q_callV1 rfl hx_51 (Nat.le_of_ble_eq_true rfl) (Nat.le_of_ble_eq_true rfl) (sX9_find 1 (by decide)) ?_
      refine q_goto rfl ?_
      refine q_iret rfl rfl ?_
      exact ⟨rfl, rfl⟩
  · exact absurd hc4 (by decide)
theorem m_refused_B {X : XX} {I A : Nat → Nat → Int32} {J B : Nat → Nat → Int64} {F : Nat → Nat} (q : Nat) (hr : q < 6) (k : Nat) (hk : k ≤ 40) (hz : A 57 q = nI k) (i : Int32) (hi : i < 0 ∨ nI k ≤ i) : x_ev X xT 3 157 [.ref 51, .int (nI q), .int i] (HX I A J B F) (some (.int (-3))) (HX (u2 I 51 15 (nI 2)) (f_cnt A 61 2) J B F) := by
  refine q_ev (L := [some (.ref 51), some (.int (nI q)), some (.int i)]) tX9_refused (Nat.le_of_ble_eq_true rfl) rfl ?_
  refine q_iload_n rfl rfl ?_
  refine q_callS1 rfl rfl (Nat.le_of_ble_eq_true rfl) (Nat.le_of_ble_eq_true rfl) (sX9_isRow_1 q hr) ?_
  refine q_if_neN rfl (by omega) (fun hc4 => ?_) (fun hc4 => ?_)
  · refine q_aload_n rfl rfl ?_
    refine q_getfield rfl hx_51 rfl ?_
    refine q_iload_n rfl rfl ?_
    refine q_iald rfl (by decide) hx_57 (by omega) (by decide) (hz) ?_
    refine q_if_geN rfl (by omega) (fun hc17 => ?_) (fun hc17 => ?_)
    · refine q_iload_n rfl rfl ?_
      refine q_i2l rfl ?_
      refine q_lconst (v := 0) rfl rfl ?_
      refine q_aload_n rfl rfl ?_
      refine q_getfield rfl hx_51 rfl ?_
      refine q_iload_n rfl rfl ?_
      refine q_iald rfl (by decide) hx_57 (by omega) (by decide) (hz) ?_
      refine q_iconst (v := nI 1) rfl rfl ?_
      refine q_isub rfl ?_
      refine q_i2l rfl ?_
      refine q_callS3 rfl rfl (Nat.le_of_ble_eq_true rfl) (Nat.le_of_ble_eq_true rfl) (sX9_in _ _ _) ?_
      refine q_cn (f_in_0 (lo := 0) rfl rfl (by by_cases z : i < 0; exact Or.inl z; exact Or.inr (f_ltm (by omega) z (hi.resolve_left z)))) ?_
      refine q_if_eqN rfl (by omega) (fun hc43 => ?_) (fun hc43 => ?_)
      · refine q_aload_n rfl rfl ?_
        refine q_iconst (v := nI 2) rfl rfl ?_
        refine q_callV1 rfl hx_51 (Nat.le_of_ble_eq_true rfl) (Nat.le_of_ble_eq_true rfl) (sX9_find 2 (by decide)) ?_
        refine q_iret rfl rfl ?_
        exact ⟨rfl, rfl⟩
      · exact absurd hc43 (by decide)
    · omega
  · exact absurd hc4 (by decide)
theorem m_refused_0 {X : XX} {I A : Nat → Nat → Int32} {J B : Nat → Nat → Int64} {F : Nat → Nat} (q : Nat) (hr : q < 6) (k : Nat) (hk : k ≤ 40) (hz : A 57 q = nI k) (j : Nat) (hj : j < k) : x_ev X xT 3 157 [.ref 51, .int (nI q), .int (nI j)] (HX I A J B F) (some (.int (nI 0))) (HX I A J B F) := by
  refine q_ev (L := [some (.ref 51), some (.int (nI q)), some (.int (nI j))]) tX9_refused (Nat.le_of_ble_eq_true rfl) rfl ?_
  refine q_iload_n rfl rfl ?_
  refine q_callS1 rfl rfl (Nat.le_of_ble_eq_true rfl) (Nat.le_of_ble_eq_true rfl) (sX9_isRow_1 q hr) ?_
  refine q_if_neN rfl (by omega) (fun hc4 => ?_) (fun hc4 => ?_)
  · refine q_aload_n rfl rfl ?_
    refine q_getfield rfl hx_51 rfl ?_
    refine q_iload_n rfl rfl ?_
    refine q_iald rfl (by decide) hx_57 (by omega) (by decide) (hz) ?_
    refine q_if_geN rfl (by omega) (fun hc17 => ?_) (fun hc17 => ?_)
    · refine q_iload_n rfl rfl ?_
      refine q_i2l rfl ?_
      refine q_lconst (v := 0) rfl rfl ?_
      refine q_aload_n rfl rfl ?_
      refine q_getfield rfl hx_51 rfl ?_
      refine q_iload_n rfl rfl ?_
      refine q_iald rfl (by decide) hx_57 (by omega) (by decide) (hz) ?_
      refine q_iconst (v := nI 1) rfl rfl ?_
      refine q_isub rfl ?_
      refine q_i2l rfl ?_
      refine q_callS3 rfl rfl (Nat.le_of_ble_eq_true rfl) (Nat.le_of_ble_eq_true rfl) (sX9_in _ _ _) ?_
      refine q_cn (f_in_1 (lo := nI 0) rfl rfl (nI_pos (by omega)) (f_nltm hj (by omega))) ?_
      refine q_if_eqN rfl (by omega) (fun hc43 => ?_) (fun hc43 => ?_)
      · exact absurd hc43 (by decide)
      · refine q_iconst (v := nI 0) rfl rfl ?_
        refine q_goto rfl ?_
        refine q_iret rfl rfl ?_
        exact ⟨rfl, rfl⟩
    · omega
  · exact absurd hc4 (by decide)
theorem m_lay_bad {X : XX} {I A : Nat → Nat → Int32} {J B : Nat → Nat → Int64} {F : Nat → Nat} (x : Int32) (hx : x < 0 ∨ 6 ≤ x) (i : Int32) (v : Int32) : x_ev X xT 4 158 [.ref 51, .int x, .int i, .int v] (HX I A J B F) (some (.int (-1))) (HX I A J B F) := by
  refine q_ev (L := [some (.ref 51), some (.int x), some (.int i), some (.int v), none, none]) tX9_lay (Nat.le_of_ble_eq_true rfl) rfl ?_
  refine q_aload_n rfl rfl ?_
  refine q_iload_n rfl rfl ?_
  refine q_iload_n rfl rfl ?_
  refine q_callV2 rfl hx_51 (Nat.le_of_ble_eq_true rfl) (Nat.le_of_ble_eq_true rfl) (m_refused_bad x hx i) ?_
  refine q_istore (L' := [_, _, _, _, _, _]) rfl rfl ?_
  refine q_iload rfl rfl ?_
  refine q_if_eq rfl (fun hc10 => ?_) (fun hc10 => ?_)
  · exact absurd hc10 (by decide)
  · refine q_iload rfl rfl ?_
    refine q_iret rfl rfl ?_
    exact ⟨rfl, rfl⟩
theorem m_lay_M {X : XX} {I A : Nat → Nat → Int32} {J B : Nat → Nat → Int64} {F : Nat → Nat} (q : Nat) (hr : q < 6) (hz : A 57 q = -1) (i : Int32) (v : Int32) : x_ev X xT 4 158 [.ref 51, .int (nI q), .int i, .int v] (HX I A J B F) (some (.int (-3))) (HX (u2 I 51 15 (nI 1)) (f_cnt A 61 1) J B F) := by
  refine q_ev (L := [some (.ref 51), some (.int (nI q)), some (.int i), some (.int v), none, none]) tX9_lay (Nat.le_of_ble_eq_true rfl) rfl ?_
  refine q_aload_n rfl rfl ?_
  refine q_iload_n rfl rfl ?_
  refine q_iload_n rfl rfl ?_
  refine q_callV2 rfl hx_51 (Nat.le_of_ble_eq_true rfl) (Nat.le_of_ble_eq_true rfl) (m_refused_M q hr hz i) ?_
  refine q_istore (L' := [_, _, _, _, _, _]) rfl rfl ?_
  refine q_iload rfl rfl ?_
  refine q_if_eq rfl (fun hc10 => ?_) (fun hc10 => ?_)
  · exact absurd hc10 (by decide)
  · refine q_iload rfl rfl ?_
    refine q_iret rfl rfl ?_
    exact ⟨rfl, rfl⟩
theorem m_lay_B {X : XX} {I A : Nat → Nat → Int32} {J B : Nat → Nat → Int64} {F : Nat → Nat} (q : Nat) (hr : q < 6) (k : Nat) (hk : k ≤ 40) (hz : A 57 q = nI k) (i : Int32) (hi : i < 0 ∨ nI k ≤ i) (v : Int32) : x_ev X xT 4 158 [.ref 51, .int (nI q), .int i, .int v] (HX I A J B F) (some (.int (-3))) (HX (u2 I 51 15 (nI 2)) (f_cnt A 61 2) J B F) := by
  refine q_ev (L := [some (.ref 51), some (.int (nI q)), some (.int i), some (.int v), none, none]) tX9_lay (Nat.le_of_ble_eq_true rfl) rfl ?_
  refine q_aload_n rfl rfl ?_
  refine q_iload_n rfl rfl ?_
  refine q_iload_n rfl rfl ?_
  refine q_callV2 rfl hx_51 (Nat.le_of_ble_eq_true rfl) (Nat.le_of_ble_eq_true rfl) (m_refused_B q hr k hk hz i hi) ?_
  refine q_istore (L' := [_, _, _, _, _, _]) rfl rfl ?_
  refine q_iload rfl rfl ?_
  refine q_if_eq rfl (fun hc10 => ?_) (fun hc10 => ?_)
  · exact absurd hc10 (by decide)
  · refine q_iload rfl rfl ?_
    refine q_iret rfl rfl ?_
    exact ⟨rfl, rfl⟩
theorem m_lay_0 {X : XX} {I A : Nat → Nat → Int32} {J B : Nat → Nat → Int64} {F : Nat → Nat} (q : Nat) (hr : q < 6) (k : Nat) (hk : k ≤ 40) (hz : A 57 q = nI k) (j : Nat) (hj : j < k) (v : Int32) : x_ev X xT 4 158 [.ref 51, .int (nI q), .int (nI j), .int v] (HX I A J B F) (some (.int (nI 1))) (HX (u2 I 51 12 (A 58 (40 * q + j))) (ua A 58 (upd (A 58) (40 * q + j) v)) J B F) := by
  refine q_ev (L := [some (.ref 51), some (.int (nI q)), some (.int (nI j)), some (.int v), none, none]) tX9_lay (Nat.le_of_ble_eq_true rfl) rfl ?_
  refine q_aload_n rfl rfl ?_
  refine q_iload_n rfl rfl ?_
  refine q_iload_n rfl rfl ?_
  refine q_callV2 rfl hx_51 (Nat.le_of_ble_eq_true rfl) (Nat.le_of_ble_eq_true rfl) (m_refused_0 q hr k hk hz j hj) ?_
  refine q_istore (L' := [_, _, _, _, _, _]) rfl rfl ?_
  refine q_iload rfl rfl ?_
  refine q_if_eqN rfl (by omega) (fun hc10 => ?_) (fun hc10 => ?_)
  · refine q_aload_n rfl rfl ?_
    refine q_getfield rfl hx_51 rfl ?_
    refine q_bipush (v := nI 40) rfl rfl ?_
    refine q_iload_n rfl rfl ?_
    refine q_imulN rfl ?_
    refine q_iload_n rfl rfl ?_
    refine q_iaddN rfl ?_
    refine q_iald rfl (by decide) hx_58 (by omega) (by decide) (rfl) ?_
    refine q_istore (L' := [_, _, _, _, _, _]) rfl rfl ?_
    refine q_aload_n rfl rfl ?_
    refine q_getfield rfl hx_51 rfl ?_
    refine q_bipush (v := nI 40) rfl rfl ?_
    refine q_iload_n rfl rfl ?_
    refine q_imulN rfl ?_
    refine q_iload_n rfl rfl ?_
    refine q_iaddN rfl ?_
    refine q_iload_n rfl rfl ?_
    refine q_iastN rfl hx_58 (by omega) (by decide) ?_
    refine q_heap (ha_58 _) ?_
    refine q_aload_n rfl rfl ?_
    refine q_iload rfl rfl ?_
    refine q_callV1 rfl hx_51 (Nat.le_of_ble_eq_true rfl) (Nat.le_of_ble_eq_true rfl) (sX9_tell _) ?_
    refine q_iret rfl rfl ?_
    exact ⟨rfl, rfl⟩
  · exact absurd hc10 (by decide)
theorem m_at_bad {X : XX} {I A : Nat → Nat → Int32} {J B : Nat → Nat → Int64} {F : Nat → Nat} (x : Int32) (hx : x < 0 ∨ 6 ≤ x) (i : Int32)  : x_ev X xT 4 159 [.ref 51, .int x, .int i] (HX I A J B F) (some (.int (-1))) (HX I A J B F) := by
  refine q_ev (L := [some (.ref 51), some (.int x), some (.int i), none]) tX9_at (Nat.le_of_ble_eq_true rfl) rfl ?_
  refine q_aload_n rfl rfl ?_
  refine q_iload_n rfl rfl ?_
  refine q_iload_n rfl rfl ?_
  refine q_callV2 rfl hx_51 (Nat.le_of_ble_eq_true rfl) (Nat.le_of_ble_eq_true rfl) (m_refused_bad x hx i) ?_
  refine q_istore_n (L' := [_, _, _, _]) rfl rfl ?_
  refine q_iload_n rfl rfl ?_
  refine q_if_eq rfl (fun hc8 => ?_) (fun hc8 => ?_)
  · exact absurd hc8 (by decide)
  · refine q_iload_n rfl rfl ?_
    refine q_goto rfl ?_
    refine q_iret rfl rfl ?_
    exact ⟨rfl, rfl⟩
theorem m_at_M {X : XX} {I A : Nat → Nat → Int32} {J B : Nat → Nat → Int64} {F : Nat → Nat} (q : Nat) (hr : q < 6) (hz : A 57 q = -1) (i : Int32)  : x_ev X xT 4 159 [.ref 51, .int (nI q), .int i] (HX I A J B F) (some (.int (-3))) (HX (u2 I 51 15 (nI 1)) (f_cnt A 61 1) J B F) := by
  refine q_ev (L := [some (.ref 51), some (.int (nI q)), some (.int i), none]) tX9_at (Nat.le_of_ble_eq_true rfl) rfl ?_
  refine q_aload_n rfl rfl ?_
  refine q_iload_n rfl rfl ?_
  refine q_iload_n rfl rfl ?_
  refine q_callV2 rfl hx_51 (Nat.le_of_ble_eq_true rfl) (Nat.le_of_ble_eq_true rfl) (m_refused_M q hr hz i) ?_
  refine q_istore_n (L' := [_, _, _, _]) rfl rfl ?_
  refine q_iload_n rfl rfl ?_
  refine q_if_eq rfl (fun hc8 => ?_) (fun hc8 => ?_)
  · exact absurd hc8 (by decide)
  · refine q_iload_n rfl rfl ?_
    refine q_goto rfl ?_
    refine q_iret rfl rfl ?_
    exact ⟨rfl, rfl⟩
theorem m_at_B {X : XX} {I A : Nat → Nat → Int32} {J B : Nat → Nat → Int64} {F : Nat → Nat} (q : Nat) (hr : q < 6) (k : Nat) (hk : k ≤ 40) (hz : A 57 q = nI k) (i : Int32) (hi : i < 0 ∨ nI k ≤ i)  : x_ev X xT 4 159 [.ref 51, .int (nI q), .int i] (HX I A J B F) (some (.int (-3))) (HX (u2 I 51 15 (nI 2)) (f_cnt A 61 2) J B F) := by
  refine q_ev (L := [some (.ref 51), some (.int (nI q)), some (.int i), none]) tX9_at (Nat.le_of_ble_eq_true rfl) rfl ?_
  refine q_aload_n rfl rfl ?_
  refine q_iload_n rfl rfl ?_
  refine q_iload_n rfl rfl ?_
  refine q_callV2 rfl hx_51 (Nat.le_of_ble_eq_true rfl) (Nat.le_of_ble_eq_true rfl) (m_refused_B q hr k hk hz i hi) ?_
  refine q_istore_n (L' := [_, _, _, _]) rfl rfl ?_
  refine q_iload_n rfl rfl ?_
  refine q_if_eq rfl (fun hc8 => ?_) (fun hc8 => ?_)
  · exact absurd hc8 (by decide)
  · refine q_iload_n rfl rfl ?_
    refine q_goto rfl ?_
    refine q_iret rfl rfl ?_
    exact ⟨rfl, rfl⟩
theorem m_at_0 {X : XX} {I A : Nat → Nat → Int32} {J B : Nat → Nat → Int64} {F : Nat → Nat} (q : Nat) (hr : q < 6) (k : Nat) (hk : k ≤ 40) (hz : A 57 q = nI k) (j : Nat) (hj : j < k)  : x_ev X xT 4 159 [.ref 51, .int (nI q), .int (nI j)] (HX I A J B F) (some (.int (nI 1))) (HX (u2 I 51 12 (A 58 (40 * q + j))) A J B F) := by
  refine q_ev (L := [some (.ref 51), some (.int (nI q)), some (.int (nI j)), none]) tX9_at (Nat.le_of_ble_eq_true rfl) rfl ?_
  refine q_aload_n rfl rfl ?_
  refine q_iload_n rfl rfl ?_
  refine q_iload_n rfl rfl ?_
  refine q_callV2 rfl hx_51 (Nat.le_of_ble_eq_true rfl) (Nat.le_of_ble_eq_true rfl) (m_refused_0 q hr k hk hz j hj) ?_
  refine q_istore_n (L' := [_, _, _, _]) rfl rfl ?_
  refine q_iload_n rfl rfl ?_
  refine q_if_eqN rfl (by omega) (fun hc8 => ?_) (fun hc8 => ?_)
  · refine q_aload_n rfl rfl ?_
    refine q_aload_n rfl rfl ?_
    refine q_getfield rfl hx_51 rfl ?_
    refine q_bipush (v := nI 40) rfl rfl ?_
    refine q_iload_n rfl rfl ?_
    refine q_imulN rfl ?_
    refine q_iload_n rfl rfl ?_
    refine q_iaddN rfl ?_
    refine q_iald rfl (by decide) hx_58 (by omega) (by decide) (rfl) ?_
    refine q_callV1 rfl hx_51 (Nat.le_of_ble_eq_true rfl) (Nat.le_of_ble_eq_true rfl) (sX9_tell _) ?_
    refine q_iret rfl rfl ?_
    exact ⟨rfl, rfl⟩
  · exact absurd hc8 (by decide)
theorem m_tear_bad {X : XX} {I A : Nat → Nat → Int32} {J B : Nat → Nat → Int64} {F : Nat → Nat} (x : Int32) (hx : x < 0 ∨ 6 ≤ x)  : x_ev X xT 3 160 [.ref 51, .int x] (HX I A J B F) (some (.int (-1))) (HX I A J B F) := by
  refine q_ev (L := [some (.ref 51), some (.int x)]) tX9_tear (Nat.le_of_ble_eq_true rfl) rfl ?_
  refine q_iload_n rfl rfl ?_
  refine q_callS1 rfl rfl (Nat.le_of_ble_eq_true rfl) (Nat.le_of_ble_eq_true rfl) (sX9_isRow_0 x hx) ?_
  refine q_if_neN rfl (by omega) (fun hc4 => ?_) (fun hc4 => ?_)
  · exact absurd hc4 (by decide)
  · refine q_iconst (v := (-1)) rfl rfl ?_
    refine q_iret rfl rfl ?_
    exact ⟨rfl, rfl⟩
theorem m_tear_M {X : XX} {I A : Nat → Nat → Int32} {J B : Nat → Nat → Int64} {F : Nat → Nat} (q : Nat) (hr : q < 6) (hz : A 57 q = -1)  : x_ev X xT 3 160 [.ref 51, .int (nI q)] (HX I A J B F) (some (.int (-3))) (HX (u2 I 51 15 (nI 1)) (f_cnt A 61 1) J B F) := by
  refine q_ev (L := [some (.ref 51), some (.int (nI q))]) tX9_tear (Nat.le_of_ble_eq_true rfl) rfl ?_
  refine q_iload_n rfl rfl ?_
  refine q_callS1 rfl rfl (Nat.le_of_ble_eq_true rfl) (Nat.le_of_ble_eq_true rfl) (sX9_isRow_1 q hr) ?_
  refine q_if_neN rfl (by omega) (fun hc4 => ?_) (fun hc4 => ?_)
  · refine q_aload_n rfl rfl ?_
    refine q_getfield rfl hx_51 rfl ?_
    refine q_iload_n rfl rfl ?_
    refine q_iald rfl (by decide) hx_57 (by omega) (by decide) (hz) ?_
    refine q_if_ge rfl (fun hc15 => ?_) (fun hc15 => ?_)
    · exact absurd hc15 (by decide)
    · refine q_aload_n rfl rfl ?_
      refine q_iconst (v := nI 1) rfl rfl ?_
      refine q_callV1 rfl hx_51 (Nat.le_of_ble_eq_true rfl) (Nat.le_of_ble_eq_true rfl) (sX9_find 1 (by decide)) ?_
      refine q_iret rfl rfl ?_
      exact ⟨rfl, rfl⟩
  · exact absurd hc4 (by decide)
theorem m_tear_0 {X : XX} {I A : Nat → Nat → Int32} {J B : Nat → Nat → Int64} {F : Nat → Nat} (q : Nat) (hr : q < 6) (k : Nat) (hk : k ≤ 40) (hz : A 57 q = nI k)  : x_ev X xT 3 160 [.ref 51, .int (nI q)] (HX I A J B F) (some (.int (nI 1))) (HX I (ua A 57 (upd (A 57) q (-1))) J B F) := by
  refine q_ev (L := [some (.ref 51), some (.int (nI q))]) tX9_tear (Nat.le_of_ble_eq_true rfl) rfl ?_
  refine q_iload_n rfl rfl ?_
  refine q_callS1 rfl rfl (Nat.le_of_ble_eq_true rfl) (Nat.le_of_ble_eq_true rfl) (sX9_isRow_1 q hr) ?_
  refine q_if_neN rfl (by omega) (fun hc4 => ?_) (fun hc4 => ?_)
  · refine q_aload_n rfl rfl ?_
    refine q_getfield rfl hx_51 rfl ?_
    refine q_iload_n rfl rfl ?_
    refine q_iald rfl (by decide) hx_57 (by omega) (by decide) (hz) ?_
    refine q_if_geN rfl (by omega) (fun hc15 => ?_) (fun hc15 => ?_)
    · refine q_aload_n rfl rfl ?_
      refine q_getfield rfl hx_51 rfl ?_
      refine q_iload_n rfl rfl ?_
      refine q_iconst (v := (-1)) rfl rfl ?_
      refine q_iastN rfl hx_57 (by omega) (by decide) ?_
      refine q_heap (ha_57 _) ?_
      refine q_iconst (v := nI 1) rfl rfl ?_
      refine q_iret rfl rfl ?_
      exact ⟨rfl, rfl⟩
    · omega
  · exact absurd hc4 (by decide)
theorem m_mean_bad {X : XX} {I A : Nat → Nat → Int32} {J B : Nat → Nat → Int64} {F : Nat → Nat} (x : Int32) (hx : x < 0 ∨ 6 ≤ x)  : x_ev X xT 3 163 [.ref 51, .int x] (HX I A J B F) (some (.int (-1))) (HX I A J B F) := by
  refine q_ev (L := [some (.ref 51), some (.int x), none, none, none]) tX9_mean (Nat.le_of_ble_eq_true rfl) rfl ?_
  refine q_iload_n rfl rfl ?_
  refine q_callS1 rfl rfl (Nat.le_of_ble_eq_true rfl) (Nat.le_of_ble_eq_true rfl) (sX9_isRow_0 x hx) ?_
  refine q_if_neN rfl (by omega) (fun hc4 => ?_) (fun hc4 => ?_)
  · exact absurd hc4 (by decide)
  · refine q_iconst (v := (-1)) rfl rfl ?_
    refine q_iret rfl rfl ?_
    exact ⟨rfl, rfl⟩
theorem m_mean_M {X : XX} {I A : Nat → Nat → Int32} {J B : Nat → Nat → Int64} {F : Nat → Nat} (q : Nat) (hr : q < 6) (hz : A 57 q = -1)  : x_ev X xT 3 163 [.ref 51, .int (nI q)] (HX I A J B F) (some (.int (-3))) (HX (u2 I 51 15 (nI 1)) (f_cnt A 61 1) J B F) := by
  refine q_ev (L := [some (.ref 51), some (.int (nI q)), none, none, none]) tX9_mean (Nat.le_of_ble_eq_true rfl) rfl ?_
  refine q_iload_n rfl rfl ?_
  refine q_callS1 rfl rfl (Nat.le_of_ble_eq_true rfl) (Nat.le_of_ble_eq_true rfl) (sX9_isRow_1 q hr) ?_
  refine q_if_neN rfl (by omega) (fun hc4 => ?_) (fun hc4 => ?_)
  · refine q_aload_n rfl rfl ?_
    refine q_getfield rfl hx_51 rfl ?_
    refine q_iload_n rfl rfl ?_
    refine q_iald rfl (by decide) hx_57 (by omega) (by decide) (hz) ?_
    refine q_if_ge rfl (fun hc15 => ?_) (fun hc15 => ?_)
    · exact absurd hc15 (by decide)
    · refine q_aload_n rfl rfl ?_
      refine q_iconst (v := nI 1) rfl rfl ?_
      refine q_callV1 rfl hx_51 (Nat.le_of_ble_eq_true rfl) (Nat.le_of_ble_eq_true rfl) (sX9_find 1 (by decide)) ?_
      refine q_iret rfl rfl ?_
      exact ⟨rfl, rfl⟩
  · exact absurd hc4 (by decide)
theorem m_mean_E {X : XX} {I A : Nat → Nat → Int32} {J B : Nat → Nat → Int64} {F : Nat → Nat} (q : Nat) (hr : q < 6) (hz : A 57 q = nI 0) : x_ev X xT 3 163 [.ref 51, .int (nI q)] (HX I A J B F) (some (.int (-3))) (HX (u2 I 51 15 (nI 4)) (f_cnt A 61 4) J B F) := by
  refine q_ev (L := [some (.ref 51), some (.int (nI q)), none, none, none]) tX9_mean (Nat.le_of_ble_eq_true rfl) rfl ?_
  refine q_iload_n rfl rfl ?_
  refine q_callS1 rfl rfl (Nat.le_of_ble_eq_true rfl) (Nat.le_of_ble_eq_true rfl) (sX9_isRow_1 q hr) ?_
  refine q_if_neN rfl (by omega) (fun hc4 => ?_) (fun hc4 => ?_)
  · refine q_aload_n rfl rfl ?_
    refine q_getfield rfl hx_51 rfl ?_
    refine q_iload_n rfl rfl ?_
    refine q_iald rfl (by decide) hx_57 (by omega) (by decide) (hz) ?_
    refine q_if_geN rfl (by omega) (fun hc15 => ?_) (fun hc15 => ?_)
    · refine q_aload_n rfl rfl ?_
      refine q_getfield rfl hx_51 rfl ?_
      refine q_iload_n rfl rfl ?_
      refine q_iald rfl (by decide) hx_57 (by omega) (by decide) (hz) ?_
      refine q_if_neN rfl (by omega) (fun hc30 => ?_) (fun hc30 => ?_)
      · exact absurd hc30 (by decide)
      · refine q_aload_n rfl rfl ?_
        refine q_iconst (v := nI 4) rfl rfl ?_
        refine q_callV1 rfl hx_51 (Nat.le_of_ble_eq_true rfl) (Nat.le_of_ble_eq_true rfl) (sX9_find 4 (by decide)) ?_
        refine q_iret rfl rfl ?_
        exact ⟨rfl, rfl⟩
    · exact absurd hc15 (by decide)
  · exact absurd hc4 (by decide)
theorem m_mean_0 {X : XX} {I A : Nat → Nat → Int32} {J B : Nat → Nat → Int64} {F : Nat → Nat} (q : Nat) (hr : q < 6) (k : Nat) (hk : k ≤ 40) (hz : A 57 q = nI k) (h0 : 0 < k) : x_ev X xT 3 163 [.ref 51, .int (nI q)] (HX I A J B F) (some (.int (nI 1))) (HX (u2 I 51 12 (f_sum (fun x => A 58 (40 * q + x)) k 0 0 / (nI k).toInt64).toInt32) A J B F) := by
  refine q_ev (L := [some (.ref 51), some (.int (nI q)), none, none, none]) tX9_mean (Nat.le_of_ble_eq_true rfl) rfl ?_
  refine q_iload_n rfl rfl ?_
  refine q_callS1 rfl rfl (Nat.le_of_ble_eq_true rfl) (Nat.le_of_ble_eq_true rfl) (sX9_isRow_1 q hr) ?_
  refine q_if_neN rfl (by omega) (fun hc4 => ?_) (fun hc4 => ?_)
  · refine q_aload_n rfl rfl ?_
    refine q_getfield rfl hx_51 rfl ?_
    refine q_iload_n rfl rfl ?_
    refine q_iald rfl (by decide) hx_57 (by omega) (by decide) (hz) ?_
    refine q_if_geN rfl (by omega) (fun hc15 => ?_) (fun hc15 => ?_)
    · refine q_aload_n rfl rfl ?_
      refine q_getfield rfl hx_51 rfl ?_
      refine q_iload_n rfl rfl ?_
      refine q_iald rfl (by decide) hx_57 (by omega) (by decide) (hz) ?_
      refine q_if_neN rfl (by omega) (fun hc30 => ?_) (fun hc30 => ?_)
      · refine q_lconst (v := 0) rfl rfl ?_
        refine q_lstore_n (L' := [_, _, _, _, _]) rfl rfl ?_
        refine q_iconst (v := nI 0) rfl rfl ?_
        refine q_istore (L' := [_, _, _, _, _]) rfl rfl ?_
        refine q_up (Inv := fun i L h => ∃ s, L = [some (.ref 51), some (.int (nI q)), some (.long s), none, some (.int (nI i))] ∧ h = HX I A J B F ∧ f_sum (fun x => A 58 (40 * q + x)) (k - i) i s = f_sum (fun x => A 58 (40 * q + x)) k 0 0) (k) (fun i L h hk_i hi_i ih_i => ?_) (fun L h hi_i => ?_) (0) _ _ (by omega) (⟨0, rfl, rfl, rfl⟩)
        · obtain ⟨s, rfl, rfl, hs⟩ := hi_i
          refine q_iload rfl rfl ?_
          refine q_aload_n rfl rfl ?_
          refine q_getfield rfl hx_51 rfl ?_
          refine q_iload_n rfl rfl ?_
          refine q_iald rfl (by decide) hx_57 (by omega) (by decide) (hz) ?_
          refine q_icmp_geN rfl (by omega) (by omega) (fun hcis52 => ?_) (fun hcis52 => ?_)
          · omega
          · refine q_lload_n rfl rfl ?_
            refine q_aload_n rfl rfl ?_
            refine q_getfield rfl hx_51 rfl ?_
            refine q_bipush (v := nI 40) rfl rfl ?_
            refine q_iload_n rfl rfl ?_
            refine q_imulN rfl ?_
            refine q_iload rfl rfl ?_
            refine q_iaddN rfl ?_
            refine q_iald rfl (by decide) hx_58 (by omega) (by decide) (rfl) ?_
            refine q_i2l rfl ?_
            refine q_ladd rfl ?_
            refine q_lstore_n (L' := [_, _, _, _, _]) rfl rfl ?_
            refine q_iincN (c := 1) (L' := [_, _, _, _, _]) rfl rfl rfl rfl ?_
            refine q_goto rfl ?_
            exact ih_i _ _ (⟨_, rfl, rfl, by rw [← hs, show k - i = (k - (i + 1)) + 1 by omega]; rfl⟩)
        · obtain ⟨s, rfl, rfl, hs⟩ := hi_i
          rw [Nat.sub_self] at hs
          have hs : s = _ := hs
          subst hs
          refine q_iload rfl rfl ?_
          refine q_aload_n rfl rfl ?_
          refine q_getfield rfl hx_51 rfl ?_
          refine q_iload_n rfl rfl ?_
          refine q_iald rfl (by decide) hx_57 (by omega) (by decide) (hz) ?_
          refine q_icmp_geN rfl (by omega) (by omega) (fun hcif52 => ?_) (fun hcif52 => ?_)
          · refine q_aload_n rfl rfl ?_
            refine q_lload_n rfl rfl ?_
            refine q_aload_n rfl rfl ?_
            refine q_getfield rfl hx_51 rfl ?_
            refine q_iload_n rfl rfl ?_
            refine q_iald rfl (by decide) hx_57 (by omega) (by decide) (hz) ?_
            refine q_i2l rfl ?_
            refine q_ldiv rfl (nI_l0 h0 (by omega)) ?_
            refine q_l2i rfl ?_
            refine q_callV1 rfl hx_51 (Nat.le_of_ble_eq_true rfl) (Nat.le_of_ble_eq_true rfl) (sX9_tell _) ?_
            refine q_iret rfl rfl ?_
            exact ⟨rfl, rfl⟩
          · omega
      · omega
    · omega
  · exact absurd hc4 (by decide)
theorem m_put_bad {X : XX} {I A : Nat → Nat → Int32} {J B : Nat → Nat → Int64} {F : Nat → Nat} (x : Int32) (hx : x < 0 ∨ 4 ≤ x) (i v : Int32) : x_ev X xT 3 165 [.ref 51, .int x, .int i, .int v] (HX I A J B F) (some (.int (-1))) (HX I A J B F) := by
  refine q_ev (L := [some (.ref 51), some (.int x), some (.int i), some (.int v), none]) tX9_put (Nat.le_of_ble_eq_true rfl) rfl ?_
  refine q_iload_n rfl rfl ?_
  refine q_callS1 rfl rfl (Nat.le_of_ble_eq_true rfl) (Nat.le_of_ble_eq_true rfl) (sX9_isText_0 x hx) ?_
  refine q_if_neN rfl (by omega) (fun hc4 => ?_) (fun hc4 => ?_)
  · exact absurd hc4 (by decide)
  · refine q_iconst (v := (-1)) rfl rfl ?_
    refine q_iret rfl rfl ?_
    exact ⟨rfl, rfl⟩
theorem m_put_M {X : XX} {I A : Nat → Nat → Int32} {J B : Nat → Nat → Int64} {F : Nat → Nat} (t : Nat) (ht : t < 4) (hz : A 59 t = -1) (i v : Int32) : x_ev X xT 3 165 [.ref 51, .int (nI t), .int i, .int v] (HX I A J B F) (some (.int (-3))) (HX (u2 I 51 15 (nI 1)) (f_cnt A 61 1) J B F) := by
  refine q_ev (L := [some (.ref 51), some (.int (nI t)), some (.int i), some (.int v), none]) tX9_put (Nat.le_of_ble_eq_true rfl) rfl ?_
  refine q_iload_n rfl rfl ?_
  refine q_callS1 rfl rfl (Nat.le_of_ble_eq_true rfl) (Nat.le_of_ble_eq_true rfl) (sX9_isText_1 t ht) ?_
  refine q_if_neN rfl (by omega) (fun hc4 => ?_) (fun hc4 => ?_)
  · refine q_aload_n rfl rfl ?_
    refine q_getfield rfl hx_51 rfl ?_
    refine q_iload_n rfl rfl ?_
    refine q_iald rfl (by decide) hx_59 (by omega) (by decide) (hz) ?_
    refine q_if_ge rfl (fun hc15 => ?_) (fun hc15 => ?_)
    · exact absurd hc15 (by decide)
    · refine q_aload_n rfl rfl ?_
      refine q_iconst (v := nI 1) rfl rfl ?_
      refine q_callV1 rfl hx_51 (Nat.le_of_ble_eq_true rfl) (Nat.le_of_ble_eq_true rfl) (sX9_find 1 (by decide)) ?_
      refine q_iret rfl rfl ?_
      exact ⟨rfl, rfl⟩
  · exact absurd hc4 (by decide)
theorem m_put_B {X : XX} {I A : Nat → Nat → Int32} {J B : Nat → Nat → Int64} {F : Nat → Nat} (t : Nat) (ht : t < 4) (k : Nat) (hk : k ≤ 60) (hz : A 59 t = nI k) (i v : Int32) (hi : i < 0 ∨ nI k ≤ i) : x_ev X xT 3 165 [.ref 51, .int (nI t), .int i, .int v] (HX I A J B F) (some (.int (-3))) (HX (u2 I 51 15 (nI 2)) (f_cnt A 61 2) J B F) := by
  refine q_ev (L := [some (.ref 51), some (.int (nI t)), some (.int i), some (.int v), none]) tX9_put (Nat.le_of_ble_eq_true rfl) rfl ?_
  refine q_iload_n rfl rfl ?_
  refine q_callS1 rfl rfl (Nat.le_of_ble_eq_true rfl) (Nat.le_of_ble_eq_true rfl) (sX9_isText_1 t ht) ?_
  refine q_if_neN rfl (by omega) (fun hc4 => ?_) (fun hc4 => ?_)
  · refine q_aload_n rfl rfl ?_
    refine q_getfield rfl hx_51 rfl ?_
    refine q_iload_n rfl rfl ?_
    refine q_iald rfl (by decide) hx_59 (by omega) (by decide) (hz) ?_
    refine q_if_geN rfl (by omega) (fun hc15 => ?_) (fun hc15 => ?_)
    · refine q_iload_n rfl rfl ?_
      refine q_i2l rfl ?_
      refine q_lconst (v := 0) rfl rfl ?_
      refine q_aload_n rfl rfl ?_
      refine q_getfield rfl hx_51 rfl ?_
      refine q_iload_n rfl rfl ?_
      refine q_iald rfl (by decide) hx_59 (by omega) (by decide) (hz) ?_
      refine q_iconst (v := nI 1) rfl rfl ?_
      refine q_isub rfl ?_
      refine q_i2l rfl ?_
      refine q_callS3 rfl rfl (Nat.le_of_ble_eq_true rfl) (Nat.le_of_ble_eq_true rfl) (sX9_in _ _ _) ?_
      refine q_cn (f_in_0 (lo := 0) rfl rfl (by by_cases z : i < 0; exact Or.inl z; exact Or.inr (f_ltm (by omega) z (hi.resolve_left z)))) ?_
      refine q_if_neN rfl (by omega) (fun hc39 => ?_) (fun hc39 => ?_)
      · exact absurd hc39 (by decide)
      · refine q_aload_n rfl rfl ?_
        refine q_iconst (v := nI 2) rfl rfl ?_
        refine q_callV1 rfl hx_51 (Nat.le_of_ble_eq_true rfl) (Nat.le_of_ble_eq_true rfl) (sX9_find 2 (by decide)) ?_
        refine q_iret rfl rfl ?_
        exact ⟨rfl, rfl⟩
    · omega
  · exact absurd hc4 (by decide)
theorem m_put_0 {X : XX} {I A : Nat → Nat → Int32} {J B : Nat → Nat → Int64} {F : Nat → Nat} (t : Nat) (ht : t < 4) (k : Nat) (hk : k ≤ 60) (hz : A 59 t = nI k) (j : Nat) (hj : j < k) (v : Int32) : x_ev X xT 3 165 [.ref 51, .int (nI t), .int (nI j), .int v] (HX I A J B F) (some (.int (A 60 (60 * t + j) + nI 1000))) (HX I (ua A 60 (upd (A 60) (60 * t + j) v.toInt8.toInt32)) J B F) := by
  refine q_ev (L := [some (.ref 51), some (.int (nI t)), some (.int (nI j)), some (.int v), none]) tX9_put (Nat.le_of_ble_eq_true rfl) rfl ?_
  refine q_iload_n rfl rfl ?_
  refine q_callS1 rfl rfl (Nat.le_of_ble_eq_true rfl) (Nat.le_of_ble_eq_true rfl) (sX9_isText_1 t ht) ?_
  refine q_if_neN rfl (by omega) (fun hc4 => ?_) (fun hc4 => ?_)
  · refine q_aload_n rfl rfl ?_
    refine q_getfield rfl hx_51 rfl ?_
    refine q_iload_n rfl rfl ?_
    refine q_iald rfl (by decide) hx_59 (by omega) (by decide) (hz) ?_
    refine q_if_geN rfl (by omega) (fun hc15 => ?_) (fun hc15 => ?_)
    · refine q_iload_n rfl rfl ?_
      refine q_i2l rfl ?_
      refine q_lconst (v := 0) rfl rfl ?_
      refine q_aload_n rfl rfl ?_
      refine q_getfield rfl hx_51 rfl ?_
      refine q_iload_n rfl rfl ?_
      refine q_iald rfl (by decide) hx_59 (by omega) (by decide) (hz) ?_
      refine q_iconst (v := nI 1) rfl rfl ?_
      refine q_isub rfl ?_
      refine q_i2l rfl ?_
      refine q_callS3 rfl rfl (Nat.le_of_ble_eq_true rfl) (Nat.le_of_ble_eq_true rfl) (sX9_in _ _ _) ?_
      refine q_cn (f_in_1 (lo := nI 0) rfl rfl (nI_pos (by omega)) (f_nltm hj (by omega))) ?_
      refine q_if_neN rfl (by omega) (fun hc39 => ?_) (fun hc39 => ?_)
      · refine q_aload_n rfl rfl ?_
        refine q_getfield rfl hx_51 rfl ?_
        refine q_bipush (v := nI 60) rfl rfl ?_
        refine q_iload_n rfl rfl ?_
        refine q_imulN rfl ?_
        refine q_iload_n rfl rfl ?_
        refine q_iaddN rfl ?_
        refine q_iald rfl (by decide) hx_60 (by omega) (by decide) (rfl) ?_
        refine q_istore (L' := [_, _, _, _, _]) rfl rfl ?_
        refine q_aload_n rfl rfl ?_
        refine q_getfield rfl hx_51 rfl ?_
        refine q_bipush (v := nI 60) rfl rfl ?_
        refine q_iload_n rfl rfl ?_
        refine q_imulN rfl ?_
        refine q_iload_n rfl rfl ?_
        refine q_iaddN rfl ?_
        refine q_iload_n rfl rfl ?_
        refine q_i2b rfl ?_
        refine q_iastN rfl hx_60 (by omega) (by decide) ?_
        refine q_heap (ha_60 _) ?_
        refine q_iload rfl rfl ?_
        refine q_sipush (v := nI 1000) rfl rfl ?_
        refine q_iadd rfl ?_
        refine q_iret rfl rfl ?_
        exact ⟨rfl, rfl⟩
      · exact absurd hc39 (by decide)
    · omega
  · exact absurd hc4 (by decide)
theorem ls_add {a b : Nat} (ha : a < 2 ^ 31) (hb : b < 2 ^ 31) : (nI a).toInt64 + (nI b).toInt64 = lN (a + b) := by
  rw [nI_l ha, nI_l hb]
  exact (Int64.ofNat_add a b).symm
theorem ls_gt {a b k : Nat} (ha : a < 2 ^ 31) (hb : b < 2 ^ 31) (hk : k < 2 ^ 31) : 0 < lg_cmp ((nI a).toInt64 + (nI b).toInt64) (nI k).toInt64 ↔ k < a + b := by
  rw [ls_add ha hb, nI_l hk, lg_gt, pk_lLT (by omega) (by omega)]
theorem m_isSpan_0 {X : XX} {I A : Nat → Nat → Int32} {J B : Nat → Nat → Int64} {F : Nat → Nat} (q : Nat) (hr : q < 6) (k : Nat) (hk : k ≤ 40) (hz : A 57 q = nI k) (i : Int32) (n : Nat) (hn : n < 2 ^ 31) (hi : i < 0 ∨ ∃ a, a < 2 ^ 31 ∧ i = nI a ∧ k < a + n) : x_ev X xT 1 161 [.ref 51, .int (nI q), .int i, .int (nI n)] (HX I A J B F) (some (.int (nI 0))) (HX I A J B F) := by
  refine q_ev (L := [some (.ref 51), some (.int (nI q)), some (.int i), some (.int (nI n))]) tX9_isSpan (Nat.le_of_ble_eq_true rfl) rfl ?_
  refine q_iload_n rfl rfl ?_
  refine q_if_lt rfl (fun hc1 => ?_) (fun hc1 => ?_)
  · refine q_iconst (v := nI 0) rfl rfl ?_
    refine q_zret rfl rfl (by decide) ?_
    exact ⟨rfl, rfl⟩
  · refine q_iload_n rfl rfl ?_
    refine q_i2l rfl ?_
    refine q_iload_n rfl rfl ?_
    refine q_i2l rfl ?_
    refine q_ladd rfl ?_
    refine q_aload_n rfl rfl ?_
    refine q_getfield rfl hx_51 rfl ?_
    refine q_iload_n rfl rfl ?_
    refine q_iald rfl (by decide) hx_57 (by omega) (by decide) (hz) ?_
    refine q_i2l rfl ?_
    refine q_lcmp rfl ?_
    refine q_if_gt rfl (fun hc17 => ?_) (fun hc17 => ?_)
    · refine q_iconst (v := nI 0) rfl rfl ?_
      refine q_zret rfl rfl (by decide) ?_
      exact ⟨rfl, rfl⟩
    · exact absurd (by obtain ⟨a, ha, rfl, hac⟩ := hi.resolve_left hc1; exact (ls_gt ha hn (by omega)).mpr hac) hc17
theorem m_isSpan_1 {X : XX} {I A : Nat → Nat → Int32} {J B : Nat → Nat → Int64} {F : Nat → Nat} (q : Nat) (hr : q < 6) (k : Nat) (hk : k ≤ 40) (hz : A 57 q = nI k) (i : Nat) (n : Nat) (hi : i + n ≤ k) : x_ev X xT 1 161 [.ref 51, .int (nI q), .int (nI i), .int (nI n)] (HX I A J B F) (some (.int (nI 1))) (HX I A J B F) := by
  refine q_ev (L := [some (.ref 51), some (.int (nI q)), some (.int (nI i)), some (.int (nI n))]) tX9_isSpan (Nat.le_of_ble_eq_true rfl) rfl ?_
  refine q_iload_n rfl rfl ?_
  refine q_if_ltN rfl (by omega) (fun hc1 => ?_) (fun hc1 => ?_)
  · omega
  · refine q_iload_n rfl rfl ?_
    refine q_i2l rfl ?_
    refine q_iload_n rfl rfl ?_
    refine q_i2l rfl ?_
    refine q_ladd rfl ?_
    refine q_aload_n rfl rfl ?_
    refine q_getfield rfl hx_51 rfl ?_
    refine q_iload_n rfl rfl ?_
    refine q_iald rfl (by decide) hx_57 (by omega) (by decide) (hz) ?_
    refine q_i2l rfl ?_
    refine q_lcmp rfl ?_
    refine q_if_gt rfl (fun hc17 => ?_) (fun hc17 => ?_)
    · exact absurd ((ls_gt (by omega) (by omega) (by omega)).mp hc17) (by omega)
    · refine q_iconst (v := nI 1) rfl rfl ?_
      refine q_goto rfl ?_
      refine q_zret rfl rfl (by decide) ?_
      exact ⟨rfl, rfl⟩
theorem m_copy_b {X : XX} {I A : Nat → Nat → Int32} {J B : Nat → Nat → Int64} {F : Nat → Nat} (x : Int32) (hx : x < 0 ∨ 6 ≤ x) (y i j n : Int32) : x_ev X xT 3 162 [.ref 51, .int x, .int i, .int y, .int j, .int n] (HX I A J B F) (some (.int (-1))) (HX I A J B F) := by
  refine q_ev (L := [some (.ref 51), some (.int x), some (.int i), some (.int y), some (.int j), some (.int n), none, none, none]) tX9_copy (Nat.le_of_ble_eq_true rfl) rfl ?_
  refine q_iload_n rfl rfl ?_
  refine q_callS1 rfl rfl (Nat.le_of_ble_eq_true rfl) (Nat.le_of_ble_eq_true rfl) (sX9_isRow_0 x hx) ?_
  refine q_if_eqN rfl (by omega) (fun hc4 => ?_) (fun hc4 => ?_)
  · refine q_iconst (v := (-1)) rfl rfl ?_
    refine q_iret rfl rfl ?_
    exact ⟨rfl, rfl⟩
  · exact absurd hc4 (by decide)
theorem m_copy_ob {X : XX} {I A : Nat → Nat → Int32} {J B : Nat → Nat → Int64} {F : Nat → Nat} (q : Nat) (hr : q < 6) (y i j n : Int32) (hy : y < 0 ∨ 6 ≤ y) : x_ev X xT 3 162 [.ref 51, .int (nI q), .int i, .int y, .int j, .int n] (HX I A J B F) (some (.int (-1))) (HX I A J B F) := by
  refine q_ev (L := [some (.ref 51), some (.int (nI q)), some (.int i), some (.int y), some (.int j), some (.int n), none, none, none]) tX9_copy (Nat.le_of_ble_eq_true rfl) rfl ?_
  refine q_iload_n rfl rfl ?_
  refine q_callS1 rfl rfl (Nat.le_of_ble_eq_true rfl) (Nat.le_of_ble_eq_true rfl) (sX9_isRow_1 q hr) ?_
  refine q_if_eqN rfl (by omega) (fun hc4 => ?_) (fun hc4 => ?_)
  · exact absurd hc4 (by decide)
  · refine q_iload_n rfl rfl ?_
    refine q_callS1 rfl rfl (Nat.le_of_ble_eq_true rfl) (Nat.le_of_ble_eq_true rfl) (sX9_isRow_0 y hy) ?_
    refine q_if_neN rfl (by omega) (fun hc11 => ?_) (fun hc11 => ?_)
    · exact absurd hc11 (by decide)
    · refine q_iconst (v := (-1)) rfl rfl ?_
      refine q_iret rfl rfl ?_
      exact ⟨rfl, rfl⟩
theorem m_copy_S {X : XX} {I A : Nat → Nat → Int32} {J B : Nat → Nat → Int64} {F : Nat → Nat} (q : Nat) (hr : q < 6) (p : Nat) (hp : p < 6) (i j n : Int32) (hn : n < 0) : x_ev X xT 3 162 [.ref 51, .int (nI q), .int i, .int (nI p), .int j, .int n] (HX I A J B F) (some (.int (-3))) (HX (u2 I 51 15 (nI 5)) (f_cnt A 61 5) J B F) := by
  refine q_ev (L := [some (.ref 51), some (.int (nI q)), some (.int i), some (.int (nI p)), some (.int j), some (.int n), none, none, none]) tX9_copy (Nat.le_of_ble_eq_true rfl) rfl ?_
  refine q_iload_n rfl rfl ?_
  refine q_callS1 rfl rfl (Nat.le_of_ble_eq_true rfl) (Nat.le_of_ble_eq_true rfl) (sX9_isRow_1 q hr) ?_
  refine q_if_eqN rfl (by omega) (fun hc4 => ?_) (fun hc4 => ?_)
  · exact absurd hc4 (by decide)
  · refine q_iload_n rfl rfl ?_
    refine q_callS1 rfl rfl (Nat.le_of_ble_eq_true rfl) (Nat.le_of_ble_eq_true rfl) (sX9_isRow_1 p hp) ?_
    refine q_if_neN rfl (by omega) (fun hc11 => ?_) (fun hc11 => ?_)
    · refine q_iload rfl rfl ?_
      refine q_if_ge rfl (fun hc18 => ?_) (fun hc18 => ?_)
      · exact absurd hn (Int32.not_lt.mpr hc18)
      · refine q_aload_n rfl rfl ?_
        refine q_iconst (v := nI 5) rfl rfl ?_
        refine q_callV1 rfl hx_51 (Nat.le_of_ble_eq_true rfl) (Nat.le_of_ble_eq_true rfl) (sX9_find 5 (by decide)) ?_
        refine q_iret rfl rfl ?_
        exact ⟨rfl, rfl⟩
    · exact absurd hc11 (by decide)
theorem m_copy_M1 {X : XX} {I A : Nat → Nat → Int32} {J B : Nat → Nat → Int64} {F : Nat → Nat} (q : Nat) (hr : q < 6) (p : Nat) (hp : p < 6) (i j : Int32) (n : Nat) (hn : n < 2 ^ 31) (hz : A 57 q = -1)  : x_ev X xT 3 162 [.ref 51, .int (nI q), .int i, .int (nI p), .int j, .int (nI n)] (HX I A J B F) (some (.int (-3))) (HX (u2 I 51 15 (nI 1)) (f_cnt A 61 1) J B F) := by
  refine q_ev (L := [some (.ref 51), some (.int (nI q)), some (.int i), some (.int (nI p)), some (.int j), some (.int (nI n)), none, none, none]) tX9_copy (Nat.le_of_ble_eq_true rfl) rfl ?_
  refine q_iload_n rfl rfl ?_
  refine q_callS1 rfl rfl (Nat.le_of_ble_eq_true rfl) (Nat.le_of_ble_eq_true rfl) (sX9_isRow_1 q hr) ?_
  refine q_if_eqN rfl (by omega) (fun hc4 => ?_) (fun hc4 => ?_)
  · exact absurd hc4 (by decide)
  · refine q_iload_n rfl rfl ?_
    refine q_callS1 rfl rfl (Nat.le_of_ble_eq_true rfl) (Nat.le_of_ble_eq_true rfl) (sX9_isRow_1 p hp) ?_
    refine q_if_neN rfl (by omega) (fun hc11 => ?_) (fun hc11 => ?_)
    · refine q_iload rfl rfl ?_
      refine q_if_geN rfl (by omega) (fun hc18 => ?_) (fun hc18 => ?_)
      · refine q_aload_n rfl rfl ?_
        refine q_getfield rfl hx_51 rfl ?_
        refine q_iload_n rfl rfl ?_
        refine q_iald rfl (by decide) hx_57 (by omega) (by decide) (hz) ?_
        refine q_if_lt rfl (fun hc33 => ?_) (fun hc33 => ?_)
        · refine q_aload_n rfl rfl ?_
          refine q_iconst (v := nI 1) rfl rfl ?_
          refine q_callV1 rfl hx_51 (Nat.le_of_ble_eq_true rfl) (Nat.le_of_ble_eq_true rfl) (sX9_find 1 (by decide)) ?_
          refine q_iret rfl rfl ?_
          exact ⟨rfl, rfl⟩
        · exact absurd hc33 (by decide)
      · omega
    · exact absurd hc11 (by decide)
theorem m_copy_M2 {X : XX} {I A : Nat → Nat → Int32} {J B : Nat → Nat → Int64} {F : Nat → Nat} (q : Nat) (hr : q < 6) (p : Nat) (hp : p < 6) (i j : Int32) (n : Nat) (hn : n < 2 ^ 31) (k : Nat) (hk : k ≤ 40) (hz : A 57 q = nI k) (hz2 : A 57 p = -1)  : x_ev X xT 3 162 [.ref 51, .int (nI q), .int i, .int (nI p), .int j, .int (nI n)] (HX I A J B F) (some (.int (-3))) (HX (u2 I 51 15 (nI 1)) (f_cnt A 61 1) J B F) := by
  refine q_ev (L := [some (.ref 51), some (.int (nI q)), some (.int i), some (.int (nI p)), some (.int j), some (.int (nI n)), none, none, none]) tX9_copy (Nat.le_of_ble_eq_true rfl) rfl ?_
  refine q_iload_n rfl rfl ?_
  refine q_callS1 rfl rfl (Nat.le_of_ble_eq_true rfl) (Nat.le_of_ble_eq_true rfl) (sX9_isRow_1 q hr) ?_
  refine q_if_eqN rfl (by omega) (fun hc4 => ?_) (fun hc4 => ?_)
  · exact absurd hc4 (by decide)
  · refine q_iload_n rfl rfl ?_
    refine q_callS1 rfl rfl (Nat.le_of_ble_eq_true rfl) (Nat.le_of_ble_eq_true rfl) (sX9_isRow_1 p hp) ?_
    refine q_if_neN rfl (by omega) (fun hc11 => ?_) (fun hc11 => ?_)
    · refine q_iload rfl rfl ?_
      refine q_if_geN rfl (by omega) (fun hc18 => ?_) (fun hc18 => ?_)
      · refine q_aload_n rfl rfl ?_
        refine q_getfield rfl hx_51 rfl ?_
        refine q_iload_n rfl rfl ?_
        refine q_iald rfl (by decide) hx_57 (by omega) (by decide) (hz) ?_
        refine q_if_ltN rfl (by omega) (fun hc33 => ?_) (fun hc33 => ?_)
        · omega
        · refine q_aload_n rfl rfl ?_
          refine q_getfield rfl hx_51 rfl ?_
          refine q_iload_n rfl rfl ?_
          refine q_iald rfl (by decide) hx_57 (by omega) (by decide) (hz2) ?_
          refine q_if_ge rfl (fun hc42 => ?_) (fun hc42 => ?_)
          · exact absurd hc42 (by decide)
          · refine q_aload_n rfl rfl ?_
            refine q_iconst (v := nI 1) rfl rfl ?_
            refine q_callV1 rfl hx_51 (Nat.le_of_ble_eq_true rfl) (Nat.le_of_ble_eq_true rfl) (sX9_find 1 (by decide)) ?_
            refine q_iret rfl rfl ?_
            exact ⟨rfl, rfl⟩
      · omega
    · exact absurd hc11 (by decide)
theorem m_copy_B1 {X : XX} {I A : Nat → Nat → Int32} {J B : Nat → Nat → Int64} {F : Nat → Nat} (q : Nat) (hr : q < 6) (p : Nat) (hp : p < 6) (i j : Int32) (n : Nat) (hn : n < 2 ^ 31) (k : Nat) (hk : k ≤ 40) (hz : A 57 q = nI k) (k2 : Nat) (hk2 : k2 ≤ 40) (hz2 : A 57 p = nI k2) (hi : i < 0 ∨ ∃ a, a < 2 ^ 31 ∧ i = nI a ∧ k < a + n) : x_ev X xT 3 162 [.ref 51, .int (nI q), .int i, .int (nI p), .int j, .int (nI n)] (HX I A J B F) (some (.int (-3))) (HX (u2 I 51 15 (nI 2)) (f_cnt A 61 2) J B F) := by
  refine q_ev (L := [some (.ref 51), some (.int (nI q)), some (.int i), some (.int (nI p)), some (.int j), some (.int (nI n)), none, none, none]) tX9_copy (Nat.le_of_ble_eq_true rfl) rfl ?_
  refine q_iload_n rfl rfl ?_
  refine q_callS1 rfl rfl (Nat.le_of_ble_eq_true rfl) (Nat.le_of_ble_eq_true rfl) (sX9_isRow_1 q hr) ?_
  refine q_if_eqN rfl (by omega) (fun hc4 => ?_) (fun hc4 => ?_)
  · exact absurd hc4 (by decide)
  · refine q_iload_n rfl rfl ?_
    refine q_callS1 rfl rfl (Nat.le_of_ble_eq_true rfl) (Nat.le_of_ble_eq_true rfl) (sX9_isRow_1 p hp) ?_
    refine q_if_neN rfl (by omega) (fun hc11 => ?_) (fun hc11 => ?_)
    · refine q_iload rfl rfl ?_
      refine q_if_geN rfl (by omega) (fun hc18 => ?_) (fun hc18 => ?_)
      · refine q_aload_n rfl rfl ?_
        refine q_getfield rfl hx_51 rfl ?_
        refine q_iload_n rfl rfl ?_
        refine q_iald rfl (by decide) hx_57 (by omega) (by decide) (hz) ?_
        refine q_if_ltN rfl (by omega) (fun hc33 => ?_) (fun hc33 => ?_)
        · omega
        · refine q_aload_n rfl rfl ?_
          refine q_getfield rfl hx_51 rfl ?_
          refine q_iload_n rfl rfl ?_
          refine q_iald rfl (by decide) hx_57 (by omega) (by decide) (hz2) ?_
          refine q_if_geN rfl (by omega) (fun hc42 => ?_) (fun hc42 => ?_)
          · refine q_aload_n rfl rfl ?_
            refine q_iload_n rfl rfl ?_
            refine q_iload_n rfl rfl ?_
            refine q_iload rfl rfl ?_
            refine q_callV3 rfl hx_51 (Nat.le_of_ble_eq_true rfl) (Nat.le_of_ble_eq_true rfl) (m_isSpan_0 q hr k hk hz i n hn hi) ?_
            refine q_if_eqN rfl (by omega) (fun hc59 => ?_) (fun hc59 => ?_)
            · refine q_aload_n rfl rfl ?_
              refine q_iconst (v := nI 2) rfl rfl ?_
              refine q_callV1 rfl hx_51 (Nat.le_of_ble_eq_true rfl) (Nat.le_of_ble_eq_true rfl) (sX9_find 2 (by decide)) ?_
              refine q_iret rfl rfl ?_
              exact ⟨rfl, rfl⟩
            · exact absurd hc59 (by decide)
          · omega
      · omega
    · exact absurd hc11 (by decide)
theorem m_copy_B2 {X : XX} {I A : Nat → Nat → Int32} {J B : Nat → Nat → Int64} {F : Nat → Nat} (q : Nat) (hr : q < 6) (p : Nat) (hp : p < 6) (i : Nat) (j : Int32) (n : Nat) (hn : n < 2 ^ 31) (k : Nat) (hk : k ≤ 40) (hz : A 57 q = nI k) (k2 : Nat) (hk2 : k2 ≤ 40) (hz2 : A 57 p = nI k2) (hi : i + n ≤ k) (hj : j < 0 ∨ ∃ a, a < 2 ^ 31 ∧ j = nI a ∧ k2 < a + n) : x_ev X xT 3 162 [.ref 51, .int (nI q), .int (nI i), .int (nI p), .int j, .int (nI n)] (HX I A J B F) (some (.int (-3))) (HX (u2 I 51 15 (nI 2)) (f_cnt A 61 2) J B F) := by
  refine q_ev (L := [some (.ref 51), some (.int (nI q)), some (.int (nI i)), some (.int (nI p)), some (.int j), some (.int (nI n)), none, none, none]) tX9_copy (Nat.le_of_ble_eq_true rfl) rfl ?_
  refine q_iload_n rfl rfl ?_
  refine q_callS1 rfl rfl (Nat.le_of_ble_eq_true rfl) (Nat.le_of_ble_eq_true rfl) (sX9_isRow_1 q hr) ?_
  refine q_if_eqN rfl (by omega) (fun hc4 => ?_) (fun hc4 => ?_)
  · exact absurd hc4 (by decide)
  · refine q_iload_n rfl rfl ?_
    refine q_callS1 rfl rfl (Nat.le_of_ble_eq_true rfl) (Nat.le_of_ble_eq_true rfl) (sX9_isRow_1 p hp) ?_
    refine q_if_neN rfl (by omega) (fun hc11 => ?_) (fun hc11 => ?_)
    · refine q_iload rfl rfl ?_
      refine q_if_geN rfl (by omega) (fun hc18 => ?_) (fun hc18 => ?_)
      · refine q_aload_n rfl rfl ?_
        refine q_getfield rfl hx_51 rfl ?_
        refine q_iload_n rfl rfl ?_
        refine q_iald rfl (by decide) hx_57 (by omega) (by decide) (hz) ?_
        refine q_if_ltN rfl (by omega) (fun hc33 => ?_) (fun hc33 => ?_)
        · omega
        · refine q_aload_n rfl rfl ?_
          refine q_getfield rfl hx_51 rfl ?_
          refine q_iload_n rfl rfl ?_
          refine q_iald rfl (by decide) hx_57 (by omega) (by decide) (hz2) ?_
          refine q_if_geN rfl (by omega) (fun hc42 => ?_) (fun hc42 => ?_)
          · refine q_aload_n rfl rfl ?_
            refine q_iload_n rfl rfl ?_
            refine q_iload_n rfl rfl ?_
            refine q_iload rfl rfl ?_
            refine q_callV3 rfl hx_51 (Nat.le_of_ble_eq_true rfl) (Nat.le_of_ble_eq_true rfl) (m_isSpan_1 q hr k hk hz i n hi) ?_
            refine q_if_eqN rfl (by omega) (fun hc59 => ?_) (fun hc59 => ?_)
            · exact absurd hc59 (by decide)
            · refine q_aload_n rfl rfl ?_
              refine q_iload_n rfl rfl ?_
              refine q_iload rfl rfl ?_
              refine q_iload rfl rfl ?_
              refine q_callV3 rfl hx_51 (Nat.le_of_ble_eq_true rfl) (Nat.le_of_ble_eq_true rfl) (m_isSpan_0 p hp k2 hk2 hz2 j n hn hj) ?_
              refine q_if_neN rfl (by omega) (fun hc71 => ?_) (fun hc71 => ?_)
              · exact absurd hc71 (by decide)
              · refine q_aload_n rfl rfl ?_
                refine q_iconst (v := nI 2) rfl rfl ?_
                refine q_callV1 rfl hx_51 (Nat.le_of_ble_eq_true rfl) (Nat.le_of_ble_eq_true rfl) (sX9_find 2 (by decide)) ?_
                refine q_iret rfl rfl ?_
                exact ⟨rfl, rfl⟩
          · omega
      · omega
    · exact absurd hc11 (by decide)
theorem m_copy_0f {X : XX} {I A : Nat → Nat → Int32} {J B : Nat → Nat → Int64} {F : Nat → Nat} (q : Nat) (hr : q < 6) (p : Nat) (hp : p < 6) (i j n : Nat) (k : Nat) (hk : k ≤ 40) (hz : A 57 q = nI k) (k2 : Nat) (hk2 : k2 ≤ 40) (hz2 : A 57 p = nI k2) (hi : i + n ≤ k) (hj : j + n ≤ k2) (hb : j ≤ i) : x_ev X xT 3 162 [.ref 51, .int (nI q), .int (nI i), .int (nI p), .int (nI j), .int (nI n)] (HX I A J B F) (some (.int (nI 1))) (HX I (ua A 58 (va_cpy (A 58) (A 58) (40 * q + i) (40 * p + j) n)) J B F) := by
  refine q_ev (L := [some (.ref 51), some (.int (nI q)), some (.int (nI i)), some (.int (nI p)), some (.int (nI j)), some (.int (nI n)), none, none, none]) tX9_copy (Nat.le_of_ble_eq_true rfl) rfl ?_
  refine q_iload_n rfl rfl ?_
  refine q_callS1 rfl rfl (Nat.le_of_ble_eq_true rfl) (Nat.le_of_ble_eq_true rfl) (sX9_isRow_1 q hr) ?_
  refine q_if_eqN rfl (by omega) (fun hc4 => ?_) (fun hc4 => ?_)
  · exact absurd hc4 (by decide)
  · refine q_iload_n rfl rfl ?_
    refine q_callS1 rfl rfl (Nat.le_of_ble_eq_true rfl) (Nat.le_of_ble_eq_true rfl) (sX9_isRow_1 p hp) ?_
    refine q_if_neN rfl (by omega) (fun hc11 => ?_) (fun hc11 => ?_)
    · refine q_iload rfl rfl ?_
      refine q_if_geN rfl (by omega) (fun hc18 => ?_) (fun hc18 => ?_)
      · refine q_aload_n rfl rfl ?_
        refine q_getfield rfl hx_51 rfl ?_
        refine q_iload_n rfl rfl ?_
        refine q_iald rfl (by decide) hx_57 (by omega) (by decide) (hz) ?_
        refine q_if_ltN rfl (by omega) (fun hc33 => ?_) (fun hc33 => ?_)
        · omega
        · refine q_aload_n rfl rfl ?_
          refine q_getfield rfl hx_51 rfl ?_
          refine q_iload_n rfl rfl ?_
          refine q_iald rfl (by decide) hx_57 (by omega) (by decide) (hz2) ?_
          refine q_if_geN rfl (by omega) (fun hc42 => ?_) (fun hc42 => ?_)
          · refine q_aload_n rfl rfl ?_
            refine q_iload_n rfl rfl ?_
            refine q_iload_n rfl rfl ?_
            refine q_iload rfl rfl ?_
            refine q_callV3 rfl hx_51 (Nat.le_of_ble_eq_true rfl) (Nat.le_of_ble_eq_true rfl) (m_isSpan_1 q hr k hk hz i n hi) ?_
            refine q_if_eqN rfl (by omega) (fun hc59 => ?_) (fun hc59 => ?_)
            · exact absurd hc59 (by decide)
            · refine q_aload_n rfl rfl ?_
              refine q_iload_n rfl rfl ?_
              refine q_iload rfl rfl ?_
              refine q_iload rfl rfl ?_
              refine q_callV3 rfl hx_51 (Nat.le_of_ble_eq_true rfl) (Nat.le_of_ble_eq_true rfl) (m_isSpan_1 p hp k2 hk2 hz2 j n hj) ?_
              refine q_if_neN rfl (by omega) (fun hc71 => ?_) (fun hc71 => ?_)
              · refine q_iload_n rfl rfl ?_
                refine q_iload rfl rfl ?_
                refine q_icmp_geN rfl (by omega) (by omega) (fun hc83 => ?_) (fun hc83 => ?_)
                · refine q_iconst (v := nI 0) rfl rfl ?_
                  refine q_istore (L' := [_, _, _, _, _, _, _, _, _]) rfl rfl ?_
                  refine q_iconst (v := nI 0) rfl rfl ?_
                  refine q_istore (L' := [_, _, _, _, _, _, _, _, _]) rfl rfl ?_
                  refine q_up (Inv := fun k_ L h => ∃ z, L = [some (.ref 51), some (.int (nI q)), some (.int (nI i)), some (.int (nI p)), some (.int (nI j)), some (.int (nI n)), some (.int (nI 0)), some (.int (nI k_)), z] ∧ h = HX I (ua A 58 (f_mf (A 58) (40 * q + i) (40 * p + j) k_)) J B F) (n) (fun k_ L h hk_k_ hi_k_ ih_k_ => ?_) (fun L h hi_k_ => ?_) (0) _ _ (by omega) (⟨_, rfl, by rw [f_mf_0, ua_self rfl]⟩)
                  · obtain ⟨z, rfl, rfl⟩ := hi_k_
                    refine q_iload rfl rfl ?_
                    refine q_iload rfl rfl ?_
                    refine q_icmp_geN rfl (by omega) (by omega) (fun hck_s100 => ?_) (fun hck_s100 => ?_)
                    · omega
                    · refine q_iload rfl rfl ?_
                      refine q_if_eqN rfl (by omega) (fun hck_s105 => ?_) (fun hck_s105 => ?_)
                      · refine q_iload rfl rfl ?_
                        refine q_istore (L' := [_, _, _, _, _, _, _, _, _]) rfl rfl ?_
                        refine q_aload_n rfl rfl ?_
                        refine q_getfield rfl hx_51 rfl ?_
                        refine q_bipush (v := nI 40) rfl rfl ?_
                        refine q_iload_n rfl rfl ?_
                        refine q_imulN rfl ?_
                        refine q_iload rfl rfl ?_
                        refine q_iaddN rfl ?_
                        refine q_iload rfl rfl ?_
                        refine q_iaddN rfl ?_
                        refine q_aload_n rfl rfl ?_
                        refine q_getfield rfl hx_51 rfl ?_
                        refine q_bipush (v := nI 40) rfl rfl ?_
                        refine q_iload_n rfl rfl ?_
                        refine q_imulN rfl ?_
                        refine q_iload_n rfl rfl ?_
                        refine q_iaddN rfl ?_
                        refine q_iload rfl rfl ?_
                        refine q_iaddN rfl ?_
                        refine q_iald rfl (by decide) hx_58 (by omega) (by decide) (rfl) ?_
                        refine q_iastN rfl hx_58 (by omega) (by decide) ?_
                        refine q_heap (ha_58 _) ?_
                        refine q_iincN (c := 1) (L' := [_, _, _, _, _, _, _, _, _]) rfl rfl rfl rfl ?_
                        refine q_goto rfl ?_
                        exact ih_k_ _ _ (⟨_, rfl, by rw [ua_ua, ua_eq, f_mf_u _ _ _ _ (by rcases Nat.lt_trichotomy q p with z | z | z <;> omega)]⟩)
                      · exact absurd hck_s105 (by decide)
                  · obtain ⟨z, rfl, rfl⟩ := hi_k_
                    rw [f_mf_cpy]
                    refine q_iload rfl rfl ?_
                    refine q_iload rfl rfl ?_
                    refine q_icmp_geN rfl (by omega) (by omega) (fun hck_f100 => ?_) (fun hck_f100 => ?_)
                    · refine q_iconst (v := nI 1) rfl rfl ?_
                      refine q_iret rfl rfl ?_
                      exact ⟨rfl, rfl⟩
                    · omega
                · omega
              · exact absurd hc71 (by decide)
          · omega
      · omega
    · exact absurd hc11 (by decide)
theorem m_copy_0b {X : XX} {I A : Nat → Nat → Int32} {J B : Nat → Nat → Int64} {F : Nat → Nat} (q : Nat) (hr : q < 6) (p : Nat) (hp : p < 6) (i j n : Nat) (k : Nat) (hk : k ≤ 40) (hz : A 57 q = nI k) (k2 : Nat) (hk2 : k2 ≤ 40) (hz2 : A 57 p = nI k2) (hi : i + n ≤ k) (hj : j + n ≤ k2) (hb : i < j) : x_ev X xT 3 162 [.ref 51, .int (nI q), .int (nI i), .int (nI p), .int (nI j), .int (nI n)] (HX I A J B F) (some (.int (nI 1))) (HX I (ua A 58 (va_cpy (A 58) (A 58) (40 * q + i) (40 * p + j) n)) J B F) := by
  refine q_ev (L := [some (.ref 51), some (.int (nI q)), some (.int (nI i)), some (.int (nI p)), some (.int (nI j)), some (.int (nI n)), none, none, none]) tX9_copy (Nat.le_of_ble_eq_true rfl) rfl ?_
  refine q_iload_n rfl rfl ?_
  refine q_callS1 rfl rfl (Nat.le_of_ble_eq_true rfl) (Nat.le_of_ble_eq_true rfl) (sX9_isRow_1 q hr) ?_
  refine q_if_eqN rfl (by omega) (fun hc4 => ?_) (fun hc4 => ?_)
  · exact absurd hc4 (by decide)
  · refine q_iload_n rfl rfl ?_
    refine q_callS1 rfl rfl (Nat.le_of_ble_eq_true rfl) (Nat.le_of_ble_eq_true rfl) (sX9_isRow_1 p hp) ?_
    refine q_if_neN rfl (by omega) (fun hc11 => ?_) (fun hc11 => ?_)
    · refine q_iload rfl rfl ?_
      refine q_if_geN rfl (by omega) (fun hc18 => ?_) (fun hc18 => ?_)
      · refine q_aload_n rfl rfl ?_
        refine q_getfield rfl hx_51 rfl ?_
        refine q_iload_n rfl rfl ?_
        refine q_iald rfl (by decide) hx_57 (by omega) (by decide) (hz) ?_
        refine q_if_ltN rfl (by omega) (fun hc33 => ?_) (fun hc33 => ?_)
        · omega
        · refine q_aload_n rfl rfl ?_
          refine q_getfield rfl hx_51 rfl ?_
          refine q_iload_n rfl rfl ?_
          refine q_iald rfl (by decide) hx_57 (by omega) (by decide) (hz2) ?_
          refine q_if_geN rfl (by omega) (fun hc42 => ?_) (fun hc42 => ?_)
          · refine q_aload_n rfl rfl ?_
            refine q_iload_n rfl rfl ?_
            refine q_iload_n rfl rfl ?_
            refine q_iload rfl rfl ?_
            refine q_callV3 rfl hx_51 (Nat.le_of_ble_eq_true rfl) (Nat.le_of_ble_eq_true rfl) (m_isSpan_1 q hr k hk hz i n hi) ?_
            refine q_if_eqN rfl (by omega) (fun hc59 => ?_) (fun hc59 => ?_)
            · exact absurd hc59 (by decide)
            · refine q_aload_n rfl rfl ?_
              refine q_iload_n rfl rfl ?_
              refine q_iload rfl rfl ?_
              refine q_iload rfl rfl ?_
              refine q_callV3 rfl hx_51 (Nat.le_of_ble_eq_true rfl) (Nat.le_of_ble_eq_true rfl) (m_isSpan_1 p hp k2 hk2 hz2 j n hj) ?_
              refine q_if_neN rfl (by omega) (fun hc71 => ?_) (fun hc71 => ?_)
              · refine q_iload_n rfl rfl ?_
                refine q_iload rfl rfl ?_
                refine q_icmp_geN rfl (by omega) (by omega) (fun hc83 => ?_) (fun hc83 => ?_)
                · omega
                · refine q_iconst (v := nI 1) rfl rfl ?_
                  refine q_goto rfl ?_
                  refine q_istore (L' := [_, _, _, _, _, _, _, _, _]) rfl rfl ?_
                  refine q_iconst (v := nI 0) rfl rfl ?_
                  refine q_istore (L' := [_, _, _, _, _, _, _, _, _]) rfl rfl ?_
                  refine q_up (Inv := fun k_ L h => ∃ z, L = [some (.ref 51), some (.int (nI q)), some (.int (nI i)), some (.int (nI p)), some (.int (nI j)), some (.int (nI n)), some (.int (nI 1)), some (.int (nI k_)), z] ∧ h = HX I (ua A 58 (f_mb (A 58) (40 * q + i) (40 * p + j) n k_)) J B F) (n) (fun k_ L h hk_k_ hi_k_ ih_k_ => ?_) (fun L h hi_k_ => ?_) (0) _ _ (by omega) (⟨_, rfl, by rw [f_mb_0, ua_self rfl]⟩)
                  · obtain ⟨z, rfl, rfl⟩ := hi_k_
                    refine q_iload rfl rfl ?_
                    refine q_iload rfl rfl ?_
                    refine q_icmp_geN rfl (by omega) (by omega) (fun hck_s100 => ?_) (fun hck_s100 => ?_)
                    · omega
                    · refine q_iload rfl rfl ?_
                      refine q_if_eqN rfl (by omega) (fun hck_s105 => ?_) (fun hck_s105 => ?_)
                      · exact absurd hck_s105 (by decide)
                      · refine q_iload rfl rfl ?_
                        refine q_iconst (v := nI 1) rfl rfl ?_
                        refine q_isubN rfl (by omega) ?_
                        refine q_iload rfl rfl ?_
                        refine q_isubN rfl (by omega) ?_
                        refine q_goto rfl ?_
                        refine q_istore (L' := [_, _, _, _, _, _, _, _, _]) rfl rfl ?_
                        refine q_aload_n rfl rfl ?_
                        refine q_getfield rfl hx_51 rfl ?_
                        refine q_bipush (v := nI 40) rfl rfl ?_
                        refine q_iload_n rfl rfl ?_
                        refine q_imulN rfl ?_
                        refine q_iload rfl rfl ?_
                        refine q_iaddN rfl ?_
                        refine q_iload rfl rfl ?_
                        refine q_iaddN rfl ?_
                        refine q_aload_n rfl rfl ?_
                        refine q_getfield rfl hx_51 rfl ?_
                        refine q_bipush (v := nI 40) rfl rfl ?_
                        refine q_iload_n rfl rfl ?_
                        refine q_imulN rfl ?_
                        refine q_iload_n rfl rfl ?_
                        refine q_iaddN rfl ?_
                        refine q_iload rfl rfl ?_
                        refine q_iaddN rfl ?_
                        refine q_iald rfl (by decide) hx_58 (by omega) (by decide) (rfl) ?_
                        refine q_iastN rfl hx_58 (by omega) (by decide) ?_
                        refine q_heap (ha_58 _) ?_
                        refine q_iincN (c := 1) (L' := [_, _, _, _, _, _, _, _, _]) rfl rfl rfl rfl ?_
                        refine q_goto rfl ?_
                        exact ih_k_ _ _ (⟨_, rfl, by rw [ua_ua, ua_eq, f_mb_u _ _ _ _ _ hk_k_ (by omega)]⟩)
                  · obtain ⟨z, rfl, rfl⟩ := hi_k_
                    rw [f_mb_cpy]
                    refine q_iload rfl rfl ?_
                    refine q_iload rfl rfl ?_
                    refine q_icmp_geN rfl (by omega) (by omega) (fun hck_f100 => ?_) (fun hck_f100 => ?_)
                    · refine q_iconst (v := nI 1) rfl rfl ?_
                      refine q_iret rfl rfl ?_
                      exact ⟨rfl, rfl⟩
                    · omega
              · exact absurd hc71 (by decide)
          · omega
      · omega
    · exact absurd hc11 (by decide)
