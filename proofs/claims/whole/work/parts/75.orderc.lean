/-! the order of lights: the class -/
def od_p (m : Nat) : Nat := m % 2 + m / 2 % 2 + m / 4 % 2 + m / 8 % 2 + m / 16 % 2
theorem od_shl15 : ∀ a, a < 11 → nI a <<< (nI 15 &&& 31) = nI (a * 32768) := by decide +kernel
theorem od_or : ∀ i, i < 5 → ∀ m, m < 32 → sv_t m i = 0 → nI m ||| nI (2 ^ i) = nI (m + 2 ^ i) := by decide +kernel
theorem od_fig : ∀ r, r < 5 → ∀ i, i < 5 → nI i <<< (nI (3 * r) &&& 31) = nI (i * 8 ^ r) := by decide +kernel
theorem od_add : ∀ n, n ≤ 5 → ∀ m, m < 2 ^ n → ∀ i, i < n → sv_t m i = 0 → od_p (m + 2 ^ i) = od_p m + 1 ∧ m + 2 ^ i < 2 ^ n := by decide +kernel
theorem od_pn : ∀ n, n ≤ 5 → od_p (2 ^ n - 1) = n ∧ ∀ m, m < 2 ^ n - 1 → od_p m + 1 ≤ n := by decide +kernel
theorem od_ple (m : Nat) : od_p m ≤ 5 := by
  unfold od_p
  omega
theorem od_sr : ∀ d, d < 32 → ((nI d &&& 31).toBitVec.smod 32).toNat = d := by decide +kernel
theorem od_shr {a d : Nat} (ha : a < 2 ^ 31) (hd : d < 32) : nI a >>> (nI d &&& 31) = nI (a / 2 ^ d) := pk_shrN ha _ d (od_sr d hd)
theorem od_and7 : ∀ x, x < 8 → nI x &&& nI 7 = nI x := by decide +kernel
theorem sJ6_bitCount_0f7a4 {X : XX} {h0 : XH} (m : Nat) (hm : m < 32) : x_ev X xT 1 250 [.int (nI m)] h0 (some (.int (nI (od_p m)))) h0 := by
  refine q_ev (L := [some (.int (nI m))]) tJ6_bitCount_0f7a4 (Nat.le_of_ble_eq_true rfl) rfl ?_
  refine q_iload_n rfl rfl ?_
  refine q_iload_n rfl rfl ?_
  refine q_iconst (v := nI 1) rfl rfl ?_
  refine q_iushr rfl ?_
  refine q_ldc_w (v := nI 1431655765) rfl rfl ?_
  refine q_iand rfl ?_
  refine q_isub rfl ?_
  refine q_istore_n (L' := [_]) rfl rfl ?_
  refine q_iload_n rfl rfl ?_
  refine q_ldc_w (v := nI 858993459) rfl rfl ?_
  refine q_iand rfl ?_
  refine q_iload_n rfl rfl ?_
  refine q_iconst (v := nI 2) rfl rfl ?_
  refine q_iushr rfl ?_
  refine q_ldc_w (v := nI 858993459) rfl rfl ?_
  refine q_iand rfl ?_
  refine q_iadd rfl ?_
  refine q_istore_n (L' := [_]) rfl rfl ?_
  refine q_iload_n rfl rfl ?_
  refine q_iload_n rfl rfl ?_
  refine q_iconst (v := nI 4) rfl rfl ?_
  refine q_iushr rfl ?_
  refine q_iadd rfl ?_
  refine q_ldc_w (v := nI 252645135) rfl rfl ?_
  refine q_iand rfl ?_
  refine q_istore_n (L' := [_]) rfl rfl ?_
  refine q_iload_n rfl rfl ?_
  refine q_iload_n rfl rfl ?_
  refine q_bipush (v := nI 8) rfl rfl ?_
  refine q_iushr rfl ?_
  refine q_iadd rfl ?_
  refine q_istore_n (L' := [_]) rfl rfl ?_
  refine q_iload_n rfl rfl ?_
  refine q_iload_n rfl rfl ?_
  refine q_bipush (v := nI 16) rfl rfl ?_
  refine q_iushr rfl ?_
  refine q_iadd rfl ?_
  refine q_istore_n (L' := [_]) rfl rfl ?_
  refine q_iload_n rfl rfl ?_
  refine q_bipush (v := nI 63) rfl rfl ?_
  refine q_iand rfl ?_
  refine q_iret rfl rfl ?_
  exact ⟨vI (by revert m; decide +kernel), rfl⟩
theorem od_jz {g : Nat → Nat → Nat → Nat} {c : Nat → Nat → Nat} {D : Nat → Nat} {i k fig s a j : Nat} (h : g i k (tN s j) = 0) : od_j g c D i k fig s a (j + 1) = od_j g c D i k fig s a j := if_pos h
theorem od_jp {g : Nat → Nat → Nat → Nat} {c : Nat → Nat → Nat} {D : Nat → Nat} {i k fig s a j : Nat} (h : ¬ g i k (tN s j) = 0) : od_j g c D i k fig s a (j + 1) = min (od_j g c D i k fig s a j) (c s j * 32768 + fig + D (tN s j)) := if_neg h
theorem od_j_0 {g : Nat → Nat → Nat → Nat} {c : Nat → Nat → Nat} {D : Nat → Nat} {i k fig s a : Nat} (h : ∀ f, g i k f = 0) (j : Nat) : od_j g c D i k fig s a j = a := by
  induction j with
  | zero => rfl
  | succ j ih => rw [od_jz (h _), ih]
theorem od_j_le {g : Nat → Nat → Nat → Nat} {c : Nat → Nat → Nat} {D : Nat → Nat} {i k fig s a : Nat} (j : Nat) : od_j g c D i k fig s a j ≤ a := ((od_j_iff j).mp (Nat.le_refl _)).1
theorem gn_t0 {b : Nat} {l : LT} {f m : Nat} (h : tmN b (nI f) (nI (plN l m)) ≤ 0) : gnN b l (nI f) m = 0 := by
  unfold gnN
  rw [Nat.le_zero.mp h, Nat.zero_mul]
theorem gn_b0 {b : Nat} {l : LT} {m : Nat} (h : brN l m ≤ 0) (f : Nat) : gnN b l (nI f) m = 0 := by
  unfold gnN
  rw [Nat.le_zero.mp h, Nat.mul_zero]
theorem gn_p {b : Nat} {l : LT} {f m : Nat} (h : ¬ tmN b (nI f) (nI (plN l m)) ≤ 0) (h2 : ¬ brN l m ≤ 0) : ¬ gnN b l (nI f) m = 0 := by
  unfold gnN
  exact Nat.mul_ne_zero (by omega) (by omega)
theorem lo_nx0 {gq : Nat → Nat → Nat → Nat} {c : Nat → Nat → Nat} {D a : Nat → Nat} {i k fg m x j : Nat} {f f0 : Nat → Int32} (h0 : ∀ s, x < s → s < 24 → f (m * 24 + s) = nI (a s)) (h1 : ∀ s, s < x → f (m * 24 + s) = nI (od_j gq c D i k fg s (a s) 13)) (h2 : ∀ y, y < m * 24 ∨ m * 24 + 24 ≤ y → f y = f0 y) (hj : f (m * 24 + x) = nI (od_j gq c D i k fg x (a x) j)) (hg : gq i k (tN x j) = 0) : (∀ s, x < s → s < 24 → f (m * 24 + s) = nI (a s)) ∧ f (m * 24 + x) = nI (od_j gq c D i k fg x (a x) (j + 1)) ∧ (∀ s, s < x → f (m * 24 + s) = nI (od_j gq c D i k fg s (a s) 13)) ∧ (∀ y, y < m * 24 ∨ m * 24 + 24 ≤ y → f y = f0 y) := ⟨h0, by rw [od_jz hg]; exact hj, h1, h2⟩
theorem lo_nx1 {gq : Nat → Nat → Nat → Nat} {c : Nat → Nat → Nat} {D a : Nat → Nat} {i k fg m x j : Nat} {f f0 : Nat → Int32} (h0 : ∀ s, x < s → s < 24 → f (m * 24 + s) = nI (a s)) (h1 : ∀ s, s < x → f (m * 24 + s) = nI (od_j gq c D i k fg s (a s) 13)) (h2 : ∀ y, y < m * 24 ∨ m * 24 + 24 ≤ y → f y = f0 y) (hj : f (m * 24 + x) = nI (od_j gq c D i k fg x (a x) j)) (hx : x < 24) (hg : ¬ gq i k (tN x j) = 0) : (∀ s, x < s → s < 24 → upd f (m * 24 + x) (nI (min (od_j gq c D i k fg x (a x) j) (c x j * 32768 + fg + D (tN x j)))) (m * 24 + s) = nI (a s)) ∧ upd f (m * 24 + x) (nI (min (od_j gq c D i k fg x (a x) j) (c x j * 32768 + fg + D (tN x j)))) (m * 24 + x) = nI (od_j gq c D i k fg x (a x) (j + 1)) ∧ (∀ s, s < x → upd f (m * 24 + x) (nI (min (od_j gq c D i k fg x (a x) j) (c x j * 32768 + fg + D (tN x j)))) (m * 24 + s) = nI (od_j gq c D i k fg s (a s) 13)) ∧ (∀ y, y < m * 24 ∨ m * 24 + 24 ≤ y → upd f (m * 24 + x) (nI (min (od_j gq c D i k fg x (a x) j) (c x j * 32768 + fg + D (tN x j)))) y = f0 y) := by
  refine ⟨fun s hs hs2 => ?_, ?_, fun s hs => ?_, fun y hy => ?_⟩
  · rw [pk_un (by omega)]
    exact h0 s hs hs2
  · rw [pk_us, od_jp hg]
  · rw [pk_un (by omega)]
    exact h1 s hs
  · rw [pk_un (by omega)]
    exact h2 y hy
set_option maxHeartbeats 1000000 in
theorem sX0_lowerOrders {X : XX} {I A : Nat → Nat → Int32} {J B : Nat → Nat → Int64} {F : Nat → Nat} (hS : RelS F) (st : Nat) (hst : st < 24) (e7 : I 7 1 = nI st) (b : Nat) (hb : b ≤ 5) (eb : I 7 0 = nI b) (i k m m2 fg : Nat) (hm : m < 32) (hm2 : m2 < 32) (hne : m ≠ m2) (hfg : fg < 65536) (LL : Nat → LT) (m0 : Nat) (hbr : ¬ brN (LL i) (m0 + k) ≤ 0) (D a : Nat → Nat) (hD : ∀ f, f < 24 → A (F 0) (m2 * 24 + f) = nI (D f)) (hDB : ∀ f, D f ≤ 536870912) (ha : ∀ f, f < 24 → A (F 0) (m * 24 + f) = nI (a f)) (haB : ∀ f, a f ≤ 536870912)  : ∃ f, x_ev X xT 4 9 [.ref 13, .int (nI m), .int (nI m2), .int (nI (plN (LL i) (m0 + k))), .int (nI fg)] (HX I A J B F) none (HX I (ua A (F 0) f) J B F) ∧ (∀ s, s < 24 → f (m * 24 + s) = nI (od_j (fun i k f => gnN b (LL i) (nI f) (m0 + k)) (fun s j => eN st s j) D i k (fg) s (a s) 13)) ∧ (∀ y, y < m * 24 ∨ m * 24 + 24 ≤ y → f y = A (F 0) y) := by
  obtain ⟨r_, h_, he_, f, hr_, hh_, hf_⟩ := q_evx (X := X) (d := 3) (as := [.ref 13, .int (nI m), .int (nI m2), .int (nI (plN (LL i) (m0 + k))), .int (nI fg)]) (h := (HX I A J B F)) (P := fun r_ h_ => ∃ f, r_ = none ∧ h_ = (HX I (ua A (F 0) f) J B F) ∧ (∀ s, s < 24 → f (m * 24 + s) = nI (od_j (fun i k f => gnN b (LL i) (nI f) (m0 + k)) (fun s j => eN st s j) D i k (fg) s (a s) 13)) ∧ (∀ y, y < m * 24 ∨ m * 24 + 24 ≤ y → f y = A (F 0) y)) (L := [some (.ref 13), some (.int (nI m)), some (.int (nI m2)), some (.int (nI (plN (LL i) (m0 + k)))), some (.int (nI fg)), none, none, none, none, none]) tX0_lowerOrders (Nat.le_of_ble_eq_true rfl) rfl (by
    refine q_iconst (v := nI 0) rfl rfl ?_
    refine q_istore (L' := [_, _, _, _, _, _, _, _, _, _]) rfl rfl ?_
    refine q_up (Inv := fun x L h => ∃ f z6 z7 z8 z9, L = [some (.ref 13), some (.int (nI m)), some (.int (nI m2)), some (.int (nI (plN (LL i) (m0 + k)))), some (.int (nI fg)), some (.int (nI x)), z6, z7, z8, z9] ∧ h = HX I (ua A (F 0) f) J B F ∧ (∀ s, x ≤ s → s < 24 → f (m * 24 + s) = nI (a s)) ∧ (∀ s, s < x → f (m * 24 + s) = nI (od_j (fun i k f => gnN b (LL i) (nI f) (m0 + k)) (fun s j => eN st s j) D i k (fg) s (a s) 13)) ∧ (∀ y, y < m * 24 ∨ m * 24 + 24 ≤ y → f y = A (F 0) y)) (24) (fun x L h hk_x hi_x ih_x => ?_) (fun L h hi_x => ?_) (0) _ _ (by omega) (⟨A (F 0), _, _, _, _, rfl, by rw [ua_self rfl], fun s _ hs => ha s hs, fun s hs => absurd hs (Nat.not_lt_zero s), fun y _ => rfl⟩)
    · obtain ⟨f, z6, z7, z8, z9, rfl, rfl, hf0, hf1, hf2⟩ := hi_x
      refine q_iload rfl rfl ?_
      refine q_bipush (v := nI 24) rfl rfl ?_
      refine q_icmp_geN rfl (by omega) (by omega) (fun hcxs7 => ?_) (fun hcxs7 => ?_)
      · omega
      · refine q_bipush (v := (-6)) rfl rfl ?_
        refine q_istore (L' := [_, _, _, _, _, _, _, _, _, _]) rfl rfl ?_
        refine q_up (Inv := fun j L h => ∃ f z7 z8 z9, L = [some (.ref 13), some (.int (nI m)), some (.int (nI m2)), some (.int (nI (plN (LL i) (m0 + k)))), some (.int (nI fg)), some (.int (nI x)), some (.int (sI 6 j)), z7, z8, z9] ∧ h = HX I (ua A (F 0) f) J B F ∧ (∀ s, x < s → s < 24 → f (m * 24 + s) = nI (a s)) ∧ f (m * 24 + x) = nI (od_j (fun i k f => gnN b (LL i) (nI f) (m0 + k)) (fun s j => eN st s j) D i k (fg) x (a x) j) ∧ (∀ s, s < x → f (m * 24 + s) = nI (od_j (fun i k f => gnN b (LL i) (nI f) (m0 + k)) (fun s j => eN st s j) D i k (fg) s (a s) 13)) ∧ (∀ y, y < m * 24 ∨ m * 24 + 24 ≤ y → f y = A (F 0) y)) (13) (fun j L h hk_j hi_j ih_j => ?_) (fun L h hi_j => ?_) (0) _ _ (by omega) (⟨f, _, _, _, rfl, rfl, fun s hs hs2 => hf0 s (by omega) hs2, hf0 x (Nat.le_refl _) hk_x, hf1, hf2⟩)
        · obtain ⟨f, z7, z8, z9, rfl, rfl, hf0, hfj, hf1, hf2⟩ := hi_j
          refine q_iload rfl rfl ?_
          refine q_bipush (v := nI 6) rfl rfl ?_
          refine q_icmp_gt rfl (fun hcjs18 => ?_) (fun hcjs18 => ?_)
          · exact absurd ((sI_le (c := 6) (m := 6) (by omega) (by omega) (by omega)).mpr (by omega)) (Int32.not_le.mpr hcjs18)
          · refine q_iload rfl rfl ?_
            refine q_iload rfl rfl ?_
            refine q_iadd rfl ?_
            refine q_callS1 rfl rfl (Nat.le_of_ble_eq_true rfl) (Nat.le_of_ble_eq_true rfl) (sK_round _) ?_
            refine q_cn (show _ = nI (tN x j) by rw [rdN_t hk_x hk_j]) ?_
            have ht := tN_lt x j
            have hc9 := eN_le st x j hk_j
            have hd9 := hDB (tN x j)
            have ha9 : od_j (fun i k f => gnN b (LL i) (nI f) (m0 + k)) (fun s j => eN st s j) D i k (fg) x (a x) j ≤ a x := od_j_le j
            have haB9 := haB x
            refine q_istore (L' := [_, _, _, _, _, _, _, _, _, _]) rfl rfl ?_
            refine q_aload_n rfl rfl ?_
            refine q_getfield rfl hx_13 rfl ?_
            refine q_iload rfl rfl ?_
            refine q_iload_n rfl rfl ?_
            refine q_callV2 rfl hx_7 (Nat.le_of_ble_eq_true rfl) (Nat.le_of_ble_eq_true rfl) (sK_times (hx_7b eb) hb _ _) ?_
            refine q_if_leN rfl (by have := tmN_le b (nI (tN x j)) (nI (plN (LL i) (m0 + k))); omega) (fun hcjs41 => ?_) (fun hcjs41 => ?_)
            · refine q_iinc (v := sI 6 (j + 1)) (L' := [_, _, _, _, _, _, _, _, _, _]) rfl rfl (sI_inc 6 j) rfl ?_
              refine q_goto rfl ?_
              exact ih_j _ _ (⟨_, _, _, _, rfl, by first | rfl | rw [ua_ua, ua_eq], by first | (have h8 := lo_nx0 (gq := (fun i k f => gnN b (LL i) (nI f) (m0 + k))) (c := (fun s j => eN st s j)) hf0 hf1 hf2 hfj (gn_t0 hcjs41); exact h8) | (have h8 := lo_nx1 (gq := (fun i k f => gnN b (LL i) (nI f) (m0 + k))) (c := (fun s j => eN st s j)) hf0 hf1 hf2 hfj hk_x (gn_p hcjs41 hbr); exact h8)⟩)
            · refine q_aload_n rfl rfl ?_
              refine q_getfield rfl hx_13 rfl ?_
              refine q_iload rfl rfl ?_
              refine q_iload rfl rfl ?_
              refine q_callV2 rfl hx_7 (Nat.le_of_ble_eq_true rfl) (Nat.le_of_ble_eq_true rfl) (sK_eff e7 _ _) ?_
              refine q_cn (ef_eq hst hk_x hk_j) ?_
              refine q_bipush (v := nI 15) rfl rfl ?_
              refine q_ishl rfl ?_
              refine q_cn (od_shl15 _ (by omega)) ?_
              refine q_iload rfl rfl ?_
              refine q_iaddN rfl ?_
              refine q_istore (L' := [_, _, _, _, _, _, _, _, _, _]) rfl rfl ?_
              refine q_iload rfl rfl ?_
              refine q_aload_n rfl rfl ?_
              refine q_getfield rfl hx_13 rfl ?_
              refine q_iload_n rfl rfl ?_
              refine q_bipush (v := nI 24) rfl rfl ?_
              refine q_imulN rfl ?_
              refine q_iload rfl rfl ?_
              refine q_iaddN rfl ?_
              refine q_iald rfl ((F_lt hS).1) (hx_T hS) (by omega) (by decide) ((show ua A (F 0) f (F 0) (m2 * 24 + tN x j) = nI (D (tN x j)) from by rw [ua_eq, hf2 _ (by omega)]; exact hD _ ht)) ?_
              refine q_iaddN rfl ?_
              refine q_istore (L' := [_, _, _, _, _, _, _, _, _, _]) rfl rfl ?_
              refine q_aload_n rfl rfl ?_
              refine q_getfield rfl hx_13 rfl ?_
              refine q_iload_n rfl rfl ?_
              refine q_bipush (v := nI 24) rfl rfl ?_
              refine q_imulN rfl ?_
              refine q_iload rfl rfl ?_
              refine q_iaddN rfl ?_
              refine q_aload_n rfl rfl ?_
              refine q_getfield rfl hx_13 rfl ?_
              refine q_iload_n rfl rfl ?_
              refine q_bipush (v := nI 24) rfl rfl ?_
              refine q_imulN rfl ?_
              refine q_iload rfl rfl ?_
              refine q_iaddN rfl ?_
              refine q_iald rfl ((F_lt hS).1) (hx_T hS) (by omega) (by decide) ((show ua A (F 0) f (F 0) (m * 24 + x) = nI (od_j (fun i k f => gnN b (LL i) (nI f) (m0 + k)) (fun s j => eN st s j) D i k (fg) x (a x) j) from by rw [ua_eq]; exact hfj)) ?_
              refine q_iload rfl rfl ?_
              refine q_callS2 rfl rfl (Nat.le_of_ble_eq_true rfl) (Nat.le_of_ble_eq_true rfl) (sJ9_min_7cf53 _ _) ?_
              refine q_cn (show _ = nI (min (od_j (fun i k f => gnN b (LL i) (nI f) (m0 + k)) (fun s j => eN st s j) D i k (fg) x (a x) j) (eN st x j * 32768 + fg + D (tN x j))) from f_min_nI (by omega) (by omega)) ?_
              refine q_iastN rfl (hx_T hS) (by omega) (by decide) ?_
              refine q_heap (ha_T hS _) ?_
              refine q_iinc (v := sI 6 (j + 1)) (L' := [_, _, _, _, _, _, _, _, _, _]) rfl rfl (sI_inc 6 j) rfl ?_
              refine q_goto rfl ?_
              exact ih_j _ _ (⟨_, _, _, _, rfl, by first | rfl | rw [ua_ua, ua_eq], by first | (have h8 := lo_nx0 (gq := (fun i k f => gnN b (LL i) (nI f) (m0 + k))) (c := (fun s j => eN st s j)) hf0 hf1 hf2 hfj (gn_t0 hcjs41); exact h8) | (have h8 := lo_nx1 (gq := (fun i k f => gnN b (LL i) (nI f) (m0 + k))) (c := (fun s j => eN st s j)) hf0 hf1 hf2 hfj hk_x (gn_p hcjs41 hbr); exact h8)⟩)
        · obtain ⟨f, z7, z8, z9, rfl, rfl, hf0, hfj, hf1, hf2⟩ := hi_j
          refine q_iload rfl rfl ?_
          refine q_bipush (v := nI 6) rfl rfl ?_
          refine q_icmp_gt rfl (fun hcjf18 => ?_) (fun hcjf18 => ?_)
          · refine q_iincN (c := 1) (L' := [_, _, _, _, _, _, _, _, _, _]) rfl rfl rfl rfl ?_
            refine q_goto rfl ?_
            exact ih_x _ _ (⟨f, _, _, _, _, rfl, rfl, fun s hs hs2 => hf0 s (by omega) hs2, fun s hs => by by_cases e9 : s = x; subst e9; exact hfj; exact hf1 s (by omega), hf2⟩)
          · exact absurd (show nI 6 < sI 6 13 by decide) hcjf18
    · obtain ⟨f, z6, z7, z8, z9, rfl, rfl, hf0, hf1, hf2⟩ := hi_x
      refine q_iload rfl rfl ?_
      refine q_bipush (v := nI 24) rfl rfl ?_
      refine q_icmp_geN rfl (by omega) (by omega) (fun hcxf7 => ?_) (fun hcxf7 => ?_)
      · refine q_vret rfl rfl ?_
        exact ⟨f, rfl, rfl, hf1, hf2⟩
      · omega)
  subst hr_
  subst hh_
  exact ⟨f, he_, hf_⟩
