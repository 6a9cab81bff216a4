/-! the most within an effort: both sides -/
theorem dI_lt {a b : Nat} (ha : a < 2 ^ 30) (hb : b < 2 ^ 30) : dI a < dI b ↔ a < b := by
  unfold dI
  rw [Int32.lt_iff_toInt_lt, show (1 : Int32) = nI 1 from rfl, show nI a - nI 1 = sI 1 a from rfl, show nI b - nI 1 = sI 1 b from rfl, sI_toInt (by decide) ha, sI_toInt (by decide) hb]
  omega
theorem dI_le {a b : Nat} (ha : a < 2 ^ 30) (hb : b < 2 ^ 30) : dI a ≤ dI b ↔ a ≤ b := by
  rw [← Int32.not_lt, dI_lt hb ha]
  omega
theorem nI_dI (a : Nat) : nI a = dI (a + 1) := (dI_s a).symm
theorem dI_neg {a : Nat} (ha : a < 2 ^ 30) : dI a < 0 ↔ a = 0 := by
  rw [show (0 : Int32) = dI 1 from by decide, dI_lt ha (by decide)]
  omega
theorem dI_add (a b : Nat) : dI a + nI b = dI (a + b) := by
  unfold dI
  rw [← nI_add, Int32.sub_eq_add_neg, Int32.sub_eq_add_neg, Int32.add_assoc, Int32.add_comm (-1), ← Int32.add_assoc]
theorem mo_0a {s y : Nat} (h : y = 41 * s) : nI 0 = dI (mo_0 s y) := by
  rw [show mo_0 s y = 1 from if_pos h]
  decide
theorem mo_0b {s y : Nat} (h : ¬ y = 41 * s) : (-1) = dI (mo_0 s y) := by
  rw [show mo_0 s y = 0 from if_neg h]
  decide
theorem mo_by {v b : Nat} (hv : v < 2 ^ 29) (hb : b < 2 ^ 29) (h : ¬ dI v ≤ nI b) : dI v = nI (max b (v - 1)) := by
  rw [nI_dI, dI_le (by omega) (by omega)] at h
  rw [nI_dI]
  exact congrArg dI (by omega)
theorem mo_bn {v b : Nat} (hv : v < 2 ^ 29) (hb : b < 2 ^ 29) (h : dI v ≤ nI b) : nI b = nI (max b (v - 1)) := by
  rw [nI_dI, dI_le (by omega) (by omega)] at h
  exact congrArg nI (by omega)
theorem eN_6 (st s : Nat) : eN st s 6 = 0 := by
  unfold eN
  rw [if_neg (by decide), if_neg (by omega)]
set_option maxHeartbeats 1000000 in
theorem sX0_raiseMost {X : XX} {I A : Nat → Nat → Int32} {J B : Nat → Nat → Int64} {F : Nat → Nat} (hS : RelS F) (st : Nat) (hst : st < 24) (e7 : I 7 1 = nI st) (b m n : Nat) (l_ : LT) (hl9 : l_.2.2.2 ≤ 9) (hV : GV b l_ m n A) (n8 : n ≤ 8) (k s j e : Nat) (D : Nat → Nat → Nat) (hk : k < n) (hs : s < 24) (hj : j < 13) (he : e ≤ 40) (hD : ∀ s, s < 24 → ∀ l, l ≤ e → A (F 1) (s * 41 + l) = nI (D s l)) (hB : ∀ s l, D s l ≤ 1000) (hT : ∀ l, l ≤ e → A (F 0) (s * 41 + l) = nI (mo_r (fun k f => gnN b l_ (nI f) (m + k)) (fun s j => eN st s j) D k s j l)) : ∃ f, x_ev X xT 4 5 [.ref 13, .int (nI k), .int (nI s), .int (sI 6 j), .int (nI e)] (HX I A J B F) none (HX I (ua A (F 0) f) J B F) ∧ (∀ y, y ≤ e → f (s * 41 + y) = nI (mo_r (fun k f => gnN b l_ (nI f) (m + k)) (fun s j => eN st s j) D k s (j + 1) y)) ∧ ∀ x, x < s * 41 ∨ s * 41 + e < x → f x = A (F 0) x := by
  have ht := tN_lt s j
  have hg9 := gnN_le (b := b) (l := l_) (fi := nI (tN s j)) (m := m + k) hl9
  have hc9 := eN_le st s j hj
  obtain ⟨r_, h_, he_, f, hr_, hh_, hf_⟩ := q_evx (X := X) (d := 3) (as := [.ref 13, .int (nI k), .int (nI s), .int (sI 6 j), .int (nI e)]) (h := (HX I A J B F)) (P := fun r_ h_ => ∃ f, r_ = none ∧ h_ = (HX I (ua A (F 0) f) J B F) ∧ (∀ y, y ≤ e → f (s * 41 + y) = nI (mo_r (fun k f => gnN b l_ (nI f) (m + k)) (fun s j => eN st s j) D k s (j + 1) y)) ∧ ∀ x, x < s * 41 ∨ s * 41 + e < x → f x = A (F 0) x) (L := [some (.ref 13), some (.int (nI k)), some (.int (nI s)), some (.int (sI 6 j)), some (.int (nI e)), none, none, none, none, none]) tX0_raiseMost (Nat.le_of_ble_eq_true rfl) rfl (by
    refine q_iload_n rfl rfl ?_
    refine q_iload_n rfl rfl ?_
    refine q_iadd rfl ?_
    refine q_callS1 rfl rfl (Nat.le_of_ble_eq_true rfl) (Nat.le_of_ble_eq_true rfl) (sK_round _) ?_
    refine q_cn (show _ = nI (tN s j) by rw [rdN_t hs hj]) ?_
    refine q_istore (L' := [_, _, _, _, _, _, _, _, _, _]) rfl rfl ?_
    refine q_aload_n rfl rfl ?_
    refine q_getfield rfl hx_13 rfl ?_
    refine q_iload_n rfl rfl ?_
    refine q_iload_n rfl rfl ?_
    refine q_callV2 rfl hx_7 (Nat.le_of_ble_eq_true rfl) (Nat.le_of_ble_eq_true rfl) (sK_eff e7 _ _) ?_
    refine q_cn (ef_eq hst hs hj) ?_
    refine q_istore (L' := [_, _, _, _, _, _, _, _, _, _]) rfl rfl ?_
    refine q_aload_n rfl rfl ?_
    refine q_getfield rfl hx_13 rfl ?_
    refine q_iload_n rfl rfl ?_
    refine q_iload rfl rfl ?_
    refine q_callV2 rfl hx_11 (Nat.le_of_ble_eq_true rfl) (Nat.le_of_ble_eq_true rfl) (sX7_gain k (tN s j) _ (by omega) ht (hV k hk _ ht)) ?_
    refine q_istore (L' := [_, _, _, _, _, _, _, _, _, _]) rfl rfl ?_
    refine q_iload rfl rfl ?_
    refine q_istore (L' := [_, _, _, _, _, _, _, _, _, _]) rfl rfl ?_
    refine q_up (Inv := fun y L h => ∃ f z9, L = [some (.ref 13), some (.int (nI k)), some (.int (nI s)), some (.int (sI 6 j)), some (.int (nI e)), some (.int (nI (tN s j))), some (.int (nI (eN st s j))), some (.int (nI (gnN b l_ (nI (tN s j)) (m + k)))), some (.int (nI y)), z9] ∧ h = HX I (ua A (F 0) f) J B F ∧ eN st s j ≤ y ∧ (∀ x, x ≤ e → f (s * 41 + x) = nI (if x < y then mo_r (fun k f => gnN b l_ (nI f) (m + k)) (fun s j => eN st s j) D k s (j + 1) x else mo_r (fun k f => gnN b l_ (nI f) (m + k)) (fun s j => eN st s j) D k s j x)) ∧ ∀ x, x < s * 41 ∨ s * 41 + e < x → f x = A (F 0) x) (max (eN st s j) (e + 1)) (fun y L h hk_y hi_y ih_y => ?_) (fun L h hi_y => ?_) (eN st s j) _ _ (by omega) (⟨A (F 0), _, rfl, by rw [ua_self rfl], Nat.le_refl _, fun x hx => by by_cases e9 : x < eN st s j; rw [if_pos e9, mo_r_n (by omega)]; exact hT x hx; rw [if_neg e9]; exact hT x hx, fun x hx => rfl⟩)
    · obtain ⟨f, z9, rfl, rfl, hcy, hf1, hf2⟩ := hi_y
      have hm9 : mo_r (fun k f => gnN b l_ (nI f) (m + k)) (fun s j => eN st s j) D k s j y ≤ 1024 := mo_r_le (g := (fun k f => gnN b l_ (nI f) (m + k))) (fun k s => gnN_le hl9) hB j y
      have hd9 := hB (tN s j) (y - eN st s j)
      refine q_iload rfl rfl ?_
      refine q_iload rfl rfl ?_
      refine q_icmp_gtN rfl (by omega) (by omega) (fun hcys39 => ?_) (fun hcys39 => ?_)
      · omega
      · refine q_iload rfl rfl ?_
        refine q_aload_n rfl rfl ?_
        refine q_getfield rfl hx_13 rfl ?_
        refine q_iload rfl rfl ?_
        refine q_bipush (v := nI 41) rfl rfl ?_
        refine q_imulN rfl ?_
        refine q_iload rfl rfl ?_
        refine q_iaddN rfl ?_
        refine q_iload rfl rfl ?_
        refine q_isubN rfl (by omega) ?_
        refine q_iald rfl ((F_lt hS).2.1) (hx_U hS) (by omega) (by decide) ((show ua A (F 0) f (F 1) (tN s j * 41 + y - eN st s j) = nI (D (tN s j) (y - eN st s j)) from by rw [ua_ne (fun z => (F_lt hS).2.2.2.2.1 z.symm), show tN s j * 41 + y - eN st s j = tN s j * 41 + (y - eN st s j) by omega]; exact hD _ ht _ (by omega))) ?_
        refine q_iaddN rfl ?_
        refine q_istore (L' := [_, _, _, _, _, _, _, _, _, _]) rfl rfl ?_
        refine q_aload_n rfl rfl ?_
        refine q_getfield rfl hx_13 rfl ?_
        refine q_iload_n rfl rfl ?_
        refine q_bipush (v := nI 41) rfl rfl ?_
        refine q_imulN rfl ?_
        refine q_iload rfl rfl ?_
        refine q_iaddN rfl ?_
        refine q_aload_n rfl rfl ?_
        refine q_getfield rfl hx_13 rfl ?_
        refine q_iload_n rfl rfl ?_
        refine q_bipush (v := nI 41) rfl rfl ?_
        refine q_imulN rfl ?_
        refine q_iload rfl rfl ?_
        refine q_iaddN rfl ?_
        refine q_iald rfl ((F_lt hS).1) (hx_T hS) (by omega) (by decide) ((show ua A (F 0) f (F 0) (s * 41 + y) = nI (mo_r (fun k f => gnN b l_ (nI f) (m + k)) (fun s j => eN st s j) D k s j y) from by rw [ua_eq, hf1 y (by omega), if_neg (Nat.lt_irrefl y)])) ?_
        refine q_iload rfl rfl ?_
        refine q_callS2 rfl rfl (Nat.le_of_ble_eq_true rfl) (Nat.le_of_ble_eq_true rfl) (sJ9_max_7cf53 _ _) ?_
        refine q_cn (f_max_nI (by omega) (by omega)) ?_
        refine q_iastN rfl (hx_T hS) (by omega) (by decide) ?_
        refine q_heap (ha_T hS _) ?_
        refine q_iincN (c := 1) (L' := [_, _, _, _, _, _, _, _, _, _]) rfl rfl rfl rfl ?_
        refine q_goto rfl ?_
        exact ih_y _ _ (⟨_, _, rfl, by rw [ua_ua, ua_eq], by omega, fun x hx => by
              by_cases e9 : x = y
              · subst e9
                rw [pk_us, if_pos (by omega), mo_r_y hcy]
              · rw [pk_un (by omega), hf1 x hx]
                by_cases e8 : x < y
                · rw [if_pos e8, if_pos (by omega)]
                · rw [if_neg e8, if_neg (by omega)], fun x hx => by rw [pk_un (by omega)]; exact hf2 x hx⟩)
    · obtain ⟨f, z9, rfl, rfl, hcy, hf1, hf2⟩ := hi_y
      refine q_iload rfl rfl ?_
      refine q_iload rfl rfl ?_
      refine q_icmp_gtN rfl (by omega) (by omega) (fun hcyf39 => ?_) (fun hcyf39 => ?_)
      · refine q_vret rfl rfl ?_
        exact ⟨f, rfl, rfl, fun y hy => by rw [hf1 y hy, if_pos (by omega)], hf2⟩
      · omega)
  subst hr_
  subst hh_
  exact ⟨f, he_, hf_⟩
set_option maxHeartbeats 2000000 in
theorem sX0_mostWithin {X : XX} {I A : Nat → Nat → Int32} {J B : Nat → Nat → Int64} {F : Nat → Nat} (hS : RelS F) (st : Nat) (hst : st < 24) (e7 : I 7 1 = nI st) (b m n : Nat) (l : LT) (hl9 : l.2.2.2 ≤ 9) (hV : GV b l m n A) (n8 : n ≤ 8) (s0 e : Nat) (hs0 : s0 < 24) (he : e ≤ 40) : ∃ G f g, x_ev X xT 5 4 [.ref 13, .int (nI s0), .int (nI n), .int (nI e)] (HX I A J B F) (some (.int (nI (mo_d (fun k f => gnN b l (nI f) (m + k)) (fun s j => eN st s j) n n s0 e)))) (HX I (ua (ua A (G 0) f) (G 1) g) J B G) ∧ RelS G := by
  obtain ⟨r_, h_, he_, G, f, g, hr_, hh_, hf_⟩ := q_evx (X := X) (d := 4) (as := [.ref 13, .int (nI s0), .int (nI n), .int (nI e)]) (h := (HX I A J B F)) (P := fun r_ h_ => ∃ G f g, r_ = (some (.int (nI (mo_d (fun k f => gnN b l (nI f) (m + k)) (fun s j => eN st s j) n n s0 e)))) ∧ h_ = (HX I (ua (ua A (G 0) f) (G 1) g) J B G) ∧ RelS G) (L := [some (.ref 13), some (.int (nI s0)), some (.int (nI n)), some (.int (nI e)), none, none, none]) tX0_mostWithin (Nat.le_of_ble_eq_true rfl) rfl (by
    refine q_aload_n rfl rfl ?_
    refine q_getfield rfl hx_13 rfl ?_
    refine q_iconst (v := 0) rfl rfl ?_
    refine q_callS2 rfl rfl (Nat.le_of_ble_eq_true rfl) (Nat.le_of_ble_eq_true rfl) (sJ7_fill_53178 (hx_U hS) (F_lt hS).2.1 (by decide) _) ?_
    refine q_heap (ha_U hS _) ?_
    refine q_iload_n rfl rfl ?_
    refine q_iconst (v := nI 1) rfl rfl ?_
    refine q_isub rfl ?_
    refine q_istore (L' := [_, _, _, _, _, _, _]) rfl rfl ?_
    refine q_dn (Inv := fun k L h => ∃ G f g z5 z6, L = [some (.ref 13), some (.int (nI s0)), some (.int (nI n)), some (.int (nI e)), some (.int (dI k)), z5, z6] ∧ h = HX I (ua (ua A (G 0) f) (G 1) g) J B G ∧ RelS G ∧ ∀ s, s < 24 → ∀ y, y ≤ e → g (s * 41 + y) = nI (mo_d (fun k f => gnN b l (nI f) (m + k)) (fun s j => eN st s j) n (n - k) s y)) (n) (fun k L h hk_k hi_k ih_k => ?_) (fun L h hi_k => ?_) (n) _ _ (by omega) (⟨F, A (F 0), _, _, _, rfl, by rw [ua_self (A := A) (c := F 0) rfl], hS, fun s hs y hy => by rw [Nat.sub_self]; show f_fill _ _ _ _ (s * 41 + y) = nI 0; unfold f_fill; rw [if_pos (by omega)]; rfl⟩)
    · obtain ⟨G, f, g, z5, z6, rfl, rfl, hS, hD⟩ := hi_k
      rw [dI_s]
      refine q_iload rfl rfl ?_
      refine q_if_ltN rfl (by omega) (fun hcks15 => ?_) (fun hcks15 => ?_)
      · omega
      · refine q_aload_n rfl rfl ?_
        refine q_getfield rfl hx_13 rfl ?_
        refine q_iconst (v := 0) rfl rfl ?_
        refine q_callS2 rfl rfl (Nat.le_of_ble_eq_true rfl) (Nat.le_of_ble_eq_true rfl) (sJ7_fill_53178 (hx_T hS) (F_lt hS).1 (by decide) _) ?_
        refine q_heap (ha_T hS _) ?_
        refine q_iconst (v := nI 0) rfl rfl ?_
        refine q_istore (L' := [_, _, _, _, _, _, _]) rfl rfl ?_
        refine q_up (Inv := fun x L h => ∃ f z6, L = [some (.ref 13), some (.int (nI s0)), some (.int (nI n)), some (.int (nI e)), some (.int (nI k)), some (.int (nI x)), z6] ∧ h = HX I (ua (ua A (G 0) f) (G 1) g) J B G ∧ (∀ s, s < x → ∀ y, y ≤ e → f (s * 41 + y) = nI (mo_d (fun k f => gnN b l (nI f) (m + k)) (fun s j => eN st s j) n (n - k) s y)) ∧ ∀ s, x ≤ s → s < 24 → ∀ y, y ≤ e → f (s * 41 + y) = nI 0) (24) (fun x L h hk_x hi_x ih_x => ?_) (fun L h hi_x => ?_) (0) _ _ (by omega) (⟨_, _, rfl, by rw [tb_s0 (F_lt hS).2.2.2.2.1, tb_l0 (F_lt hS).2.2.2.2.1], fun s hs => absurd hs (Nat.not_lt_zero s), fun s _ hs y hy => by unfold f_fill; rw [if_pos (by omega)]; rfl⟩)
        · obtain ⟨f, z6, rfl, rfl, hf1, hf0⟩ := hi_x
          refine q_iload rfl rfl ?_
          refine q_bipush (v := nI 24) rfl rfl ?_
          refine q_icmp_geN rfl (by omega) (by omega) (fun hcxs33 => ?_) (fun hcxs33 => ?_)
          · omega
          · refine q_bipush (v := (-6)) rfl rfl ?_
            refine q_istore (L' := [_, _, _, _, _, _, _]) rfl rfl ?_
            refine q_up (Inv := fun j L h => ∃ f, L = [some (.ref 13), some (.int (nI s0)), some (.int (nI n)), some (.int (nI e)), some (.int (nI k)), some (.int (nI x)), some (.int (sI 6 j))] ∧ h = HX I (ua (ua A (G 0) f) (G 1) g) J B G ∧ (∀ s, s < x → ∀ y, y ≤ e → f (s * 41 + y) = nI (mo_d (fun k f => gnN b l (nI f) (m + k)) (fun s j => eN st s j) n (n - k) s y)) ∧ (∀ s, x < s → s < 24 → ∀ y, y ≤ e → f (s * 41 + y) = nI 0) ∧ ∀ y, y ≤ e → f (x * 41 + y) = nI (mo_r (fun k f => gnN b l (nI f) (m + k)) (fun s j => eN st s j) (mo_d (fun k f => gnN b l (nI f) (m + k)) (fun s j => eN st s j) n (n - (k + 1))) k x j y)) (13) (fun j L h hk_j hi_j ih_j => ?_) (fun L h hi_j => ?_) (0) _ _ (by omega) (⟨f, rfl, rfl, hf1, fun s hs hs2 => hf0 s (by omega) hs2, fun y hy => hf0 x (Nat.le_refl _) hk_x y hy⟩)
            · obtain ⟨f, rfl, rfl, hf1, hf0, hfj⟩ := hi_j
              refine q_iload rfl rfl ?_
              refine q_bipush (v := nI 6) rfl rfl ?_
              refine q_icmp_gt rfl (fun hcjs44 => ?_) (fun hcjs44 => ?_)
              · exact absurd ((sI_le (c := 6) (m := 6) (by omega) (by omega) (by omega)).mpr (by omega)) (Int32.not_le.mpr hcjs44)
              · refine q_aload_n rfl rfl ?_
                refine q_iload rfl rfl ?_
                refine q_iload rfl rfl ?_
                refine q_iload rfl rfl ?_
                refine q_iload_n rfl rfl ?_
                obtain ⟨f3, hrm, hf3, hf4⟩ := sX0_raiseMost (X := X) (I := I) (J := J) (B := B) (A := ua (ua A (G 0) f) (G 1) g) (F := G) hS st hst e7 b m n l hl9 (GV_ua (F_lt hS).2.2.2.1 (GV_ua (F_lt hS).2.2.1 hV)) n8 k x j e (mo_d (fun k f => gnN b l (nI f) (m + k)) (fun s j => eN st s j) n (n - (k + 1))) hk_k hk_x hk_j he (fun s hs y hy => by rw [ua_eq]; exact hD s hs y hy) (fun s y => Nat.le_trans (mo_d_le (g := (fun k f => gnN b l (nI f) (m + k))) (fun k s => gnN_le hl9) _ s y) (by omega)) (fun y hy => by rw [tb_l0 (F_lt hS).2.2.2.2.1]; exact hfj y hy)
                refine q_callV4 rfl hx_13 (Nat.le_of_ble_eq_true rfl) (Nat.le_of_ble_eq_true rfl) (hrm) ?_
                refine q_iinc (v := sI 6 (j + 1)) (L' := [_, _, _, _, _, _, _]) rfl rfl (sI_inc 6 j) rfl ?_
                refine q_goto rfl ?_
                exact ih_j _ _ (⟨f3, rfl, by rw [tb_s0 (F_lt hS).2.2.2.2.1], fun s hs y hy => by rw [hf4 _ (by omega), tb_l0 (F_lt hS).2.2.2.2.1]; exact hf1 s hs y hy, fun s hs hs2 y hy => by rw [hf4 _ (by omega), tb_l0 (F_lt hS).2.2.2.2.1]; exact hf0 s hs hs2 y hy, hf3⟩)
            · obtain ⟨f, rfl, rfl, hf1, hf0, hfj⟩ := hi_j
              refine q_iload rfl rfl ?_
              refine q_bipush (v := nI 6) rfl rfl ?_
              refine q_icmp_gt rfl (fun hcjf44 => ?_) (fun hcjf44 => ?_)
              · refine q_iincN (c := 1) (L' := [_, _, _, _, _, _, _]) rfl rfl rfl rfl ?_
                refine q_goto rfl ?_
                exact ih_x _ _ (⟨f, _, rfl, rfl, fun s hs y hy => by by_cases e9 : s = x; subst e9; rw [hfj y hy, mo_row hk_k]; exact hf1 s (by omega) y hy, fun s hs hs2 y hy => hf0 s (by omega) hs2 y hy⟩)
              · exact absurd (show nI 6 < sI 6 13 by decide) hcjf44
        · obtain ⟨f, z6, rfl, rfl, hf1, hf0⟩ := hi_x
          refine q_iload rfl rfl ?_
          refine q_bipush (v := nI 24) rfl rfl ?_
          refine q_icmp_geN rfl (by omega) (by omega) (fun hcxf33 => ?_) (fun hcxf33 => ?_)
          · refine q_aload_n rfl rfl ?_
            refine q_callV0 rfl hx_13 (Nat.le_of_ble_eq_true rfl) (Nat.le_of_ble_eq_true rfl) (sX0_swapTables hS) ?_
            refine q_iinc (v := dI k) (L' := [_, _, _, _, _, _, _]) rfl rfl (dI_m k) rfl ?_
            refine q_goto rfl ?_
            exact ih_k _ _ (⟨uf (uf G 0 (G 1)) 1 (G 0), g, f, _, _, rfl, by rw [ua_comm (c := G 0) (d := G 1) (F_lt hS).2.2.2.2.1]; rfl, RelS_sw hS, fun s hs y hy => hf1 s hs y hy⟩)
          · omega
    · obtain ⟨G, f, g, z5, z6, rfl, rfl, hS, hD⟩ := hi_k
      refine q_iload rfl rfl ?_
      refine q_if_lt rfl (fun hckf15 => ?_) (fun hckf15 => ?_)
      · refine q_aload_n rfl rfl ?_
        refine q_getfield rfl hx_13 rfl ?_
        refine q_iload_n rfl rfl ?_
        refine q_callS1 rfl rfl (Nat.le_of_ble_eq_true rfl) (Nat.le_of_ble_eq_true rfl) (sK_round _) ?_
        refine q_cn (rdN_s hs0) ?_
        refine q_bipush (v := nI 41) rfl rfl ?_
        refine q_imulN rfl ?_
        refine q_iload_n rfl rfl ?_
        refine q_iaddN rfl ?_
        refine q_iald rfl ((F_lt hS).2.1) (hx_U hS) (by omega) (by decide) ((show (ua (ua A (G 0) f) (G 1) g) (G 1) (s0 * 41 + e) = nI _ from by rw [ua_eq]; exact hD s0 hs0 e (Nat.le_refl _))) ?_
        refine q_iret rfl rfl ?_
        exact ⟨G, f, g, rfl, rfl, hS⟩
      · exact absurd (by decide) hckf15)
  subst hr_
  subst hh_
  exact ⟨G, f, g, he_, hf_⟩
theorem c_most_b {X : XX} {I A : Nat → Nat → Int32} {J B : Nat → Nat → Int64} {F : Nat → Nat} (x : Int32) (hx : x < 0 ∨ I 0 12 ≤ x) (y z : Int32) : x_ev X xT 6 105 [.ref 0, .int x, .int y, .int z] (HX I A J B F) (some (.int (-1))) (HX I A J B F) := by
  refine q_ev (L := [some (.ref 0), some (.int x), some (.int y), some (.int z), none]) tX8_most (Nat.le_of_ble_eq_true rfl) rfl ?_
  refine q_aload_n rfl rfl ?_
  refine q_iload_n rfl rfl ?_
  refine q_callV1 rfl hx_0 (Nat.le_of_ble_eq_true rfl) (Nat.le_of_ble_eq_true rfl) (sX8_lightAtN x hx) ?_
  refine q_astoreN (L' := [_, _, _, _, _]) rfl rfl ?_
  refine q_aloadN rfl rfl ?_
  refine q_ifnullN rfl ?_
  refine q_iconst (v := (-1)) rfl rfl ?_
  refine q_iret rfl rfl ?_
  exact ⟨rfl, rfl⟩
theorem c_most_n {X : XX} {I A : Nat → Nat → Int32} {J B : Nat → Nat → Int64} {F : Nat → Nat} (ln : Nat) (hln : ln ≤ 5) (eln : I 0 12 = nI ln) (k : Nat) (hk : k < ln) (y z : Int32) (hy : y < nI 1 ∨ nI 8 < y) : x_ev X xT 6 105 [.ref 0, .int (nI k), .int y, .int z] (HX I A J B F) (some (.int (-1))) (HX I A J B F) := by
  refine q_ev (L := [some (.ref 0), some (.int (nI k)), some (.int y), some (.int z), none]) tX8_most (Nat.le_of_ble_eq_true rfl) rfl ?_
  refine q_aload_n rfl rfl ?_
  refine q_iload_n rfl rfl ?_
  refine q_callV1 rfl hx_0 (Nat.le_of_ble_eq_true rfl) (Nat.le_of_ble_eq_true rfl) (sX8_lightAt k ln hk hln eln) ?_
  refine q_astore (L' := [_, _, _, _, _]) rfl rfl ?_
  refine q_aload rfl rfl ?_
  refine q_ifnull rfl ?_
  refine q_iload_n rfl rfl ?_
  refine q_callS1 rfl rfl (Nat.le_of_ble_eq_true rfl) (Nat.le_of_ble_eq_true rfl) (sK_nofX y hy) ?_
  refine q_if_neN rfl (by omega) (fun hc16 => ?_) (fun hc16 => ?_)
  · refine q_iconst (v := (-1)) rfl rfl ?_
    refine q_iret rfl rfl ?_
    exact ⟨rfl, rfl⟩
  · exact absurd hc16 (by decide)
theorem c_most_e {X : XX} {I A : Nat → Nat → Int32} {J B : Nat → Nat → Int64} {F : Nat → Nat} (ln : Nat) (hln : ln ≤ 5) (eln : I 0 12 = nI ln) (k : Nat) (hk : k < ln) (n : Nat) (n1 : 1 ≤ n) (n8 : n ≤ 8) (z : Int32) (hz : z < 0 ∨ nI 40 < z) : x_ev X xT 6 105 [.ref 0, .int (nI k), .int (nI n), .int z] (HX I A J B F) (some (.int (-1))) (HX I A J B F) := by
  refine q_ev (L := [some (.ref 0), some (.int (nI k)), some (.int (nI n)), some (.int z), none]) tX8_most (Nat.le_of_ble_eq_true rfl) rfl ?_
  refine q_aload_n rfl rfl ?_
  refine q_iload_n rfl rfl ?_
  refine q_callV1 rfl hx_0 (Nat.le_of_ble_eq_true rfl) (Nat.le_of_ble_eq_true rfl) (sX8_lightAt k ln hk hln eln) ?_
  refine q_astore (L' := [_, _, _, _, _]) rfl rfl ?_
  refine q_aload rfl rfl ?_
  refine q_ifnull rfl ?_
  refine q_iload_n rfl rfl ?_
  refine q_callS1 rfl rfl (Nat.le_of_ble_eq_true rfl) (Nat.le_of_ble_eq_true rfl) (sK_nof0 n n1 n8) ?_
  refine q_if_neN rfl (by omega) (fun hc16 => ?_) (fun hc16 => ?_)
  · exact absurd hc16 (by decide)
  · refine q_iload_n rfl rfl ?_
    refine q_if_lt rfl (fun hc20 => ?_) (fun hc20 => ?_)
    · refine q_iconst (v := (-1)) rfl rfl ?_
      refine q_iret rfl rfl ?_
      exact ⟨rfl, rfl⟩
    · refine q_iload_n rfl rfl ?_
      refine q_bipush (v := nI 40) rfl rfl ?_
      refine q_icmp_le rfl (fun hc26 => ?_) (fun hc26 => ?_)
      · rcases hz with h | h
        · exact absurd h hc20
        · exact absurd hc26 (Int32.not_le.mpr h)
      · refine q_iconst (v := (-1)) rfl rfl ?_
        refine q_iret rfl rfl ?_
        exact ⟨rfl, rfl⟩
theorem c_most_0 {X : XX} {I A : Nat → Nat → Int32} {J B : Nat → Nat → Int64} {F : Nat → Nat} (hS : RelS F) (b : Nat) (hb : b ≤ 5) (eb : I 7 0 = nI b) (m : Nat) (em : I 8 2 = nI m) (hm : m ≤ 40) (s : Nat) (es : I 8 3 = nI s) (hs : s < 24) (st : Nat) (hst : st < 24) (e7 : I 7 1 = nI st) (ln : Nat) (hln : ln ≤ 5) (eln : I 0 12 = nI ln) (lks : ∀ i, i < 5 → lkOK I (40 + i)) (k : Nat) (hk : k < ln) (n : Nat) (n1 : 1 ≤ n) (n8 : n ≤ 8) (e : Nat) (he : e ≤ 40) : ∃ g1 G f g, x_ev X xT 6 105 [.ref 0, .int (nI k), .int (nI n), .int (nI e)] (HX I A J B F) (some (.int (nI (mo_d (fun i f => gnN b (cL I (40 + k)) (nI f) (m + i)) (fun s j => eN st s j) n n s e)))) (HX I (ua (ua (ua A 12 g1) (G 0) f) (G 1) g) J B G) ∧ RelS G := by
  obtain ⟨g1, h7, hV⟩ := sX7_fill (X := X) (I := I) (J := J) (B := B) (F := F) (A := A) b hb eb k (by omega) (lks k (by omega)) m n (by omega) n8
  obtain ⟨G, f, g, h8, hG⟩ := sX0_mostWithin (X := X) (I := I) (J := J) (B := B) (F := F) (A := ua A 12 g1) hS st hst e7 b m n (cL I (40 + k)) (lks k (by omega)).1.2 hV n8 s e hs he
  obtain ⟨r_, h_, he_, g1, G, f, g, hr_, hh_, hf_⟩ := q_evx (X := X) (d := 5) (as := [.ref 0, .int (nI k), .int (nI n), .int (nI e)]) (h := (HX I A J B F)) (P := fun r_ h_ => ∃ g1 G f g, r_ = (some (.int (nI (mo_d (fun i f => gnN b (cL I (40 + k)) (nI f) (m + i)) (fun s j => eN st s j) n n s e)))) ∧ h_ = (HX I (ua (ua (ua A 12 g1) (G 0) f) (G 1) g) J B G) ∧ RelS G) (L := [some (.ref 0), some (.int (nI k)), some (.int (nI n)), some (.int (nI e)), none]) tX8_most (Nat.le_of_ble_eq_true rfl) rfl (by
    refine q_aload_n rfl rfl ?_
    refine q_iload_n rfl rfl ?_
    refine q_callV1 rfl hx_0 (Nat.le_of_ble_eq_true rfl) (Nat.le_of_ble_eq_true rfl) (sX8_lightAt k ln hk hln eln) ?_
    refine q_astore (L' := [_, _, _, _, _]) rfl rfl ?_
    refine q_aload rfl rfl ?_
    refine q_ifnull rfl ?_
    refine q_iload_n rfl rfl ?_
    refine q_callS1 rfl rfl (Nat.le_of_ble_eq_true rfl) (Nat.le_of_ble_eq_true rfl) (sK_nof0 n n1 n8) ?_
    refine q_if_neN rfl (by omega) (fun hc16 => ?_) (fun hc16 => ?_)
    · exact absurd hc16 (by decide)
    · refine q_iload_n rfl rfl ?_
      refine q_if_ltN rfl (by omega) (fun hc20 => ?_) (fun hc20 => ?_)
      · omega
      · refine q_iload_n rfl rfl ?_
        refine q_bipush (v := nI 40) rfl rfl ?_
        refine q_icmp_leN rfl (by omega) (by omega) (fun hc26 => ?_) (fun hc26 => ?_)
        · refine q_aload_n rfl rfl ?_
          refine q_getfield rfl hx_0 rfl ?_
          refine q_aload rfl rfl ?_
          refine q_aload_n rfl rfl ?_
          refine q_getfield rfl hx_0 rfl ?_
          refine q_aload_n rfl rfl ?_
          refine q_getfield rfl hx_0 rfl ?_
          refine q_callV0 rfl hx_8 (Nat.le_of_ble_eq_true rfl) (Nat.le_of_ble_eq_true rfl) (sN_now em) ?_
          refine q_iload_n rfl rfl ?_
          refine q_callV4 rfl hx_11 (Nat.le_of_ble_eq_true rfl) (Nat.le_of_ble_eq_true rfl) (h7) ?_
          refine q_aload_n rfl rfl ?_
          refine q_getfield rfl hx_0 rfl ?_
          refine q_aload_n rfl rfl ?_
          refine q_getfield rfl hx_0 rfl ?_
          refine q_callV0 rfl hx_8 (Nat.le_of_ble_eq_true rfl) (Nat.le_of_ble_eq_true rfl) (sN_first es) ?_
          refine q_iload_n rfl rfl ?_
          refine q_iload_n rfl rfl ?_
          refine q_callV3 rfl hx_13 (Nat.le_of_ble_eq_true rfl) (Nat.le_of_ble_eq_true rfl) (h8) ?_
          refine q_iret rfl rfl ?_
          exact ⟨g1, G, f, g, rfl, rfl, hG⟩
        · omega)
  subst hr_
  subst hh_
  exact ⟨g1, G, f, g, he_, hf_⟩
