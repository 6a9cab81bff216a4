/-! the reference's reader -/
theorem u2_cm {I : Nat → Nat → Int32} {k l : Nat} {v w : Int32} (h : k ≠ l) : u2 (u2 I 51 k v) 51 l w = u2 (u2 I 51 l w) 51 k v := by
  funext x y
  unfold u2
  by_cases h1 : x = 51 ∧ y = l
  · rw [if_pos h1, if_neg (by omega), if_pos h1]
  · rw [if_neg h1, if_neg h1]
theorem pz_Fn {tx : Nat → Int32} {n lo hi p : Nat} (h : ¬ pz_F tx n lo hi p = 1) (hp : p < n) : tx p < nI (48 + lo) ∨ nI (48 + hi) < tx p := by
  by_cases h1 : tx p < nI (48 + lo)
  · exact Or.inl h1
  · by_cases h2 : nI (48 + hi) < tx p
    · exact Or.inr h2
    · exact absurd (if_pos ⟨hp, Int32.not_lt.mp h1, Int32.not_lt.mp h2⟩) h
theorem pz_Fp {tx : Nat → Int32} {n lo hi p : Nat} (h : pz_F tx n lo hi p = 1) : p < n ∧ ¬ tx p < nI (48 + lo) ∧ ¬ nI (48 + hi) < tx p := by
  unfold pz_F at h
  split at h
  · next z => exact ⟨z.1, Int32.not_lt.mpr z.2.1, Int32.not_lt.mpr z.2.2⟩
  · exact absurd h (by decide)
theorem sX9_here {X : XX} {I A : Nat → Nat → Int32} {J B : Nat → Nat → Int64} {F : Nat → Nat} (t n : Nat) (ht : t < 4) (hn : n ≤ 60) (hfr : I 51 17 = nI (60 * t)) (hen : I 51 19 = nI n) (tx : Nat → Int32) (htx : ∀ k, k < 60 → A 60 (60 * t + k) = tx k) (p : Nat) (hp : p < 60) : x_ev X xT 1 166 [.ref 51] (HX (u2 I 51 18 (nI p)) A J B F) (some (.int (tx p))) (HX (u2 I 51 18 (nI p)) A J B F) := by
  refine q_ev (L := [some (.ref 51)]) tX9_here (Nat.le_of_ble_eq_true rfl) rfl ?_
  refine q_aload_n rfl rfl ?_
  refine q_getfield rfl hx_51 rfl ?_
  refine q_aload_n rfl rfl ?_
  refine q_getI rfl hx_51 rfl ((by exact hfr)) ?_
  refine q_aload_n rfl rfl ?_
  refine q_getI rfl hx_51 rfl ((show _ = nI p from rfl)) ?_
  refine q_iaddN rfl ?_
  refine q_iald rfl (by decide) hx_60 (by omega) (by decide) ((htx p hp)) ?_
  refine q_iret rfl rfl ?_
  exact ⟨rfl, rfl⟩
theorem sX9_skip {X : XX} {I A : Nat → Nat → Int32} {J B : Nat → Nat → Int64} {F : Nat → Nat} (t n : Nat) (ht : t < 4) (hn : n ≤ 60) (hfr : I 51 17 = nI (60 * t)) (hen : I 51 19 = nI n) (tx : Nat → Int32) (htx : ∀ k, k < 60 → A 60 (60 * t + k) = tx k) (p : Nat) (hp : p ≤ n) : x_ev X xT 2 167 [.ref 51] (HX (u2 I 51 18 (nI p)) A J B F) none (HX (u2 I 51 18 (nI (pz_s tx n p))) A J B F) := by
  refine q_ev (L := [some (.ref 51)]) tX9_skip (Nat.le_of_ble_eq_true rfl) rfl ?_
  refine q_up (Inv := fun y L h => L = [some (.ref 51)] ∧ h = HX (u2 I 51 18 (nI y)) A J B F ∧ p ≤ y ∧ lrun (fun q => decide (tx q = 32)) (n - y) y = pz_s tx n p) (n) (fun y L h hk_y hi_y ih_y => ?_) (fun L h hi_y => ?_) (p) _ _ (by omega) (⟨rfl, rfl, Nat.le_refl _, rfl⟩)
  · obtain ⟨rfl, rfl, hpy, hr⟩ := hi_y
    refine q_aload_n rfl rfl ?_
    refine q_getI rfl hx_51 rfl ((show _ = nI y from rfl)) ?_
    refine q_aload_n rfl rfl ?_
    refine q_getI rfl hx_51 rfl ((by exact hen)) ?_
    refine q_icmp_geN rfl (by omega) (by omega) (fun hcys8 => ?_) (fun hcys8 => ?_)
    · omega
    · refine q_aload_n rfl rfl ?_
      refine q_callV0 rfl hx_51 (Nat.le_of_ble_eq_true rfl) (Nat.le_of_ble_eq_true rfl) (sX9_here t n ht hn hfr hen tx htx  y (by omega)) ?_
      refine q_bipush (v := 32) rfl rfl ?_
      refine q_icmp_ne rfl (fun hcys17 => ?_) (fun hcys17 => ?_)
      · refine q_vret rfl rfl ?_
        exact ⟨rfl, by rw [← hr, lrun_f (decide_eq_false (fun z => hcys17 z))]⟩
      · refine q_aload_n rfl rfl ?_
        refine q_dupA rfl ?_
        refine q_getI rfl hx_51 rfl ((show _ = nI y from rfl)) ?_
        refine q_iconst (v := nI 1) rfl rfl ?_
        refine q_iaddN rfl ?_
        refine q_putfield rfl hx_51 rfl (Nat.le_of_ble_eq_true rfl) (rfl) (by decide +kernel) ?_
        refine q_heap (hs_51_18 _) ?_
        refine q_goto rfl ?_
        exact ih_y _ _ (⟨rfl, congrArg (fun z => HX z A J B F) u2_u2, by omega, by rw [← lrun_t hk_y (decide_eq_true (show tx y = 32 from hcys17))]; exact hr⟩)
  · obtain ⟨rfl, rfl, hpy, hr⟩ := hi_y
    refine q_aload_n rfl rfl ?_
    refine q_getI rfl hx_51 rfl ((show _ = nI n from rfl)) ?_
    refine q_aload_n rfl rfl ?_
    refine q_getI rfl hx_51 rfl ((by exact hen)) ?_
    refine q_icmp_geN rfl (by omega) (by omega) (fun hcyf8 => ?_) (fun hcyf8 => ?_)
    · refine q_vret rfl rfl ?_
      exact ⟨rfl, by rw [← hr, Nat.sub_self]; rfl⟩
    · omega
theorem fig_1 {X : XX} {I A : Nat → Nat → Int32} {J B : Nat → Nat → Int64} {F : Nat → Nat} (t n : Nat) (ht : t < 4) (hn : n ≤ 60) (hfr : I 51 17 = nI (60 * t)) (hen : I 51 19 = nI n) (tx : Nat → Int32) (htx : ∀ k, k < 60 → A 60 (60 * t + k) = tx k) (lo hi : Nat) (hl : lo ≤ 9) (hh : hi ≤ 9) (p : Nat) (hF : pz_F tx n lo hi p = 1) : x_ev X xT 2 168 [.ref 51, .int (nI lo), .int (nI hi)] (HX (u2 I 51 18 (nI p)) A J B F) (some (.int (nI (pz_d tx p)))) (HX (u2 I 51 18 (nI (p + 1))) A J B F) := by
  obtain ⟨hpn, h1, h2⟩ := pz_Fp hF
  have hd := pz_dig hl hh hF
  refine q_ev (L := [some (.ref 51), some (.int (nI lo)), some (.int (nI hi))]) tX9_figure (Nat.le_of_ble_eq_true rfl) rfl ?_
  refine q_aload_n rfl rfl ?_
  refine q_getI rfl hx_51 rfl ((show _ = nI p from rfl)) ?_
  refine q_aload_n rfl rfl ?_
  refine q_getI rfl hx_51 rfl ((by exact hen)) ?_
  refine q_icmp_eqN rfl (by omega) (by omega) (fun hc8 => ?_) (fun hc8 => ?_)
  · omega
  · refine q_aload_n rfl rfl ?_
    refine q_callV0 rfl hx_51 (Nat.le_of_ble_eq_true rfl) (Nat.le_of_ble_eq_true rfl) (sX9_here t n ht hn hfr hen tx htx  p (by omega)) ?_
    refine q_i2l rfl ?_
    refine q_bipush (v := nI 48) rfl rfl ?_
    refine q_iload_n rfl rfl ?_
    refine q_iaddN rfl ?_
    refine q_i2l rfl ?_
    refine q_bipush (v := nI 48) rfl rfl ?_
    refine q_iload_n rfl rfl ?_
    refine q_iaddN rfl ?_
    refine q_i2l rfl ?_
    refine q_callS3 rfl rfl (Nat.le_of_ble_eq_true rfl) (Nat.le_of_ble_eq_true rfl) (sX9_in _ _ _) ?_
    refine q_cn (f_in_1 (lo := nI (48 + lo)) (hi := nI (48 + hi)) rfl rfl h1 h2) ?_
    refine q_if_neN rfl (by omega) (fun hc29 => ?_) (fun hc29 => ?_)
    · refine q_aload_n rfl rfl ?_
      refine q_dupA rfl ?_
      refine q_getI rfl hx_51 rfl ((show _ = nI p from rfl)) ?_
      refine q_iconst (v := nI 1) rfl rfl ?_
      refine q_iaddN rfl ?_
      refine q_putfield rfl hx_51 rfl (Nat.le_of_ble_eq_true rfl) (rfl) (by decide +kernel) ?_
      refine q_heap (hs_51_18 _) ?_
      refine q_aload_n rfl rfl ?_
      refine q_getfield rfl hx_51 rfl ?_
      refine q_aload_n rfl rfl ?_
      refine q_getI rfl hx_51 rfl ((by exact hfr)) ?_
      refine q_aload_n rfl rfl ?_
      refine q_getI rfl hx_51 rfl ((show _ = nI (p + 1) from rfl)) ?_
      refine q_iaddN rfl ?_
      refine q_iconst (v := nI 1) rfl rfl ?_
      refine q_isubN rfl (by omega) ?_
      refine q_iald rfl (by decide) hx_60 (by omega) (by decide) ((show A 60 (60 * t + (p + 1) - 1) = nI (48 + pz_d tx p) from by rw [show 60 * t + (p + 1) - 1 = 60 * t + p by omega, htx p (by omega)]; exact hd.2.2.2.1)) ?_
      refine q_bipush (v := nI 48) rfl rfl ?_
      refine q_isubN rfl (by omega) ?_
      refine q_cn (congrArg nI (show 48 + pz_d tx p - 48 = pz_d tx p by omega)) ?_
      refine q_iret rfl rfl ?_
      exact ⟨rfl, congrArg (fun z => HX z A J B F) u2_u2⟩
    · exact absurd hc29 (by decide)
theorem fig_0 {X : XX} {I A : Nat → Nat → Int32} {J B : Nat → Nat → Int64} {F : Nat → Nat} (t n : Nat) (ht : t < 4) (hn : n ≤ 60) (hfr : I 51 17 = nI (60 * t)) (hen : I 51 19 = nI n) (tx : Nat → Int32) (htx : ∀ k, k < 60 → A 60 (60 * t + k) = tx k) (lo hi : Nat) (hl : lo ≤ 9) (hh : hi ≤ 9) (p : Nat) (hp : p ≤ n) (hF : ¬ pz_F tx n lo hi p = 1) : x_ev X xT 2 168 [.ref 51, .int (nI lo), .int (nI hi)] (HX (u2 I 51 18 (nI p)) A J B F) (some (.int (-9))) (HX (u2 I 51 18 (nI p)) A J B F) := by
  refine q_ev (L := [some (.ref 51), some (.int (nI lo)), some (.int (nI hi))]) tX9_figure (Nat.le_of_ble_eq_true rfl) rfl ?_
  refine q_aload_n rfl rfl ?_
  refine q_getI rfl hx_51 rfl ((show _ = nI p from rfl)) ?_
  refine q_aload_n rfl rfl ?_
  refine q_getI rfl hx_51 rfl ((by exact hen)) ?_
  refine q_icmp_eqN rfl (by omega) (by omega) (fun hc8 => ?_) (fun hc8 => ?_)
  · refine q_bipush (v := (-9)) rfl rfl ?_
    refine q_iret rfl rfl ?_
    exact ⟨rfl, rfl⟩
  · refine q_aload_n rfl rfl ?_
    refine q_callV0 rfl hx_51 (Nat.le_of_ble_eq_true rfl) (Nat.le_of_ble_eq_true rfl) (sX9_here t n ht hn hfr hen tx htx  p (by omega)) ?_
    refine q_i2l rfl ?_
    refine q_bipush (v := nI 48) rfl rfl ?_
    refine q_iload_n rfl rfl ?_
    refine q_iaddN rfl ?_
    refine q_i2l rfl ?_
    refine q_bipush (v := nI 48) rfl rfl ?_
    refine q_iload_n rfl rfl ?_
    refine q_iaddN rfl ?_
    refine q_i2l rfl ?_
    refine q_callS3 rfl rfl (Nat.le_of_ble_eq_true rfl) (Nat.le_of_ble_eq_true rfl) (sX9_in _ _ _) ?_
    refine q_cn (f_in_0 (lo := nI (48 + lo)) (hi := nI (48 + hi)) rfl rfl (pz_Fn hF (by omega))) ?_
    refine q_if_neN rfl (by omega) (fun hc29 => ?_) (fun hc29 => ?_)
    · exact absurd hc29 (by decide)
    · refine q_bipush (v := (-9)) rfl rfl ?_
      refine q_iret rfl rfl ?_
      exact ⟨rfl, rfl⟩
theorem pz_h_le (tx : Nat → Int32) (p : Nat) : pz_h tx p ≤ 9 := by
  unfold pz_h
  split <;> decide
theorem fgs_2 {X : XX} {I A : Nat → Nat → Int32} {J B : Nat → Nat → Int64} {F : Nat → Nat} (t n : Nat) (ht : t < 4) (hn : n ≤ 60) (hfr : I 51 17 = nI (60 * t)) (hen : I 51 19 = nI n) (tx : Nat → Int32) (htx : ∀ k, k < 60 → A 60 (60 * t + k) = tx k) (p : Nat) (h1 : pz_F tx n 0 2 p = 1) (h2 : pz_F tx n 0 (pz_h tx p) (p + 1) = 1) : x_ev X xT 3 169 [.ref 51] (HX (u2 I 51 18 (nI p)) A J B F) (some (.int (nI (10 * pz_d tx p + pz_d tx (p + 1))))) (HX (u2 I 51 18 (nI (p + 2))) A J B F) := by
  have hd1 := pz_dig (by decide) (by decide) h1
  have hd2 := pz_dig (by decide) (pz_h_le tx p) h2
  refine q_ev (L := [some (.ref 51), none, none]) tX9_figures (Nat.le_of_ble_eq_true rfl) rfl ?_
  refine q_aload_n rfl rfl ?_
  refine q_iconst (v := nI 0) rfl rfl ?_
  refine q_iconst (v := nI 2) rfl rfl ?_
  refine q_callV2 rfl hx_51 (Nat.le_of_ble_eq_true rfl) (Nat.le_of_ble_eq_true rfl) (fig_1 t n ht hn hfr hen tx htx  0 2 (by decide) (by decide) p h1) ?_
  refine q_istore_n (L' := [_, _, _]) rfl rfl ?_
  refine q_iload_n rfl rfl ?_
  refine q_bipush (v := (-9)) rfl rfl ?_
  refine q_icmp_ne rfl (fun hc10 => ?_) (fun hc10 => ?_)
  · refine q_aload_n rfl rfl ?_
    refine q_iconst (v := nI 0) rfl rfl ?_
    refine q_iload_n rfl rfl ?_
    refine q_iconst (v := nI 2) rfl rfl ?_
    refine q_icmp_neN rfl (by omega) (by omega) (fun hc22 => ?_) (fun hc22 => ?_)
    · refine q_bipush (v := nI 9) rfl rfl ?_
      refine q_cn (show _ = nI (pz_h tx p) from congrArg nI (by unfold pz_h; first | rw [if_pos hc22] | rw [if_neg hc22])) ?_
      refine q_callV2 rfl hx_51 (Nat.le_of_ble_eq_true rfl) (Nat.le_of_ble_eq_true rfl) (fig_1 t n ht hn hfr hen tx htx  0 (pz_h tx p) (by decide) (pz_h_le tx p) (p + 1) h2) ?_
      refine q_istore_n (L' := [_, _, _]) rfl rfl ?_
      refine q_iload_n rfl rfl ?_
      refine q_bipush (v := (-9)) rfl rfl ?_
      refine q_icmp_ne rfl (fun hc38 => ?_) (fun hc38 => ?_)
      · refine q_bipush (v := nI 10) rfl rfl ?_
        refine q_iload_n rfl rfl ?_
        refine q_imulN rfl ?_
        refine q_iload_n rfl rfl ?_
        refine q_iaddN rfl ?_
        refine q_iret rfl rfl ?_
        exact ⟨rfl, rfl⟩
      · exact absurd hc38 (nI_m9 (by have := pz_h_le tx p; omega))
    · refine q_iconst (v := nI 3) rfl rfl ?_
      refine q_goto rfl ?_
      refine q_cn (show _ = nI (pz_h tx p) from congrArg nI (by unfold pz_h; first | rw [if_pos hc22] | rw [if_neg hc22])) ?_
      refine q_callV2 rfl hx_51 (Nat.le_of_ble_eq_true rfl) (Nat.le_of_ble_eq_true rfl) (fig_1 t n ht hn hfr hen tx htx  0 (pz_h tx p) (by decide) (pz_h_le tx p) (p + 1) h2) ?_
      refine q_istore_n (L' := [_, _, _]) rfl rfl ?_
      refine q_iload_n rfl rfl ?_
      refine q_bipush (v := (-9)) rfl rfl ?_
      refine q_icmp_ne rfl (fun hc38 => ?_) (fun hc38 => ?_)
      · refine q_bipush (v := nI 10) rfl rfl ?_
        refine q_iload_n rfl rfl ?_
        refine q_imulN rfl ?_
        refine q_iload_n rfl rfl ?_
        refine q_iaddN rfl ?_
        refine q_iret rfl rfl ?_
        exact ⟨rfl, rfl⟩
      · exact absurd hc38 (nI_m9 (by have := pz_h_le tx p; omega))
  · exact absurd hc10 (nI_m9 (by omega))
theorem fgs_1 {X : XX} {I A : Nat → Nat → Int32} {J B : Nat → Nat → Int64} {F : Nat → Nat} (t n : Nat) (ht : t < 4) (hn : n ≤ 60) (hfr : I 51 17 = nI (60 * t)) (hen : I 51 19 = nI n) (tx : Nat → Int32) (htx : ∀ k, k < 60 → A 60 (60 * t + k) = tx k) (p : Nat) (h1 : pz_F tx n 0 2 p = 1) (h2 : ¬ pz_F tx n 0 (pz_h tx p) (p + 1) = 1) : x_ev X xT 3 169 [.ref 51] (HX (u2 I 51 18 (nI p)) A J B F) (some (.int (-9))) (HX (u2 I 51 18 (nI (p + 1))) A J B F) := by
  have hd1 := pz_dig (by decide) (by decide) h1
  refine q_ev (L := [some (.ref 51), none, none]) tX9_figures (Nat.le_of_ble_eq_true rfl) rfl ?_
  refine q_aload_n rfl rfl ?_
  refine q_iconst (v := nI 0) rfl rfl ?_
  refine q_iconst (v := nI 2) rfl rfl ?_
  refine q_callV2 rfl hx_51 (Nat.le_of_ble_eq_true rfl) (Nat.le_of_ble_eq_true rfl) (fig_1 t n ht hn hfr hen tx htx  0 2 (by decide) (by decide) p h1) ?_
  refine q_istore_n (L' := [_, _, _]) rfl rfl ?_
  refine q_iload_n rfl rfl ?_
  refine q_bipush (v := (-9)) rfl rfl ?_
  refine q_icmp_ne rfl (fun hc10 => ?_) (fun hc10 => ?_)
  · refine q_aload_n rfl rfl ?_
    refine q_iconst (v := nI 0) rfl rfl ?_
    refine q_iload_n rfl rfl ?_
    refine q_iconst (v := nI 2) rfl rfl ?_
    refine q_icmp_neN rfl (by omega) (by omega) (fun hc22 => ?_) (fun hc22 => ?_)
    · refine q_bipush (v := nI 9) rfl rfl ?_
      refine q_cn (show _ = nI (pz_h tx p) from congrArg nI (by unfold pz_h; first | rw [if_pos hc22] | rw [if_neg hc22])) ?_
      refine q_callV2 rfl hx_51 (Nat.le_of_ble_eq_true rfl) (Nat.le_of_ble_eq_true rfl) (fig_0 t n ht hn hfr hen tx htx  0 (pz_h tx p) (by decide) (pz_h_le tx p) (p + 1) (by omega) h2) ?_
      refine q_istore_n (L' := [_, _, _]) rfl rfl ?_
      refine q_iload_n rfl rfl ?_
      refine q_bipush (v := (-9)) rfl rfl ?_
      refine q_icmp_ne rfl (fun hc38 => ?_) (fun hc38 => ?_)
      · exact absurd hc38 (by decide)
      · refine q_bipush (v := (-9)) rfl rfl ?_
        refine q_goto rfl ?_
        refine q_iret rfl rfl ?_
        exact ⟨rfl, rfl⟩
    · refine q_iconst (v := nI 3) rfl rfl ?_
      refine q_goto rfl ?_
      refine q_cn (show _ = nI (pz_h tx p) from congrArg nI (by unfold pz_h; first | rw [if_pos hc22] | rw [if_neg hc22])) ?_
      refine q_callV2 rfl hx_51 (Nat.le_of_ble_eq_true rfl) (Nat.le_of_ble_eq_true rfl) (fig_0 t n ht hn hfr hen tx htx  0 (pz_h tx p) (by decide) (pz_h_le tx p) (p + 1) (by omega) h2) ?_
      refine q_istore_n (L' := [_, _, _]) rfl rfl ?_
      refine q_iload_n rfl rfl ?_
      refine q_bipush (v := (-9)) rfl rfl ?_
      refine q_icmp_ne rfl (fun hc38 => ?_) (fun hc38 => ?_)
      · exact absurd hc38 (by decide)
      · refine q_bipush (v := (-9)) rfl rfl ?_
        refine q_goto rfl ?_
        refine q_iret rfl rfl ?_
        exact ⟨rfl, rfl⟩
  · exact absurd hc10 (nI_m9 (by omega))
theorem fgs_0 {X : XX} {I A : Nat → Nat → Int32} {J B : Nat → Nat → Int64} {F : Nat → Nat} (t n : Nat) (ht : t < 4) (hn : n ≤ 60) (hfr : I 51 17 = nI (60 * t)) (hen : I 51 19 = nI n) (tx : Nat → Int32) (htx : ∀ k, k < 60 → A 60 (60 * t + k) = tx k) (p : Nat) (hp : p ≤ n) (h1 : ¬ pz_F tx n 0 2 p = 1) : x_ev X xT 3 169 [.ref 51] (HX (u2 I 51 18 (nI p)) A J B F) (some (.int (-9))) (HX (u2 I 51 18 (nI p)) A J B F) := by
  refine q_ev (L := [some (.ref 51), none, none]) tX9_figures (Nat.le_of_ble_eq_true rfl) rfl ?_
  refine q_aload_n rfl rfl ?_
  refine q_iconst (v := nI 0) rfl rfl ?_
  refine q_iconst (v := nI 2) rfl rfl ?_
  refine q_callV2 rfl hx_51 (Nat.le_of_ble_eq_true rfl) (Nat.le_of_ble_eq_true rfl) (fig_0 t n ht hn hfr hen tx htx  0 2 (by decide) (by decide) p hp h1) ?_
  refine q_istore_n (L' := [_, _, _]) rfl rfl ?_
  refine q_iload_n rfl rfl ?_
  refine q_bipush (v := (-9)) rfl rfl ?_
  refine q_icmp_ne rfl (fun hc10 => ?_) (fun hc10 => ?_)
  · exact absurd hc10 (by decide)
  · refine q_bipush (v := (-9)) rfl rfl ?_
    refine q_goto rfl ?_
    refine q_istore_n (L' := [_, _, _]) rfl rfl ?_
    refine q_iload_n rfl rfl ?_
    refine q_bipush (v := (-9)) rfl rfl ?_
    refine q_icmp_ne rfl (fun hc38 => ?_) (fun hc38 => ?_)
    · exact absurd hc38 (by decide)
    · refine q_bipush (v := (-9)) rfl rfl ?_
      refine q_goto rfl ?_
      refine q_iret rfl rfl ?_
      exact ⟨rfl, rfl⟩
theorem pz_Op {tx : Nat → Int32} {n p : Nat} (h : pz_O tx n p = 1) : p < n ∧ tx p = 111 := by
  unfold pz_O at h
  split at h
  · assumption
  · exact absurd h (by decide)
theorem rs_a {X : XX} {I A : Nat → Nat → Int32} {J B : Nat → Nat → Int64} {F : Nat → Nat} (t n : Nat) (ht : t < 4) (hn : n ≤ 60) (hfr : I 51 17 = nI (60 * t)) (hen : I 51 19 = nI n) (tx : Nat → Int32) (htx : ∀ k, k < 60 → A 60 (60 * t + k) = tx k) (hO : ¬ pz_O tx n (pz_s tx n 0) = 1) : x_ev X xT 4 170 [.ref 51] (HX (u2 I 51 18 (nI 0)) A J B F) (some (.int (nI 0))) (HX (u2 I 51 18 (nI (pz_s tx n 0))) A J B F) := by
  have hq := pz_s_le (tx := tx) (n := n) (Nat.zero_le n)
  
  refine q_ev (L := [some (.ref 51)]) tX9_readsSlit (Nat.le_of_ble_eq_true rfl) rfl ?_
  refine q_aload_n rfl rfl ?_
  refine q_callV0 rfl hx_51 (Nat.le_of_ble_eq_true rfl) (Nat.le_of_ble_eq_true rfl) (sX9_skip t n ht hn hfr hen tx htx  0 (Nat.zero_le _)) ?_
  refine q_aload_n rfl rfl ?_
  refine q_getI rfl hx_51 rfl ((show _ = nI (pz_s tx n 0) from rfl)) ?_
  refine q_aload_n rfl rfl ?_
  refine q_getI rfl hx_51 rfl ((by exact hen)) ?_
  refine q_icmp_eqN rfl (by omega) (by omega) (fun hc12 => ?_) (fun hc12 => ?_)
  · refine q_iconst (v := nI 0) rfl rfl ?_
    refine q_zret rfl rfl (by decide) ?_
    exact ⟨rfl, rfl⟩
  · refine q_aload_n rfl rfl ?_
    refine q_callV0 rfl hx_51 (Nat.le_of_ble_eq_true rfl) (Nat.le_of_ble_eq_true rfl) (sX9_here t n ht hn hfr hen tx htx  (pz_s tx n 0) (by omega)) ?_
    refine q_bipush (v := 111) rfl rfl ?_
    refine q_icmp_eq rfl (fun hc21 => ?_) (fun hc21 => ?_)
    · exact absurd (if_pos ⟨by omega, hc21⟩) hO
    · refine q_iconst (v := nI 0) rfl rfl ?_
      refine q_zret rfl rfl (by decide) ?_
      exact ⟨rfl, rfl⟩
theorem rs_b {X : XX} {I A : Nat → Nat → Int32} {J B : Nat → Nat → Int64} {F : Nat → Nat} (t n : Nat) (ht : t < 4) (hn : n ≤ 60) (hfr : I 51 17 = nI (60 * t)) (hen : I 51 19 = nI n) (tx : Nat → Int32) (htx : ∀ k, k < 60 → A 60 (60 * t + k) = tx k) (hO : pz_O tx n (pz_s tx n 0) = 1) (h0 : ¬ pz_F tx n 1 5 ((pz_s tx n 0) + 1) = 1) : x_ev X xT 4 170 [.ref 51] (HX (u2 I 51 18 (nI 0)) A J B F) (some (.int (nI 0))) (HX (u2 (u2 (u2 I 51 18 (nI ((pz_s tx n 0) + 1))) 51 20 (-9)) 51 21 (-9)) A J B F) := by
  have hq := pz_s_le (tx := tx) (n := n) (Nat.zero_le n)
  obtain ⟨hqn, hq1⟩ := pz_Op hO
  
  refine q_ev (L := [some (.ref 51)]) tX9_readsSlit (Nat.le_of_ble_eq_true rfl) rfl ?_
  refine q_aload_n rfl rfl ?_
  refine q_callV0 rfl hx_51 (Nat.le_of_ble_eq_true rfl) (Nat.le_of_ble_eq_true rfl) (sX9_skip t n ht hn hfr hen tx htx  0 (Nat.zero_le _)) ?_
  refine q_aload_n rfl rfl ?_
  refine q_getI rfl hx_51 rfl ((show _ = nI (pz_s tx n 0) from rfl)) ?_
  refine q_aload_n rfl rfl ?_
  refine q_getI rfl hx_51 rfl ((by exact hen)) ?_
  refine q_icmp_eqN rfl (by omega) (by omega) (fun hc12 => ?_) (fun hc12 => ?_)
  · omega
  · refine q_aload_n rfl rfl ?_
    refine q_callV0 rfl hx_51 (Nat.le_of_ble_eq_true rfl) (Nat.le_of_ble_eq_true rfl) (sX9_here t n ht hn hfr hen tx htx  (pz_s tx n 0) (by omega)) ?_
    refine q_bipush (v := 111) rfl rfl ?_
    refine q_icmp_eq rfl (fun hc21 => ?_) (fun hc21 => ?_)
    · refine q_aload_n rfl rfl ?_
      refine q_dupA rfl ?_
      refine q_getI rfl hx_51 rfl ((show _ = nI (pz_s tx n 0) from rfl)) ?_
      refine q_iconst (v := nI 1) rfl rfl ?_
      refine q_iaddN rfl ?_
      refine q_putfield rfl hx_51 rfl (Nat.le_of_ble_eq_true rfl) (rfl) (by decide +kernel) ?_
      refine q_heap (hs_51_18 _) ?_
      refine q_heap (congrArg (fun z => HX z A J B F) u2_u2) ?_
      refine q_aload_n rfl rfl ?_
      refine q_aload_n rfl rfl ?_
      refine q_iconst (v := nI 1) rfl rfl ?_
      refine q_iconst (v := nI 5) rfl rfl ?_
      refine q_callV2 rfl hx_51 (Nat.le_of_ble_eq_true rfl) (Nat.le_of_ble_eq_true rfl) (fig_0 t n ht hn hfr hen tx htx  1 5 (by decide) (by decide) ((pz_s tx n 0) + 1) (by omega) h0) ?_
      refine q_putfield rfl hx_51 rfl (Nat.le_of_ble_eq_true rfl) (rfl) (by decide +kernel) ?_
      refine q_heap (hs_51_20 _) ?_
      refine q_aload_n rfl rfl ?_
      refine q_aload_n rfl rfl ?_
      refine q_getI rfl hx_51 rfl ((show _ = -9 from rfl)) ?_
      refine q_bipush (v := (-9)) rfl rfl ?_
      refine q_icmp_ne rfl (fun hc53 => ?_) (fun hc53 => ?_)
      · exact absurd hc53 (by decide)
      · refine q_bipush (v := (-9)) rfl rfl ?_
        refine q_goto rfl ?_
        refine q_putfield rfl hx_51 rfl (Nat.le_of_ble_eq_true rfl) (rfl) (by decide +kernel) ?_
        refine q_heap (hs_51_21 _) ?_
        refine q_aload_n rfl rfl ?_
        refine q_getI rfl hx_51 rfl ((show _ = -9 from rfl)) ?_
        refine q_bipush (v := (-9)) rfl rfl ?_
        refine q_icmp_eq rfl (fun hc74 => ?_) (fun hc74 => ?_)
        · refine q_iconst (v := nI 0) rfl rfl ?_
          refine q_zret rfl rfl (by decide) ?_
          exact ⟨rfl, rfl⟩
        · exact absurd hc74 (by decide)
    · exact absurd hq1 hc21
theorem rs_c {X : XX} {I A : Nat → Nat → Int32} {J B : Nat → Nat → Int64} {F : Nat → Nat} (t n : Nat) (ht : t < 4) (hn : n ≤ 60) (hfr : I 51 17 = nI (60 * t)) (hen : I 51 19 = nI n) (tx : Nat → Int32) (htx : ∀ k, k < 60 → A 60 (60 * t + k) = tx k) (hO : pz_O tx n (pz_s tx n 0) = 1) (h0 : pz_F tx n 1 5 ((pz_s tx n 0) + 1) = 1) (h1 : ¬ pz_F tx n 0 2 ((pz_s tx n 0) + 2) = 1) : x_ev X xT 4 170 [.ref 51] (HX (u2 I 51 18 (nI 0)) A J B F) (some (.int (nI 0))) (HX (u2 (u2 (u2 I 51 20 (nI (pz_d tx ((pz_s tx n 0) + 1)))) 51 18 (nI ((pz_s tx n 0) + 2))) 51 21 (-9)) A J B F) := by
  have hq := pz_s_le (tx := tx) (n := n) (Nat.zero_le n)
  obtain ⟨hqn, hq1⟩ := pz_Op hO
  have hd0 := pz_dig (by decide) (by decide) h0
  
  refine q_ev (L := [some (.ref 51)]) tX9_readsSlit (Nat.le_of_ble_eq_true rfl) rfl ?_
  refine q_aload_n rfl rfl ?_
  refine q_callV0 rfl hx_51 (Nat.le_of_ble_eq_true rfl) (Nat.le_of_ble_eq_true rfl) (sX9_skip t n ht hn hfr hen tx htx  0 (Nat.zero_le _)) ?_
  refine q_aload_n rfl rfl ?_
  refine q_getI rfl hx_51 rfl ((show _ = nI (pz_s tx n 0) from rfl)) ?_
  refine q_aload_n rfl rfl ?_
  refine q_getI rfl hx_51 rfl ((by exact hen)) ?_
  refine q_icmp_eqN rfl (by omega) (by omega) (fun hc12 => ?_) (fun hc12 => ?_)
  · omega
  · refine q_aload_n rfl rfl ?_
    refine q_callV0 rfl hx_51 (Nat.le_of_ble_eq_true rfl) (Nat.le_of_ble_eq_true rfl) (sX9_here t n ht hn hfr hen tx htx  (pz_s tx n 0) (by omega)) ?_
    refine q_bipush (v := 111) rfl rfl ?_
    refine q_icmp_eq rfl (fun hc21 => ?_) (fun hc21 => ?_)
    · refine q_aload_n rfl rfl ?_
      refine q_dupA rfl ?_
      refine q_getI rfl hx_51 rfl ((show _ = nI (pz_s tx n 0) from rfl)) ?_
      refine q_iconst (v := nI 1) rfl rfl ?_
      refine q_iaddN rfl ?_
      refine q_putfield rfl hx_51 rfl (Nat.le_of_ble_eq_true rfl) (rfl) (by decide +kernel) ?_
      refine q_heap (hs_51_18 _) ?_
      refine q_heap (congrArg (fun z => HX z A J B F) u2_u2) ?_
      refine q_aload_n rfl rfl ?_
      refine q_aload_n rfl rfl ?_
      refine q_iconst (v := nI 1) rfl rfl ?_
      refine q_iconst (v := nI 5) rfl rfl ?_
      refine q_callV2 rfl hx_51 (Nat.le_of_ble_eq_true rfl) (Nat.le_of_ble_eq_true rfl) (fig_1 t n ht hn hfr hen tx htx  1 5 (by decide) (by decide) ((pz_s tx n 0) + 1) h0) ?_
      refine q_putfield rfl hx_51 rfl (Nat.le_of_ble_eq_true rfl) (rfl) (by decide +kernel) ?_
      refine q_heap (hs_51_20 _) ?_
      refine q_aload_n rfl rfl ?_
      refine q_aload_n rfl rfl ?_
      refine q_getI rfl hx_51 rfl ((show _ = (nI (pz_d tx ((pz_s tx n 0) + 1))) from rfl)) ?_
      refine q_bipush (v := (-9)) rfl rfl ?_
      refine q_icmp_ne rfl (fun hc53 => ?_) (fun hc53 => ?_)
      · refine q_heap (congrArg (fun z => HX z A J B F) (u2_cm (k := 18) (l := 20) (by decide))) ?_
        refine q_aload_n rfl rfl ?_
        refine q_callV0 rfl hx_51 (Nat.le_of_ble_eq_true rfl) (Nat.le_of_ble_eq_true rfl) (fgs_0 t n ht hn ((u2_ne (Or.inr (by decide))).trans hfr) ((u2_ne (Or.inr (by decide))).trans hen) tx htx  ((pz_s tx n 0) + 2) (by omega) h1) ?_
        refine q_putfield rfl hx_51 rfl (Nat.le_of_ble_eq_true rfl) (rfl) (by decide +kernel) ?_
        refine q_heap (hs_51_21 _) ?_
        refine q_aload_n rfl rfl ?_
        refine q_getI rfl hx_51 rfl ((show _ = -9 from rfl)) ?_
        refine q_bipush (v := (-9)) rfl rfl ?_
        refine q_icmp_eq rfl (fun hc74 => ?_) (fun hc74 => ?_)
        · refine q_iconst (v := nI 0) rfl rfl ?_
          refine q_zret rfl rfl (by decide) ?_
          exact ⟨rfl, rfl⟩
        · exact absurd hc74 (by decide)
      · exact absurd hc53 (nI_m9 (by omega))
    · exact absurd hq1 hc21
theorem rs_d {X : XX} {I A : Nat → Nat → Int32} {J B : Nat → Nat → Int64} {F : Nat → Nat} (t n : Nat) (ht : t < 4) (hn : n ≤ 60) (hfr : I 51 17 = nI (60 * t)) (hen : I 51 19 = nI n) (tx : Nat → Int32) (htx : ∀ k, k < 60 → A 60 (60 * t + k) = tx k) (hO : pz_O tx n (pz_s tx n 0) = 1) (h0 : pz_F tx n 1 5 ((pz_s tx n 0) + 1) = 1) (h1 : pz_F tx n 0 2 ((pz_s tx n 0) + 2) = 1) (h2 : ¬ pz_F tx n 0 (pz_h tx ((pz_s tx n 0) + 2)) ((pz_s tx n 0) + 3) = 1) : x_ev X xT 4 170 [.ref 51] (HX (u2 I 51 18 (nI 0)) A J B F) (some (.int (nI 0))) (HX (u2 (u2 (u2 I 51 20 (nI (pz_d tx ((pz_s tx n 0) + 1)))) 51 18 (nI ((pz_s tx n 0) + 3))) 51 21 (-9)) A J B F) := by
  have hq := pz_s_le (tx := tx) (n := n) (Nat.zero_le n)
  obtain ⟨hqn, hq1⟩ := pz_Op hO
  have hd0 := pz_dig (by decide) (by decide) h0
  
  refine q_ev (L := [some (.ref 51)]) tX9_readsSlit (Nat.le_of_ble_eq_true rfl) rfl ?_
  refine q_aload_n rfl rfl ?_
  refine q_callV0 rfl hx_51 (Nat.le_of_ble_eq_true rfl) (Nat.le_of_ble_eq_true rfl) (sX9_skip t n ht hn hfr hen tx htx  0 (Nat.zero_le _)) ?_
  refine q_aload_n rfl rfl ?_
  refine q_getI rfl hx_51 rfl ((show _ = nI (pz_s tx n 0) from rfl)) ?_
  refine q_aload_n rfl rfl ?_
  refine q_getI rfl hx_51 rfl ((by exact hen)) ?_
  refine q_icmp_eqN rfl (by omega) (by omega) (fun hc12 => ?_) (fun hc12 => ?_)
  · omega
  · refine q_aload_n rfl rfl ?_
    refine q_callV0 rfl hx_51 (Nat.le_of_ble_eq_true rfl) (Nat.le_of_ble_eq_true rfl) (sX9_here t n ht hn hfr hen tx htx  (pz_s tx n 0) (by omega)) ?_
    refine q_bipush (v := 111) rfl rfl ?_
    refine q_icmp_eq rfl (fun hc21 => ?_) (fun hc21 => ?_)
    · refine q_aload_n rfl rfl ?_
      refine q_dupA rfl ?_
      refine q_getI rfl hx_51 rfl ((show _ = nI (pz_s tx n 0) from rfl)) ?_
      refine q_iconst (v := nI 1) rfl rfl ?_
      refine q_iaddN rfl ?_
      refine q_putfield rfl hx_51 rfl (Nat.le_of_ble_eq_true rfl) (rfl) (by decide +kernel) ?_
      refine q_heap (hs_51_18 _) ?_
      refine q_heap (congrArg (fun z => HX z A J B F) u2_u2) ?_
      refine q_aload_n rfl rfl ?_
      refine q_aload_n rfl rfl ?_
      refine q_iconst (v := nI 1) rfl rfl ?_
      refine q_iconst (v := nI 5) rfl rfl ?_
      refine q_callV2 rfl hx_51 (Nat.le_of_ble_eq_true rfl) (Nat.le_of_ble_eq_true rfl) (fig_1 t n ht hn hfr hen tx htx  1 5 (by decide) (by decide) ((pz_s tx n 0) + 1) h0) ?_
      refine q_putfield rfl hx_51 rfl (Nat.le_of_ble_eq_true rfl) (rfl) (by decide +kernel) ?_
      refine q_heap (hs_51_20 _) ?_
      refine q_aload_n rfl rfl ?_
      refine q_aload_n rfl rfl ?_
      refine q_getI rfl hx_51 rfl ((show _ = (nI (pz_d tx ((pz_s tx n 0) + 1))) from rfl)) ?_
      refine q_bipush (v := (-9)) rfl rfl ?_
      refine q_icmp_ne rfl (fun hc53 => ?_) (fun hc53 => ?_)
      · refine q_heap (congrArg (fun z => HX z A J B F) (u2_cm (k := 18) (l := 20) (by decide))) ?_
        refine q_aload_n rfl rfl ?_
        refine q_callV0 rfl hx_51 (Nat.le_of_ble_eq_true rfl) (Nat.le_of_ble_eq_true rfl) (fgs_1 t n ht hn ((u2_ne (Or.inr (by decide))).trans hfr) ((u2_ne (Or.inr (by decide))).trans hen) tx htx  ((pz_s tx n 0) + 2) h1 h2) ?_
        refine q_putfield rfl hx_51 rfl (Nat.le_of_ble_eq_true rfl) (rfl) (by decide +kernel) ?_
        refine q_heap (hs_51_21 _) ?_
        refine q_aload_n rfl rfl ?_
        refine q_getI rfl hx_51 rfl ((show _ = -9 from rfl)) ?_
        refine q_bipush (v := (-9)) rfl rfl ?_
        refine q_icmp_eq rfl (fun hc74 => ?_) (fun hc74 => ?_)
        · refine q_iconst (v := nI 0) rfl rfl ?_
          refine q_zret rfl rfl (by decide) ?_
          exact ⟨rfl, rfl⟩
        · exact absurd hc74 (by decide)
      · exact absurd hc53 (nI_m9 (by omega))
    · exact absurd hq1 hc21
theorem rs_e {X : XX} {I A : Nat → Nat → Int32} {J B : Nat → Nat → Int64} {F : Nat → Nat} (t n : Nat) (ht : t < 4) (hn : n ≤ 60) (hfr : I 51 17 = nI (60 * t)) (hen : I 51 19 = nI n) (tx : Nat → Int32) (htx : ∀ k, k < 60 → A 60 (60 * t + k) = tx k) (hO : pz_O tx n (pz_s tx n 0) = 1) (h0 : pz_F tx n 1 5 ((pz_s tx n 0) + 1) = 1) (h1 : pz_F tx n 0 2 ((pz_s tx n 0) + 2) = 1) (h2 : pz_F tx n 0 (pz_h tx ((pz_s tx n 0) + 2)) ((pz_s tx n 0) + 3) = 1) : x_ev X xT 4 170 [.ref 51] (HX (u2 I 51 18 (nI 0)) A J B F) (some (.int (nI 1))) (HX (u2 (u2 (u2 I 51 20 (nI (pz_d tx ((pz_s tx n 0) + 1)))) 51 18 (nI ((pz_s tx n 0) + 4))) 51 21 (nI (10 * pz_d tx ((pz_s tx n 0) + 2) + pz_d tx ((pz_s tx n 0) + 3)))) A J B F) := by
  have hq := pz_s_le (tx := tx) (n := n) (Nat.zero_le n)
  obtain ⟨hqn, hq1⟩ := pz_Op hO
  have hd0 := pz_dig (by decide) (by decide) h0
  
  refine q_ev (L := [some (.ref 51)]) tX9_readsSlit (Nat.le_of_ble_eq_true rfl) rfl ?_
  refine q_aload_n rfl rfl ?_
  refine q_callV0 rfl hx_51 (Nat.le_of_ble_eq_true rfl) (Nat.le_of_ble_eq_true rfl) (sX9_skip t n ht hn hfr hen tx htx  0 (Nat.zero_le _)) ?_
  refine q_aload_n rfl rfl ?_
  refine q_getI rfl hx_51 rfl ((show _ = nI (pz_s tx n 0) from rfl)) ?_
  refine q_aload_n rfl rfl ?_
  refine q_getI rfl hx_51 rfl ((by exact hen)) ?_
  refine q_icmp_eqN rfl (by omega) (by omega) (fun hc12 => ?_) (fun hc12 => ?_)
  · omega
  · refine q_aload_n rfl rfl ?_
    refine q_callV0 rfl hx_51 (Nat.le_of_ble_eq_true rfl) (Nat.le_of_ble_eq_true rfl) (sX9_here t n ht hn hfr hen tx htx  (pz_s tx n 0) (by omega)) ?_
    refine q_bipush (v := 111) rfl rfl ?_
    refine q_icmp_eq rfl (fun hc21 => ?_) (fun hc21 => ?_)
    · refine q_aload_n rfl rfl ?_
      refine q_dupA rfl ?_
      refine q_getI rfl hx_51 rfl ((show _ = nI (pz_s tx n 0) from rfl)) ?_
      refine q_iconst (v := nI 1) rfl rfl ?_
      refine q_iaddN rfl ?_
      refine q_putfield rfl hx_51 rfl (Nat.le_of_ble_eq_true rfl) (rfl) (by decide +kernel) ?_
      refine q_heap (hs_51_18 _) ?_
      refine q_heap (congrArg (fun z => HX z A J B F) u2_u2) ?_
      refine q_aload_n rfl rfl ?_
      refine q_aload_n rfl rfl ?_
      refine q_iconst (v := nI 1) rfl rfl ?_
      refine q_iconst (v := nI 5) rfl rfl ?_
      refine q_callV2 rfl hx_51 (Nat.le_of_ble_eq_true rfl) (Nat.le_of_ble_eq_true rfl) (fig_1 t n ht hn hfr hen tx htx  1 5 (by decide) (by decide) ((pz_s tx n 0) + 1) h0) ?_
      refine q_putfield rfl hx_51 rfl (Nat.le_of_ble_eq_true rfl) (rfl) (by decide +kernel) ?_
      refine q_heap (hs_51_20 _) ?_
      refine q_aload_n rfl rfl ?_
      refine q_aload_n rfl rfl ?_
      refine q_getI rfl hx_51 rfl ((show _ = (nI (pz_d tx ((pz_s tx n 0) + 1))) from rfl)) ?_
      refine q_bipush (v := (-9)) rfl rfl ?_
      refine q_icmp_ne rfl (fun hc53 => ?_) (fun hc53 => ?_)
      · refine q_heap (congrArg (fun z => HX z A J B F) (u2_cm (k := 18) (l := 20) (by decide))) ?_
        refine q_aload_n rfl rfl ?_
        refine q_callV0 rfl hx_51 (Nat.le_of_ble_eq_true rfl) (Nat.le_of_ble_eq_true rfl) (fgs_2 t n ht hn ((u2_ne (Or.inr (by decide))).trans hfr) ((u2_ne (Or.inr (by decide))).trans hen) tx htx  ((pz_s tx n 0) + 2) h1 h2) ?_
        refine q_putfield rfl hx_51 rfl (Nat.le_of_ble_eq_true rfl) (rfl) (by decide +kernel) ?_
        refine q_heap (hs_51_21 _) ?_
        refine q_aload_n rfl rfl ?_
        refine q_getI rfl hx_51 rfl ((show _ = (nI (10 * pz_d tx ((pz_s tx n 0) + 2) + pz_d tx ((pz_s tx n 0) + 3))) from rfl)) ?_
        refine q_bipush (v := (-9)) rfl rfl ?_
        refine q_icmp_eq rfl (fun hc74 => ?_) (fun hc74 => ?_)
        · exact absurd hc74 (nI_m9 (by have := pz_24 h1 h2; omega))
        · refine q_iconst (v := nI 1) rfl rfl ?_
          refine q_goto rfl ?_
          refine q_zret rfl rfl (by decide) ?_
          exact ⟨rfl, rfl⟩
      · exact absurd hc53 (nI_m9 (by omega))
    · exact absurd hq1 hc21
theorem rs_all {X : XX} {I A : Nat → Nat → Int32} {J B : Nat → Nat → Int64} {F : Nat → Nat} (t n : Nat) (ht : t < 4) (hn : n ≤ 60) (hfr : I 51 17 = nI (60 * t)) (hen : I 51 19 = nI n) (tx : Nat → Int32) (htx : ∀ k, k < 60 → A 60 (60 * t + k) = tx k) : ∃ (v : Nat) (I2 : Nat → Nat → Int32), x_ev X xT 4 170 [.ref 51] (HX (u2 I 51 18 (nI 0)) A J B F) (some (.int (nI v))) (HX (u2 I2 51 18 (nI (pz_s tx n 0 + pz_hf tx n (pz_s tx n 0)))) A J B F) ∧ (∀ c k, (c ≠ 51 ∨ k < 18 ∨ (k = 19 ∨ 21 < k)) → I2 c k = I c k) ∧ ((pz_hf tx n (pz_s tx n 0) = 4 ∧ v = 1 ∧ I2 51 20 = nI (pz_d tx (pz_s tx n 0 + 1)) ∧ I2 51 21 = nI (10 * pz_d tx (pz_s tx n 0 + 2) + pz_d tx (pz_s tx n 0 + 3))) ∨ (pz_hf tx n (pz_s tx n 0) < 4 ∧ v = 0)) := by
  have fr : ∀ (x : Int32) (y : Int32) (c k : Nat), (c ≠ 51 ∨ k < 18 ∨ (k = 19 ∨ 21 < k)) → u2 (u2 I 51 20 x) 51 21 y c k = I c k := fun x y c k h => (u2_ne (by omega)).trans (u2_ne (by omega))
  have hp : ∀ (x y : Int32) (p : Nat), u2 (u2 (u2 I 51 20 x) 51 18 (nI p)) 51 21 y = u2 (u2 (u2 I 51 20 x) 51 21 y) 51 18 (nI p) := fun x y p => u2_cm (by decide)
  unfold pz_hf
  by_cases hO : pz_O tx n (pz_s tx n 0) = 1
  · rw [if_pos hO]
    by_cases h0 : pz_F tx n 1 5 (pz_s tx n 0 + 1) = 1
    · rw [if_pos h0]
      by_cases h1 : pz_F tx n 0 2 (pz_s tx n 0 + 2) = 1
      · rw [if_pos h1]
        by_cases h2 : pz_F tx n 0 (pz_h tx (pz_s tx n 0 + 2)) (pz_s tx n 0 + 3) = 1
        · rw [if_pos h2]
          have h := rs_e (X := X) (A := A) (J := J) (B := B) (F := F) t n ht hn hfr hen tx htx hO h0 h1 h2
          rw [hp] at h
          exact ⟨1, _, h, fr _ _, Or.inl ⟨rfl, rfl, (u2_ne (Or.inr (by decide))).trans u2_eq, u2_eq⟩⟩
        · rw [if_neg h2]
          have h := rs_d (X := X) (A := A) (J := J) (B := B) (F := F) t n ht hn hfr hen tx htx hO h0 h1 h2
          rw [hp] at h
          exact ⟨0, _, h, fr _ _, Or.inr ⟨by decide, rfl⟩⟩
      · rw [if_neg h1]
        have h := rs_c (X := X) (A := A) (J := J) (B := B) (F := F) t n ht hn hfr hen tx htx hO h0 h1
        rw [hp] at h
        exact ⟨0, _, h, fr _ _, Or.inr ⟨by decide, rfl⟩⟩
    · rw [if_neg h0]
      have h := rs_b (X := X) (A := A) (J := J) (B := B) (F := F) t n ht hn hfr hen tx htx hO h0
      rw [u2_cm (k := 18) (l := 20) (by decide), hp] at h
      exact ⟨0, _, h, fr _ _, Or.inr ⟨by decide, rfl⟩⟩
  · rw [if_neg hO]
    have h := rs_a (X := X) (A := A) (J := J) (B := B) (F := F) t n ht hn hfr hen tx htx hO
    exact ⟨0, I, h, fun c k _ => rfl, Or.inr ⟨by decide, rfl⟩⟩
theorem sX9_kindOfLetter {X : XX} {h0 : XH} (x : Int32) : x_ev X xT 1 171 [.int x] h0 (some (.int (if pz_k x < 6 then nI (pz_k x) else -9))) h0 := by
  refine q_ev (L := [some (.int x)]) tX9_kindOfLetter (Nat.le_of_ble_eq_true rfl) rfl ?_
  refine q_iload_n rfl rfl ?_
  refine q_bipush (v := 115) rfl rfl ?_
  refine q_icmp_ne rfl (fun hc3 => ?_) (fun hc3 => ?_)
  · refine q_iload_n rfl rfl ?_
    refine q_bipush (v := 108) rfl rfl ?_
    refine q_icmp_ne rfl (fun hc13 => ?_) (fun hc13 => ?_)
    · refine q_iload_n rfl rfl ?_
      refine q_bipush (v := 104) rfl rfl ?_
      refine q_icmp_ne rfl (fun hc23 => ?_) (fun hc23 => ?_)
      · refine q_iload_n rfl rfl ?_
        refine q_bipush (v := 118) rfl rfl ?_
        refine q_icmp_ne rfl (fun hc33 => ?_) (fun hc33 => ?_)
        · refine q_iload_n rfl rfl ?_
          refine q_bipush (v := 112) rfl rfl ?_
          refine q_icmp_ne rfl (fun hc43 => ?_) (fun hc43 => ?_)
          · refine q_iload_n rfl rfl ?_
            refine q_bipush (v := 102) rfl rfl ?_
            refine q_icmp_ne rfl (fun hc53 => ?_) (fun hc53 => ?_)
            · refine q_bipush (v := (-9)) rfl rfl ?_
              refine q_iret rfl rfl ?_
              first | (subst hc3; exact ⟨vI (by decide), rfl⟩) | (subst hc13; exact ⟨vI (by decide), rfl⟩) | (subst hc23; exact ⟨vI (by decide), rfl⟩) | (subst hc33; exact ⟨vI (by decide), rfl⟩) | (subst hc43; exact ⟨vI (by decide), rfl⟩) | (subst hc53; exact ⟨vI (by decide), rfl⟩) | exact ⟨vI (by unfold pz_k; rw [if_neg hc3, if_neg hc13, if_neg hc23, if_neg hc33, if_neg hc43, if_neg hc53]; rfl), rfl⟩
            · refine q_iconst (v := 5) rfl rfl ?_
              refine q_goto rfl ?_
              refine q_iret rfl rfl ?_
              first | (subst hc3; exact ⟨vI (by decide), rfl⟩) | (subst hc13; exact ⟨vI (by decide), rfl⟩) | (subst hc23; exact ⟨vI (by decide), rfl⟩) | (subst hc33; exact ⟨vI (by decide), rfl⟩) | (subst hc43; exact ⟨vI (by decide), rfl⟩) | (subst hc53; exact ⟨vI (by decide), rfl⟩) | exact ⟨vI (by unfold pz_k; rw [if_neg hc3, if_neg hc13, if_neg hc23, if_neg hc33, if_neg hc43, if_neg hc53]; rfl), rfl⟩
          · refine q_iconst (v := 4) rfl rfl ?_
            refine q_goto rfl ?_
            refine q_iret rfl rfl ?_
            first | (subst hc3; exact ⟨vI (by decide), rfl⟩) | (subst hc13; exact ⟨vI (by decide), rfl⟩) | (subst hc23; exact ⟨vI (by decide), rfl⟩) | (subst hc33; exact ⟨vI (by decide), rfl⟩) | (subst hc43; exact ⟨vI (by decide), rfl⟩) | (subst hc53; exact ⟨vI (by decide), rfl⟩) | exact ⟨vI (by unfold pz_k; rw [if_neg hc3, if_neg hc13, if_neg hc23, if_neg hc33, if_neg hc43, if_neg hc53]; rfl), rfl⟩
        · refine q_iconst (v := 3) rfl rfl ?_
          refine q_goto rfl ?_
          refine q_iret rfl rfl ?_
          first | (subst hc3; exact ⟨vI (by decide), rfl⟩) | (subst hc13; exact ⟨vI (by decide), rfl⟩) | (subst hc23; exact ⟨vI (by decide), rfl⟩) | (subst hc33; exact ⟨vI (by decide), rfl⟩) | (subst hc43; exact ⟨vI (by decide), rfl⟩) | (subst hc53; exact ⟨vI (by decide), rfl⟩) | exact ⟨vI (by unfold pz_k; rw [if_neg hc3, if_neg hc13, if_neg hc23, if_neg hc33, if_neg hc43, if_neg hc53]; rfl), rfl⟩
      · refine q_iconst (v := 2) rfl rfl ?_
        refine q_goto rfl ?_
        refine q_iret rfl rfl ?_
        first | (subst hc3; exact ⟨vI (by decide), rfl⟩) | (subst hc13; exact ⟨vI (by decide), rfl⟩) | (subst hc23; exact ⟨vI (by decide), rfl⟩) | (subst hc33; exact ⟨vI (by decide), rfl⟩) | (subst hc43; exact ⟨vI (by decide), rfl⟩) | (subst hc53; exact ⟨vI (by decide), rfl⟩) | exact ⟨vI (by unfold pz_k; rw [if_neg hc3, if_neg hc13, if_neg hc23, if_neg hc33, if_neg hc43, if_neg hc53]; rfl), rfl⟩
    · refine q_iconst (v := 1) rfl rfl ?_
      refine q_goto rfl ?_
      refine q_iret rfl rfl ?_
      first | (subst hc3; exact ⟨vI (by decide), rfl⟩) | (subst hc13; exact ⟨vI (by decide), rfl⟩) | (subst hc23; exact ⟨vI (by decide), rfl⟩) | (subst hc33; exact ⟨vI (by decide), rfl⟩) | (subst hc43; exact ⟨vI (by decide), rfl⟩) | (subst hc53; exact ⟨vI (by decide), rfl⟩) | exact ⟨vI (by unfold pz_k; rw [if_neg hc3, if_neg hc13, if_neg hc23, if_neg hc33, if_neg hc43, if_neg hc53]; rfl), rfl⟩
  · refine q_iconst (v := 0) rfl rfl ?_
    refine q_goto rfl ?_
    refine q_iret rfl rfl ?_
    first | (subst hc3; exact ⟨vI (by decide), rfl⟩) | (subst hc13; exact ⟨vI (by decide), rfl⟩) | (subst hc23; exact ⟨vI (by decide), rfl⟩) | (subst hc33; exact ⟨vI (by decide), rfl⟩) | (subst hc43; exact ⟨vI (by decide), rfl⟩) | (subst hc53; exact ⟨vI (by decide), rfl⟩) | exact ⟨vI (by unfold pz_k; rw [if_neg hc3, if_neg hc13, if_neg hc23, if_neg hc33, if_neg hc43, if_neg hc53]; rfl), rfl⟩
