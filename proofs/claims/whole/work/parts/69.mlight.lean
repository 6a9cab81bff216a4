/-! the reference: a light, a whole text -/
theorem pz_Kp {tx : Nat → Int32} {n p : Nat} (h : pz_K tx n p = 1) : pz_k (tx p) < 6 := by
  unfold pz_K at h
  split at h
  · next z => exact z.2
  · exact absurd h (by decide)
theorem rl_a {X : XX} {I A : Nat → Nat → Int32} {J B : Nat → Nat → Int64} {F : Nat → Nat} (t n : Nat) (ht : t < 4) (hn : n ≤ 60) (hfr : I 51 17 = nI (60 * t)) (hen : I 51 19 = nI n) (tx : Nat → Int32) (htx : ∀ k, k < 60 → A 60 (60 * t + k) = tx k) (p k : Nat) (hpn : p < n) (hmn : I 51 23 = nI k) (hk5 : k ≤ 5) (hK : ¬ pz_K tx n p = 1) : x_ev X xT 4 172 [.ref 51] (HX (u2 I 51 18 (nI p)) A J B F) (some (.int (nI 0))) (HX (u2 I 51 18 (nI p)) A J B F) := by
  have hk6 : ¬ pz_k (tx p) < 6 := fun z => hK (if_pos ⟨hpn, z⟩)
  refine q_ev (L := [some (.ref 51), none, none, none, none]) tX9_readsLight (Nat.le_of_ble_eq_true rfl) rfl ?_
  refine q_aload_n rfl rfl ?_
  refine q_callV0 rfl hx_51 (Nat.le_of_ble_eq_true rfl) (Nat.le_of_ble_eq_true rfl) (sX9_here t n ht hn hfr hen tx htx  p (by omega)) ?_
  refine q_callS1 rfl rfl (Nat.le_of_ble_eq_true rfl) (Nat.le_of_ble_eq_true rfl) (sX9_kindOfLetter _) ?_
  refine q_cn (if_neg hk6) ?_
  refine q_istore_n (L' := [_, _, _, _, _]) rfl rfl ?_
  refine q_iload_n rfl rfl ?_
  refine q_bipush (v := (-9)) rfl rfl ?_
  refine q_icmp_eq rfl (fun hc11 => ?_) (fun hc11 => ?_)
  · refine q_iconst (v := nI 0) rfl rfl ?_
    refine q_zret rfl rfl (by decide) ?_
    exact ⟨rfl, rfl⟩
  · exact absurd rfl hc11
theorem rl_f {X : XX} {I A : Nat → Nat → Int32} {J B : Nat → Nat → Int64} {F : Nat → Nat} (t n : Nat) (ht : t < 4) (hn : n ≤ 60) (hfr : I 51 17 = nI (60 * t)) (hen : I 51 19 = nI n) (tx : Nat → Int32) (htx : ∀ k, k < 60 → A 60 (60 * t + k) = tx k) (p k : Nat) (hpn : p < n) (hmn : I 51 23 = nI k) (hk5 : k ≤ 5) (hK : pz_K tx n p = 1) (hk : k = 5) : x_ev X xT 4 172 [.ref 51] (HX (u2 I 51 18 (nI p)) A J B F) (some (.int (nI 0))) (HX (u2 I 51 18 (nI p)) A J B F) := by
  have hk6 := pz_Kp hK
  
  refine q_ev (L := [some (.ref 51), none, none, none, none]) tX9_readsLight (Nat.le_of_ble_eq_true rfl) rfl ?_
  refine q_aload_n rfl rfl ?_
  refine q_callV0 rfl hx_51 (Nat.le_of_ble_eq_true rfl) (Nat.le_of_ble_eq_true rfl) (sX9_here t n ht hn hfr hen tx htx  p (by omega)) ?_
  refine q_callS1 rfl rfl (Nat.le_of_ble_eq_true rfl) (Nat.le_of_ble_eq_true rfl) (sX9_kindOfLetter _) ?_
  refine q_cn (if_pos hk6) ?_
  refine q_istore_n (L' := [_, _, _, _, _]) rfl rfl ?_
  refine q_iload_n rfl rfl ?_
  refine q_bipush (v := (-9)) rfl rfl ?_
  refine q_icmp_eq rfl (fun hc11 => ?_) (fun hc11 => ?_)
  · exact absurd hc11 (nI_m9 (by omega))
  · refine q_aload_n rfl rfl ?_
    refine q_getI rfl hx_51 rfl ((by exact hmn)) ?_
    refine q_iconst (v := nI 5) rfl rfl ?_
    refine q_icmp_neN rfl (by omega) (by omega) (fun hc19 => ?_) (fun hc19 => ?_)
    · omega
    · refine q_iconst (v := nI 0) rfl rfl ?_
      refine q_zret rfl rfl (by decide) ?_
      exact ⟨rfl, rfl⟩
theorem rl_0 {X : XX} {I A : Nat → Nat → Int32} {J B : Nat → Nat → Int64} {F : Nat → Nat} (t n : Nat) (ht : t < 4) (hn : n ≤ 60) (hfr : I 51 17 = nI (60 * t)) (hen : I 51 19 = nI n) (tx : Nat → Int32) (htx : ∀ k, k < 60 → A 60 (60 * t + k) = tx k) (p k : Nat) (hpn : p < n) (hmn : I 51 23 = nI k) (hk5 : k ≤ 5) (hK : pz_K tx n p = 1) (hk : k < 5) (h1 : ¬ pz_F tx n 0 2 (p + 1) = 1)  : x_ev X xT 4 172 [.ref 51] (HX (u2 I 51 18 (nI p)) A J B F) (some (.int (nI 0))) (HX (u2 I 51 18 (nI (p + 1))) A J B F) := by
  have hk6 := pz_Kp hK
  refine q_ev (L := [some (.ref 51), none, none, none, none]) tX9_readsLight (Nat.le_of_ble_eq_true rfl) rfl ?_
  refine q_aload_n rfl rfl ?_
  refine q_callV0 rfl hx_51 (Nat.le_of_ble_eq_true rfl) (Nat.le_of_ble_eq_true rfl) (sX9_here t n ht hn hfr hen tx htx  p (by omega)) ?_
  refine q_callS1 rfl rfl (Nat.le_of_ble_eq_true rfl) (Nat.le_of_ble_eq_true rfl) (sX9_kindOfLetter _) ?_
  refine q_cn (if_pos hk6) ?_
  refine q_istore_n (L' := [_, _, _, _, _]) rfl rfl ?_
  refine q_iload_n rfl rfl ?_
  refine q_bipush (v := (-9)) rfl rfl ?_
  refine q_icmp_eq rfl (fun hc11 => ?_) (fun hc11 => ?_)
  · exact absurd hc11 (nI_m9 (by omega))
  · refine q_aload_n rfl rfl ?_
    refine q_getI rfl hx_51 rfl ((by exact hmn)) ?_
    refine q_iconst (v := nI 5) rfl rfl ?_
    refine q_icmp_neN rfl (by omega) (by omega) (fun hc19 => ?_) (fun hc19 => ?_)
    · refine q_aload_n rfl rfl ?_
      refine q_dupA rfl ?_
      refine q_getI rfl hx_51 rfl ((show _ = nI p from rfl)) ?_
      refine q_iconst (v := nI 1) rfl rfl ?_
      refine q_iaddN rfl ?_
      refine q_putfield rfl hx_51 rfl (Nat.le_of_ble_eq_true rfl) (rfl) (by decide +kernel) ?_
      refine q_heap (hs_51_18 _) ?_
      refine q_heap (congrArg (fun z => HX z A J B F) u2_u2) ?_
      refine q_aload_n rfl rfl ?_
      refine q_callV0 rfl hx_51 (Nat.le_of_ble_eq_true rfl) (Nat.le_of_ble_eq_true rfl) (fgs_0 t n ht hn hfr hen tx htx  (p + 1) (by omega) h1) ?_
      refine q_istore_n (L' := [_, _, _, _, _]) rfl rfl ?_
      refine q_iload_n rfl rfl ?_
      refine q_bipush (v := (-9)) rfl rfl ?_
      refine q_icmp_ne rfl (fun hc42 => ?_) (fun hc42 => ?_)
      · exact absurd hc42 (by decide)
      · refine q_bipush (v := (-9)) rfl rfl ?_
        refine q_goto rfl ?_
        refine q_istore_n (L' := [_, _, _, _, _]) rfl rfl ?_
        refine q_iload_n rfl rfl ?_
        refine q_bipush (v := (-9)) rfl rfl ?_
        refine q_icmp_ne rfl (fun hc60 => ?_) (fun hc60 => ?_)
        · exact absurd hc60 (by decide)
        · refine q_bipush (v := (-9)) rfl rfl ?_
          refine q_goto rfl ?_
          refine q_istore (L' := [_, _, _, _, _]) rfl rfl ?_
          refine q_iload rfl rfl ?_
          refine q_bipush (v := (-9)) rfl rfl ?_
          refine q_icmp_ne rfl (fun hc81 => ?_) (fun hc81 => ?_)
          · exact absurd hc81 (by decide)
          · refine q_iconst (v := nI 0) rfl rfl ?_
            refine q_zret rfl rfl (by decide) ?_
            exact ⟨rfl, rfl⟩
    · omega
theorem rl_1 {X : XX} {I A : Nat → Nat → Int32} {J B : Nat → Nat → Int64} {F : Nat → Nat} (t n : Nat) (ht : t < 4) (hn : n ≤ 60) (hfr : I 51 17 = nI (60 * t)) (hen : I 51 19 = nI n) (tx : Nat → Int32) (htx : ∀ k, k < 60 → A 60 (60 * t + k) = tx k) (p k : Nat) (hpn : p < n) (hmn : I 51 23 = nI k) (hk5 : k ≤ 5) (hK : pz_K tx n p = 1) (hk : k < 5) (h1 : pz_F tx n 0 2 (p + 1) = 1) (h2 : ¬ pz_F tx n 0 (pz_h tx (p + 1)) (p + 2) = 1)  : x_ev X xT 4 172 [.ref 51] (HX (u2 I 51 18 (nI p)) A J B F) (some (.int (nI 0))) (HX (u2 I 51 18 (nI (p + 2))) A J B F) := by
  have hk6 := pz_Kp hK
  refine q_ev (L := [some (.ref 51), none, none, none, none]) tX9_readsLight (Nat.le_of_ble_eq_true rfl) rfl ?_
  refine q_aload_n rfl rfl ?_
  refine q_callV0 rfl hx_51 (Nat.le_of_ble_eq_true rfl) (Nat.le_of_ble_eq_true rfl) (sX9_here t n ht hn hfr hen tx htx  p (by omega)) ?_
  refine q_callS1 rfl rfl (Nat.le_of_ble_eq_true rfl) (Nat.le_of_ble_eq_true rfl) (sX9_kindOfLetter _) ?_
  refine q_cn (if_pos hk6) ?_
  refine q_istore_n (L' := [_, _, _, _, _]) rfl rfl ?_
  refine q_iload_n rfl rfl ?_
  refine q_bipush (v := (-9)) rfl rfl ?_
  refine q_icmp_eq rfl (fun hc11 => ?_) (fun hc11 => ?_)
  · exact absurd hc11 (nI_m9 (by omega))
  · refine q_aload_n rfl rfl ?_
    refine q_getI rfl hx_51 rfl ((by exact hmn)) ?_
    refine q_iconst (v := nI 5) rfl rfl ?_
    refine q_icmp_neN rfl (by omega) (by omega) (fun hc19 => ?_) (fun hc19 => ?_)
    · refine q_aload_n rfl rfl ?_
      refine q_dupA rfl ?_
      refine q_getI rfl hx_51 rfl ((show _ = nI p from rfl)) ?_
      refine q_iconst (v := nI 1) rfl rfl ?_
      refine q_iaddN rfl ?_
      refine q_putfield rfl hx_51 rfl (Nat.le_of_ble_eq_true rfl) (rfl) (by decide +kernel) ?_
      refine q_heap (hs_51_18 _) ?_
      refine q_heap (congrArg (fun z => HX z A J B F) u2_u2) ?_
      refine q_aload_n rfl rfl ?_
      refine q_callV0 rfl hx_51 (Nat.le_of_ble_eq_true rfl) (Nat.le_of_ble_eq_true rfl) (fgs_1 t n ht hn hfr hen tx htx  (p + 1) h1 h2) ?_
      refine q_istore_n (L' := [_, _, _, _, _]) rfl rfl ?_
      refine q_iload_n rfl rfl ?_
      refine q_bipush (v := (-9)) rfl rfl ?_
      refine q_icmp_ne rfl (fun hc42 => ?_) (fun hc42 => ?_)
      · exact absurd hc42 (by decide)
      · refine q_bipush (v := (-9)) rfl rfl ?_
        refine q_goto rfl ?_
        refine q_istore_n (L' := [_, _, _, _, _]) rfl rfl ?_
        refine q_iload_n rfl rfl ?_
        refine q_bipush (v := (-9)) rfl rfl ?_
        refine q_icmp_ne rfl (fun hc60 => ?_) (fun hc60 => ?_)
        · exact absurd hc60 (by decide)
        · refine q_bipush (v := (-9)) rfl rfl ?_
          refine q_goto rfl ?_
          refine q_istore (L' := [_, _, _, _, _]) rfl rfl ?_
          refine q_iload rfl rfl ?_
          refine q_bipush (v := (-9)) rfl rfl ?_
          refine q_icmp_ne rfl (fun hc81 => ?_) (fun hc81 => ?_)
          · exact absurd hc81 (by decide)
          · refine q_iconst (v := nI 0) rfl rfl ?_
            refine q_zret rfl rfl (by decide) ?_
            exact ⟨rfl, rfl⟩
    · omega
theorem rl_2 {X : XX} {I A : Nat → Nat → Int32} {J B : Nat → Nat → Int64} {F : Nat → Nat} (t n : Nat) (ht : t < 4) (hn : n ≤ 60) (hfr : I 51 17 = nI (60 * t)) (hen : I 51 19 = nI n) (tx : Nat → Int32) (htx : ∀ k, k < 60 → A 60 (60 * t + k) = tx k) (p k : Nat) (hpn : p < n) (hmn : I 51 23 = nI k) (hk5 : k ≤ 5) (hK : pz_K tx n p = 1) (hk : k < 5) (h1 : pz_F tx n 0 2 (p + 1) = 1) (h2 : pz_F tx n 0 (pz_h tx (p + 1)) (p + 2) = 1) (h3 : ¬ pz_F tx n 0 5 (p + 3) = 1)  : x_ev X xT 4 172 [.ref 51] (HX (u2 I 51 18 (nI p)) A J B F) (some (.int (nI 0))) (HX (u2 I 51 18 (nI (p + 3))) A J B F) := by
  have hk6 := pz_Kp hK
  have h24 := pz_24 h1 h2
  have hd2 := pz_dig (by decide) (pz_h_le tx (p + 1)) h2
  refine q_ev (L := [some (.ref 51), none, none, none, none]) tX9_readsLight (Nat.le_of_ble_eq_true rfl) rfl ?_
  refine q_aload_n rfl rfl ?_
  refine q_callV0 rfl hx_51 (Nat.le_of_ble_eq_true rfl) (Nat.le_of_ble_eq_true rfl) (sX9_here t n ht hn hfr hen tx htx  p (by omega)) ?_
  refine q_callS1 rfl rfl (Nat.le_of_ble_eq_true rfl) (Nat.le_of_ble_eq_true rfl) (sX9_kindOfLetter _) ?_
  refine q_cn (if_pos hk6) ?_
  refine q_istore_n (L' := [_, _, _, _, _]) rfl rfl ?_
  refine q_iload_n rfl rfl ?_
  refine q_bipush (v := (-9)) rfl rfl ?_
  refine q_icmp_eq rfl (fun hc11 => ?_) (fun hc11 => ?_)
  · exact absurd hc11 (nI_m9 (by omega))
  · refine q_aload_n rfl rfl ?_
    refine q_getI rfl hx_51 rfl ((by exact hmn)) ?_
    refine q_iconst (v := nI 5) rfl rfl ?_
    refine q_icmp_neN rfl (by omega) (by omega) (fun hc19 => ?_) (fun hc19 => ?_)
    · refine q_aload_n rfl rfl ?_
      refine q_dupA rfl ?_
      refine q_getI rfl hx_51 rfl ((show _ = nI p from rfl)) ?_
      refine q_iconst (v := nI 1) rfl rfl ?_
      refine q_iaddN rfl ?_
      refine q_putfield rfl hx_51 rfl (Nat.le_of_ble_eq_true rfl) (rfl) (by decide +kernel) ?_
      refine q_heap (hs_51_18 _) ?_
      refine q_heap (congrArg (fun z => HX z A J B F) u2_u2) ?_
      refine q_aload_n rfl rfl ?_
      refine q_callV0 rfl hx_51 (Nat.le_of_ble_eq_true rfl) (Nat.le_of_ble_eq_true rfl) (fgs_2 t n ht hn hfr hen tx htx  (p + 1) h1 h2) ?_
      refine q_istore_n (L' := [_, _, _, _, _]) rfl rfl ?_
      refine q_iload_n rfl rfl ?_
      refine q_bipush (v := (-9)) rfl rfl ?_
      refine q_icmp_ne rfl (fun hc42 => ?_) (fun hc42 => ?_)
      · refine q_aload_n rfl rfl ?_
        refine q_iconst (v := nI 0) rfl rfl ?_
        refine q_iconst (v := nI 5) rfl rfl ?_
        refine q_callV2 rfl hx_51 (Nat.le_of_ble_eq_true rfl) (Nat.le_of_ble_eq_true rfl) (fig_0 t n ht hn hfr hen tx htx  0 5 (by decide) (by decide) (p + 3) (by omega) h3) ?_
        refine q_istore_n (L' := [_, _, _, _, _]) rfl rfl ?_
        refine q_iload_n rfl rfl ?_
        refine q_bipush (v := (-9)) rfl rfl ?_
        refine q_icmp_ne rfl (fun hc60 => ?_) (fun hc60 => ?_)
        · exact absurd hc60 (by decide)
        · refine q_bipush (v := (-9)) rfl rfl ?_
          refine q_goto rfl ?_
          refine q_istore (L' := [_, _, _, _, _]) rfl rfl ?_
          refine q_iload rfl rfl ?_
          refine q_bipush (v := (-9)) rfl rfl ?_
          refine q_icmp_ne rfl (fun hc81 => ?_) (fun hc81 => ?_)
          · exact absurd hc81 (by decide)
          · refine q_iconst (v := nI 0) rfl rfl ?_
            refine q_zret rfl rfl (by decide) ?_
            exact ⟨rfl, rfl⟩
      · exact absurd hc42 (nI_m9 (by have : pz_d tx (p + 1 + 1) = pz_d tx (p + 2) := rfl; omega))
    · omega
theorem rl_3 {X : XX} {I A : Nat → Nat → Int32} {J B : Nat → Nat → Int64} {F : Nat → Nat} (t n : Nat) (ht : t < 4) (hn : n ≤ 60) (hfr : I 51 17 = nI (60 * t)) (hen : I 51 19 = nI n) (tx : Nat → Int32) (htx : ∀ k, k < 60 → A 60 (60 * t + k) = tx k) (p k : Nat) (hpn : p < n) (hmn : I 51 23 = nI k) (hk5 : k ≤ 5) (hK : pz_K tx n p = 1) (hk : k < 5) (h1 : pz_F tx n 0 2 (p + 1) = 1) (h2 : pz_F tx n 0 (pz_h tx (p + 1)) (p + 2) = 1) (h3 : pz_F tx n 0 5 (p + 3) = 1) (h4 : ¬ pz_F tx n 1 9 (p + 4) = 1)  : x_ev X xT 4 172 [.ref 51] (HX (u2 I 51 18 (nI p)) A J B F) (some (.int (nI 0))) (HX (u2 I 51 18 (nI (p + 4))) A J B F) := by
  have hk6 := pz_Kp hK
  have h24 := pz_24 h1 h2
  have hd2 := pz_dig (by decide) (pz_h_le tx (p + 1)) h2
  have hd3 := pz_dig (by decide) (by decide) h3
  refine q_ev (L := [some (.ref 51), none, none, none, none]) tX9_readsLight (Nat.le_of_ble_eq_true rfl) rfl ?_
  refine q_aload_n rfl rfl ?_
  refine q_callV0 rfl hx_51 (Nat.le_of_ble_eq_true rfl) (Nat.le_of_ble_eq_true rfl) (sX9_here t n ht hn hfr hen tx htx  p (by omega)) ?_
  refine q_callS1 rfl rfl (Nat.le_of_ble_eq_true rfl) (Nat.le_of_ble_eq_true rfl) (sX9_kindOfLetter _) ?_
  refine q_cn (if_pos hk6) ?_
  refine q_istore_n (L' := [_, _, _, _, _]) rfl rfl ?_
  refine q_iload_n rfl rfl ?_
  refine q_bipush (v := (-9)) rfl rfl ?_
  refine q_icmp_eq rfl (fun hc11 => ?_) (fun hc11 => ?_)
  · exact absurd hc11 (nI_m9 (by omega))
  · refine q_aload_n rfl rfl ?_
    refine q_getI rfl hx_51 rfl ((by exact hmn)) ?_
    refine q_iconst (v := nI 5) rfl rfl ?_
    refine q_icmp_neN rfl (by omega) (by omega) (fun hc19 => ?_) (fun hc19 => ?_)
    · refine q_aload_n rfl rfl ?_
      refine q_dupA rfl ?_
      refine q_getI rfl hx_51 rfl ((show _ = nI p from rfl)) ?_
      refine q_iconst (v := nI 1) rfl rfl ?_
      refine q_iaddN rfl ?_
      refine q_putfield rfl hx_51 rfl (Nat.le_of_ble_eq_true rfl) (rfl) (by decide +kernel) ?_
      refine q_heap (hs_51_18 _) ?_
      refine q_heap (congrArg (fun z => HX z A J B F) u2_u2) ?_
      refine q_aload_n rfl rfl ?_
      refine q_callV0 rfl hx_51 (Nat.le_of_ble_eq_true rfl) (Nat.le_of_ble_eq_true rfl) (fgs_2 t n ht hn hfr hen tx htx  (p + 1) h1 h2) ?_
      refine q_istore_n (L' := [_, _, _, _, _]) rfl rfl ?_
      refine q_iload_n rfl rfl ?_
      refine q_bipush (v := (-9)) rfl rfl ?_
      refine q_icmp_ne rfl (fun hc42 => ?_) (fun hc42 => ?_)
      · refine q_aload_n rfl rfl ?_
        refine q_iconst (v := nI 0) rfl rfl ?_
        refine q_iconst (v := nI 5) rfl rfl ?_
        refine q_callV2 rfl hx_51 (Nat.le_of_ble_eq_true rfl) (Nat.le_of_ble_eq_true rfl) (fig_1 t n ht hn hfr hen tx htx  0 5 (by decide) (by decide) (p + 3) h3) ?_
        refine q_istore_n (L' := [_, _, _, _, _]) rfl rfl ?_
        refine q_iload_n rfl rfl ?_
        refine q_bipush (v := (-9)) rfl rfl ?_
        refine q_icmp_ne rfl (fun hc60 => ?_) (fun hc60 => ?_)
        · refine q_aload_n rfl rfl ?_
          refine q_iconst (v := nI 1) rfl rfl ?_
          refine q_bipush (v := nI 9) rfl rfl ?_
          refine q_callV2 rfl hx_51 (Nat.le_of_ble_eq_true rfl) (Nat.le_of_ble_eq_true rfl) (fig_0 t n ht hn hfr hen tx htx  1 9 (by decide) (by decide) (p + 4) (by omega) h4) ?_
          refine q_istore (L' := [_, _, _, _, _]) rfl rfl ?_
          refine q_iload rfl rfl ?_
          refine q_bipush (v := (-9)) rfl rfl ?_
          refine q_icmp_ne rfl (fun hc81 => ?_) (fun hc81 => ?_)
          · exact absurd hc81 (by decide)
          · refine q_iconst (v := nI 0) rfl rfl ?_
            refine q_zret rfl rfl (by decide) ?_
            exact ⟨rfl, rfl⟩
        · exact absurd hc60 (nI_m9 (by omega))
      · exact absurd hc42 (nI_m9 (by have : pz_d tx (p + 1 + 1) = pz_d tx (p + 2) := rfl; omega))
    · omega
set_option maxHeartbeats 1000000 in
theorem rl_4 {X : XX} {I A : Nat → Nat → Int32} {J B : Nat → Nat → Int64} {F : Nat → Nat} (t n : Nat) (ht : t < 4) (hn : n ≤ 60) (hfr : I 51 17 = nI (60 * t)) (hen : I 51 19 = nI n) (tx : Nat → Int32) (htx : ∀ k, k < 60 → A 60 (60 * t + k) = tx k) (p k : Nat) (hpn : p < n) (hmn : I 51 23 = nI k) (hk5 : k ≤ 5) (hK : pz_K tx n p = 1) (hk : k < 5) (h1 : pz_F tx n 0 2 (p + 1) = 1) (h2 : pz_F tx n 0 (pz_h tx (p + 1)) (p + 2) = 1) (h3 : pz_F tx n 0 5 (p + 3) = 1) (h4 : pz_F tx n 1 9 (p + 4) = 1)  : x_ev X xT 4 172 [.ref 51] (HX (u2 I 51 18 (nI p)) A J B F) (some (.int (nI 1))) (HX (u2 (u2 I 51 18 (nI (p + 5))) 51 23 (nI (k + 1))) (ua A 62 (pz_g tx p k (A 62))) J B F) := by
  have hk6 := pz_Kp hK
  have h24 := pz_24 h1 h2
  have hd2 := pz_dig (by decide) (pz_h_le tx (p + 1)) h2
  have hd3 := pz_dig (by decide) (by decide) h3
  have hd4 := pz_dig (by decide) (by decide) h4
  refine q_ev (L := [some (.ref 51), none, none, none, none]) tX9_readsLight (Nat.le_of_ble_eq_true rfl) rfl ?_
  refine q_aload_n rfl rfl ?_
  refine q_callV0 rfl hx_51 (Nat.le_of_ble_eq_true rfl) (Nat.le_of_ble_eq_true rfl) (sX9_here t n ht hn hfr hen tx htx  p (by omega)) ?_
  refine q_callS1 rfl rfl (Nat.le_of_ble_eq_true rfl) (Nat.le_of_ble_eq_true rfl) (sX9_kindOfLetter _) ?_
  refine q_cn (if_pos hk6) ?_
  refine q_istore_n (L' := [_, _, _, _, _]) rfl rfl ?_
  refine q_iload_n rfl rfl ?_
  refine q_bipush (v := (-9)) rfl rfl ?_
  refine q_icmp_eq rfl (fun hc11 => ?_) (fun hc11 => ?_)
  · exact absurd hc11 (nI_m9 (by omega))
  · refine q_aload_n rfl rfl ?_
    refine q_getI rfl hx_51 rfl ((by exact hmn)) ?_
    refine q_iconst (v := nI 5) rfl rfl ?_
    refine q_icmp_neN rfl (by omega) (by omega) (fun hc19 => ?_) (fun hc19 => ?_)
    · refine q_aload_n rfl rfl ?_
      refine q_dupA rfl ?_
      refine q_getI rfl hx_51 rfl ((show _ = nI p from rfl)) ?_
      refine q_iconst (v := nI 1) rfl rfl ?_
      refine q_iaddN rfl ?_
      refine q_putfield rfl hx_51 rfl (Nat.le_of_ble_eq_true rfl) (rfl) (by decide +kernel) ?_
      refine q_heap (hs_51_18 _) ?_
      refine q_heap (congrArg (fun z => HX z A J B F) u2_u2) ?_
      refine q_aload_n rfl rfl ?_
      refine q_callV0 rfl hx_51 (Nat.le_of_ble_eq_true rfl) (Nat.le_of_ble_eq_true rfl) (fgs_2 t n ht hn hfr hen tx htx  (p + 1) h1 h2) ?_
      refine q_istore_n (L' := [_, _, _, _, _]) rfl rfl ?_
      refine q_iload_n rfl rfl ?_
      refine q_bipush (v := (-9)) rfl rfl ?_
      refine q_icmp_ne rfl (fun hc42 => ?_) (fun hc42 => ?_)
      · refine q_aload_n rfl rfl ?_
        refine q_iconst (v := nI 0) rfl rfl ?_
        refine q_iconst (v := nI 5) rfl rfl ?_
        refine q_callV2 rfl hx_51 (Nat.le_of_ble_eq_true rfl) (Nat.le_of_ble_eq_true rfl) (fig_1 t n ht hn hfr hen tx htx  0 5 (by decide) (by decide) (p + 3) h3) ?_
        refine q_istore_n (L' := [_, _, _, _, _]) rfl rfl ?_
        refine q_iload_n rfl rfl ?_
        refine q_bipush (v := (-9)) rfl rfl ?_
        refine q_icmp_ne rfl (fun hc60 => ?_) (fun hc60 => ?_)
        · refine q_aload_n rfl rfl ?_
          refine q_iconst (v := nI 1) rfl rfl ?_
          refine q_bipush (v := nI 9) rfl rfl ?_
          refine q_callV2 rfl hx_51 (Nat.le_of_ble_eq_true rfl) (Nat.le_of_ble_eq_true rfl) (fig_1 t n ht hn hfr hen tx htx  1 9 (by decide) (by decide) (p + 4) h4) ?_
          refine q_istore (L' := [_, _, _, _, _]) rfl rfl ?_
          refine q_iload rfl rfl ?_
          refine q_bipush (v := (-9)) rfl rfl ?_
          refine q_icmp_ne rfl (fun hc81 => ?_) (fun hc81 => ?_)
          · refine q_aload_n rfl rfl ?_
            refine q_getfield rfl hx_51 rfl ?_
            refine q_iconst (v := nI 4) rfl rfl ?_
            refine q_aload_n rfl rfl ?_
            refine q_getI rfl hx_51 rfl ((by exact hmn)) ?_
            refine q_imulN rfl ?_
            refine q_iload_n rfl rfl ?_
            refine q_iastN rfl hx_62 (by omega) (by decide) ?_
            refine q_heap (ha_62 _) ?_
            refine q_aload_n rfl rfl ?_
            refine q_getfield rfl hx_51 rfl ?_
            refine q_iconst (v := nI 4) rfl rfl ?_
            refine q_aload_n rfl rfl ?_
            refine q_getI rfl hx_51 rfl ((by exact hmn)) ?_
            refine q_imulN rfl ?_
            refine q_iconst (v := nI 1) rfl rfl ?_
            refine q_iaddN rfl ?_
            refine q_iload_n rfl rfl ?_
            refine q_iastN rfl hx_62 (by omega) (by decide) ?_
            refine q_heap (ha_62 _) ?_
            refine q_aload_n rfl rfl ?_
            refine q_getfield rfl hx_51 rfl ?_
            refine q_iconst (v := nI 4) rfl rfl ?_
            refine q_aload_n rfl rfl ?_
            refine q_getI rfl hx_51 rfl ((by exact hmn)) ?_
            refine q_imulN rfl ?_
            refine q_iconst (v := nI 2) rfl rfl ?_
            refine q_iaddN rfl ?_
            refine q_iload_n rfl rfl ?_
            refine q_iconst (v := nI 2) rfl rfl ?_
            refine q_isub rfl ?_
            refine q_iastN rfl hx_62 (by omega) (by decide) ?_
            refine q_heap (ha_62 _) ?_
            refine q_aload_n rfl rfl ?_
            refine q_getfield rfl hx_51 rfl ?_
            refine q_iconst (v := nI 4) rfl rfl ?_
            refine q_aload_n rfl rfl ?_
            refine q_getI rfl hx_51 rfl ((by exact hmn)) ?_
            refine q_imulN rfl ?_
            refine q_iconst (v := nI 3) rfl rfl ?_
            refine q_iaddN rfl ?_
            refine q_iload rfl rfl ?_
            refine q_iastN rfl hx_62 (by omega) (by decide) ?_
            refine q_heap (ha_62 _) ?_
            refine q_aload_n rfl rfl ?_
            refine q_dupA rfl ?_
            refine q_getI rfl hx_51 rfl ((by exact hmn)) ?_
            refine q_iconst (v := nI 1) rfl rfl ?_
            refine q_iaddN rfl ?_
            refine q_putfield rfl hx_51 rfl (Nat.le_of_ble_eq_true rfl) (rfl) (by decide +kernel) ?_
            refine q_heap (hs_51_23 _) ?_
            refine q_iconst (v := nI 1) rfl rfl ?_
            refine q_zret rfl rfl (by decide) ?_
            exact ⟨rfl, by simp only [ua_ua, ua_eq]; rfl⟩
          · exact absurd hc81 (nI_m9 (by omega))
        · exact absurd hc60 (nI_m9 (by omega))
      · exact absurd hc42 (nI_m9 (by have : pz_d tx (p + 1 + 1) = pz_d tx (p + 2) := rfl; omega))
    · omega
theorem rl_all {X : XX} {I A : Nat → Nat → Int32} {J B : Nat → Nat → Int64} {F : Nat → Nat} (t n : Nat) (ht : t < 4) (hn : n ≤ 60) (hfr : I 51 17 = nI (60 * t)) (hen : I 51 19 = nI n) (tx : Nat → Int32) (htx : ∀ k, k < 60 → A 60 (60 * t + k) = tx k) (p k : Nat) (hpn : p < n) (hmn : I 51 23 = nI k) (hk5 : k ≤ 5) : ∃ (v q kk : Nat) (I2 : Nat → Nat → Int32) (g : Nat → Int32), x_ev X xT 4 172 [.ref 51] (HX (u2 I 51 18 (nI p)) A J B F) (some (.int (nI v))) (HX (u2 I2 51 18 (nI q)) (ua A 62 g) J B F) ∧ (∀ c y, (c ≠ 51 ∨ (y ≠ 18 ∧ y ≠ 23)) → I2 c y = I c y) ∧ I2 51 23 = nI kk ∧ ((k < 5 ∧ pz_lf tx n p = 5 ∧ v = 1 ∧ q = p + 5 ∧ kk = k + 1 ∧ g = pz_g tx p k (A 62)) ∨ (v = 0 ∧ kk = k ∧ g = A 62 ∧ ((k < 5 ∧ pz_lf tx n p < 5 ∧ q = p + pz_lf tx n p) ∨ (k = 5 ∧ q = p)))) := by
  have hs : ua A 62 (A 62) = A := ua_self rfl
  have h0 : ∀ q, x_ev X xT 4 172 [.ref 51] (HX (u2 I 51 18 (nI p)) A J B F) (some (.int (nI 0))) (HX (u2 I 51 18 (nI q)) A J B F) → ((k < 5 ∧ pz_lf tx n p < 5 ∧ q = p + pz_lf tx n p) ∨ (k = 5 ∧ q = p)) → ∃ (v q kk : Nat) (I2 : Nat → Nat → Int32) (g : Nat → Int32), x_ev X xT 4 172 [.ref 51] (HX (u2 I 51 18 (nI p)) A J B F) (some (.int (nI v))) (HX (u2 I2 51 18 (nI q)) (ua A 62 g) J B F) ∧ (∀ c y, (c ≠ 51 ∨ (y ≠ 18 ∧ y ≠ 23)) → I2 c y = I c y) ∧ I2 51 23 = nI kk ∧ ((k < 5 ∧ pz_lf tx n p = 5 ∧ v = 1 ∧ q = p + 5 ∧ kk = k + 1 ∧ g = pz_g tx p k (A 62)) ∨ (v = 0 ∧ kk = k ∧ g = A 62 ∧ ((k < 5 ∧ pz_lf tx n p < 5 ∧ q = p + pz_lf tx n p) ∨ (k = 5 ∧ q = p)))) := by
    intro q h hq
    refine ⟨0, q, k, I, A 62, ?_, fun _ _ _ => rfl, hmn, Or.inr ⟨rfl, rfl, rfl, hq⟩⟩
    rw [hs]
    exact h
  by_cases hK : pz_K tx n p = 1
  · by_cases hk : k = 5
    · exact h0 p (rl_f t n ht hn hfr hen tx htx p k hpn hmn hk5 hK hk) (Or.inr ⟨hk, rfl⟩)
    · have hk' : k < 5 := by omega
      by_cases h1 : pz_F tx n 0 2 (p + 1) = 1
      · by_cases h2 : pz_F tx n 0 (pz_h tx (p + 1)) (p + 2) = 1
        · by_cases h3 : pz_F tx n 0 5 (p + 3) = 1
          · by_cases h4 : pz_F tx n 1 9 (p + 4) = 1
            · have h := rl_4 (X := X) (A := A) (J := J) (B := B) (F := F) t n ht hn hfr hen tx htx p k hpn hmn hk5 hK hk' h1 h2 h3 h4
              rw [u2_cm (k := 18) (l := 23) (by decide)] at h
              refine ⟨1, p + 5, k + 1, _, _, h, fun c y hc => u2_ne (by omega), u2_eq, Or.inl ⟨hk', ?_, rfl, rfl, rfl, rfl⟩⟩
              unfold pz_lf
              rw [if_pos hK, if_pos h1, if_pos h2, if_pos h3, if_pos h4]
            · have e : pz_lf tx n p = 4 := by
                unfold pz_lf
                rw [if_pos hK, if_pos h1, if_pos h2, if_pos h3, if_neg h4]
              exact h0 (p + 4) (rl_3 t n ht hn hfr hen tx htx p k hpn hmn hk5 hK hk' h1 h2 h3 h4) (Or.inl ⟨hk', by omega, by omega⟩)
          · have e : pz_lf tx n p = 3 := by
              unfold pz_lf
              rw [if_pos hK, if_pos h1, if_pos h2, if_neg h3]
            exact h0 (p + 3) (rl_2 t n ht hn hfr hen tx htx p k hpn hmn hk5 hK hk' h1 h2 h3) (Or.inl ⟨hk', by omega, by omega⟩)
        · have e : pz_lf tx n p = 2 := by
            unfold pz_lf
            rw [if_pos hK, if_pos h1, if_neg h2]
          exact h0 (p + 2) (rl_1 t n ht hn hfr hen tx htx p k hpn hmn hk5 hK hk' h1 h2) (Or.inl ⟨hk', by omega, by omega⟩)
      · have e : pz_lf tx n p = 1 := by
          unfold pz_lf
          rw [if_pos hK, if_neg h1]
        exact h0 (p + 1) (rl_0 t n ht hn hfr hen tx htx p k hpn hmn hk5 hK hk' h1) (Or.inl ⟨hk', by omega, by omega⟩)
  · have e : pz_lf tx n p = 0 := by
      unfold pz_lf
      rw [if_neg hK]
    have h := rl_a (X := X) (A := A) (J := J) (B := B) (F := F) t n ht hn hfr hen tx htx p k hpn hmn hk5 hK
    by_cases hk : k = 5
    · exact h0 p h (Or.inr ⟨hk, rfl⟩)
    · exact h0 p h (Or.inl ⟨by omega, by omega, by omega⟩)
