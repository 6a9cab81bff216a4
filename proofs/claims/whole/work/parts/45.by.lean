/-! by, fainter: both sides -/
theorem nI_n9 {j : Nat} (hj : j < 2 ^ 31) : ¬ nI j = -9 := by
  intro h
  have h2 := congrArg Int32.toInt h
  rw [nI_toInt hj] at h2
  have e : (-9 : Int32).toInt = -9 := rfl
  omega
theorem c_by_bb {X : XX} {I A : Nat → Nat → Int32} {J B : Nat → Nat → Int64} {F : Nat → Nat} (x : Int32) (hx : x < 0 ∨ I 0 12 ≤ x) (y : Int32) (hy : y < 0 ∨ 6 ≤ y)  : x_ev X xT 5 106 [.ref 0, .int x, .int y] (HX I A J B F) (some (.int (-1))) (HX I A J B F) := by
  refine q_ev (L := [some (.ref 0), some (.int x), some (.int y), none, none, none, none, none, none, none, none]) tX8_by (Nat.le_of_ble_eq_true rfl) rfl ?_
  refine q_aload_n rfl rfl ?_
  refine q_iload_n rfl rfl ?_
  refine q_callV1 rfl hx_0 (Nat.le_of_ble_eq_true rfl) (Nat.le_of_ble_eq_true rfl) (sX8_lightAtN x hx) ?_
  refine q_astore_nN (L' := [_, _, _, _, _, _, _, _, _, _, _]) rfl rfl ?_
  refine q_aload_n rfl rfl ?_
  refine q_getfield rfl hx_0 rfl ?_
  refine q_iload_n rfl rfl ?_
  refine q_callS2 rfl rfl (Nat.le_of_ble_eq_true rfl) (Nat.le_of_ble_eq_true rfl) (sX8_lineAt_rowN y hy) ?_
  refine q_astoreN (L' := [_, _, _, _, _, _, _, _, _, _, _]) rfl rfl ?_
  refine q_aload_nN rfl rfl ?_
  refine q_ifnullN rfl ?_
  refine q_iconst (v := (-1)) rfl rfl ?_
  refine q_iret rfl rfl ?_
  exact ⟨rfl, rfl⟩
theorem c_by_bo {X : XX} {I A : Nat → Nat → Int32} {J B : Nat → Nat → Int64} {F : Nat → Nat} (x : Int32) (hx : x < 0 ∨ I 0 12 ≤ x) (q : Nat) (hr : q < 6)  : x_ev X xT 5 106 [.ref 0, .int x, .int (nI q)] (HX I A J B F) (some (.int (-1))) (HX I A J B F) := by
  refine q_ev (L := [some (.ref 0), some (.int x), some (.int (nI q)), none, none, none, none, none, none, none, none]) tX8_by (Nat.le_of_ble_eq_true rfl) rfl ?_
  refine q_aload_n rfl rfl ?_
  refine q_iload_n rfl rfl ?_
  refine q_callV1 rfl hx_0 (Nat.le_of_ble_eq_true rfl) (Nat.le_of_ble_eq_true rfl) (sX8_lightAtN x hx) ?_
  refine q_astore_nN (L' := [_, _, _, _, _, _, _, _, _, _, _]) rfl rfl ?_
  refine q_aload_n rfl rfl ?_
  refine q_getfield rfl hx_0 rfl ?_
  refine q_iload_n rfl rfl ?_
  refine q_callS2 rfl rfl (Nat.le_of_ble_eq_true rfl) (Nat.le_of_ble_eq_true rfl) (sX8_lineAt_row q hr) ?_
  refine q_astore (L' := [_, _, _, _, _, _, _, _, _, _, _]) rfl rfl ?_
  refine q_aload_nN rfl rfl ?_
  refine q_ifnullN rfl ?_
  refine q_iconst (v := (-1)) rfl rfl ?_
  refine q_iret rfl rfl ?_
  exact ⟨rfl, rfl⟩
theorem c_by_ob {X : XX} {I A : Nat → Nat → Int32} {J B : Nat → Nat → Int64} {F : Nat → Nat} (ln : Nat) (hln : ln ≤ 5) (eln : I 0 12 = nI ln) (k : Nat) (hk : k < ln) (y : Int32) (hy : y < 0 ∨ 6 ≤ y)  : x_ev X xT 5 106 [.ref 0, .int (nI k), .int y] (HX I A J B F) (some (.int (-1))) (HX I A J B F) := by
  refine q_ev (L := [some (.ref 0), some (.int (nI k)), some (.int y), none, none, none, none, none, none, none, none]) tX8_by (Nat.le_of_ble_eq_true rfl) rfl ?_
  refine q_aload_n rfl rfl ?_
  refine q_iload_n rfl rfl ?_
  refine q_callV1 rfl hx_0 (Nat.le_of_ble_eq_true rfl) (Nat.le_of_ble_eq_true rfl) (sX8_lightAt k ln hk hln eln) ?_
  refine q_astore_n (L' := [_, _, _, _, _, _, _, _, _, _, _]) rfl rfl ?_
  refine q_aload_n rfl rfl ?_
  refine q_getfield rfl hx_0 rfl ?_
  refine q_iload_n rfl rfl ?_
  refine q_callS2 rfl rfl (Nat.le_of_ble_eq_true rfl) (Nat.le_of_ble_eq_true rfl) (sX8_lineAt_rowN y hy) ?_
  refine q_astoreN (L' := [_, _, _, _, _, _, _, _, _, _, _]) rfl rfl ?_
  refine q_aload_n rfl rfl ?_
  refine q_ifnull rfl ?_
  refine q_aloadN rfl rfl ?_
  refine q_ifnonnullN rfl ?_
  refine q_iconst (v := (-1)) rfl rfl ?_
  refine q_iret rfl rfl ?_
  exact ⟨rfl, rfl⟩
theorem c_by_M {X : XX} {I A : Nat → Nat → Int32} {J B : Nat → Nat → Int64} {F : Nat → Nat} (ln : Nat) (hln : ln ≤ 5) (eln : I 0 12 = nI ln) (k : Nat) (hk : k < ln) (q : Nat) (hr : q < 6) (hz : I (20 + 2 * q) 1 = -1)  : x_ev X xT 5 106 [.ref 0, .int (nI k), .int (nI q)] (HX I A J B F) (some (.int (-3))) (HX (u2 I 0 13 (nI 1)) (f_cnt A 19 1) J B F) := by
  refine q_ev (L := [some (.ref 0), some (.int (nI k)), some (.int (nI q)), none, none, none, none, none, none, none, none]) tX8_by (Nat.le_of_ble_eq_true rfl) rfl ?_
  refine q_aload_n rfl rfl ?_
  refine q_iload_n rfl rfl ?_
  refine q_callV1 rfl hx_0 (Nat.le_of_ble_eq_true rfl) (Nat.le_of_ble_eq_true rfl) (sX8_lightAt k ln hk hln eln) ?_
  refine q_astore_n (L' := [_, _, _, _, _, _, _, _, _, _, _]) rfl rfl ?_
  refine q_aload_n rfl rfl ?_
  refine q_getfield rfl hx_0 rfl ?_
  refine q_iload_n rfl rfl ?_
  refine q_callS2 rfl rfl (Nat.le_of_ble_eq_true rfl) (Nat.le_of_ble_eq_true rfl) (sX8_lineAt_row q hr) ?_
  refine q_astore (L' := [_, _, _, _, _, _, _, _, _, _, _]) rfl rfl ?_
  refine q_aload_n rfl rfl ?_
  refine q_ifnull rfl ?_
  refine q_aload rfl rfl ?_
  refine q_ifnonnull rfl ?_
  refine q_aload_n rfl rfl ?_
  refine q_aload rfl rfl ?_
  refine q_callV1 rfl hx_0 (Nat.le_of_ble_eq_true rfl) (Nat.le_of_ble_eq_true rfl) (sX8_refuseTurns_M q (by omega) hz) ?_
  refine q_istore (L' := [_, _, _, _, _, _, _, _, _, _, _]) rfl rfl ?_
  refine q_iload rfl rfl ?_
  refine q_if_eq rfl (fun hc37 => ?_) (fun hc37 => ?_)
  · exact absurd hc37 (by decide)
  · refine q_iload rfl rfl ?_
    refine q_iret rfl rfl ?_
    exact ⟨rfl, rfl⟩
theorem c_by_S {X : XX} {I A : Nat → Nat → Int32} {J B : Nat → Nat → Int64} {F : Nat → Nat} (ln : Nat) (hln : ln ≤ 5) (eln : I 0 12 = nI ln) (k : Nat) (hk : k < ln) (q : Nat) (hr : q < 6) (n : Nat) (hn : n ≤ rm q) (hz : I (20 + 2 * q) 1 = nI n) (hn8 : n < 1 ∨ 8 < n)  : x_ev X xT 5 106 [.ref 0, .int (nI k), .int (nI q)] (HX I A J B F) (some (.int (-3))) (HX (u2 I 0 13 (nI 5)) (f_cnt A 19 5) J B F) := by
  refine q_ev (L := [some (.ref 0), some (.int (nI k)), some (.int (nI q)), none, none, none, none, none, none, none, none]) tX8_by (Nat.le_of_ble_eq_true rfl) rfl ?_
  refine q_aload_n rfl rfl ?_
  refine q_iload_n rfl rfl ?_
  refine q_callV1 rfl hx_0 (Nat.le_of_ble_eq_true rfl) (Nat.le_of_ble_eq_true rfl) (sX8_lightAt k ln hk hln eln) ?_
  refine q_astore_n (L' := [_, _, _, _, _, _, _, _, _, _, _]) rfl rfl ?_
  refine q_aload_n rfl rfl ?_
  refine q_getfield rfl hx_0 rfl ?_
  refine q_iload_n rfl rfl ?_
  refine q_callS2 rfl rfl (Nat.le_of_ble_eq_true rfl) (Nat.le_of_ble_eq_true rfl) (sX8_lineAt_row q hr) ?_
  refine q_astore (L' := [_, _, _, _, _, _, _, _, _, _, _]) rfl rfl ?_
  refine q_aload_n rfl rfl ?_
  refine q_ifnull rfl ?_
  refine q_aload rfl rfl ?_
  refine q_ifnonnull rfl ?_
  refine q_aload_n rfl rfl ?_
  refine q_aload rfl rfl ?_
  refine q_callV1 rfl hx_0 (Nat.le_of_ble_eq_true rfl) (Nat.le_of_ble_eq_true rfl) (sX8_refuseTurns_S q (by omega) n hn hz hn8) ?_
  refine q_istore (L' := [_, _, _, _, _, _, _, _, _, _, _]) rfl rfl ?_
  refine q_iload rfl rfl ?_
  refine q_if_eq rfl (fun hc37 => ?_) (fun hc37 => ?_)
  · exact absurd hc37 (by decide)
  · refine q_iload rfl rfl ?_
    refine q_iret rfl rfl ?_
    exact ⟨rfl, rfl⟩
theorem c_by_U {X : XX} {I A : Nat → Nat → Int32} {J B : Nat → Nat → Int64} {F : Nat → Nat} (ln : Nat) (hln : ln ≤ 5) (eln : I 0 12 = nI ln) (k : Nat) (hk : k < ln) (q : Nat) (hr : q < 6) (n : Nat) (hn : n ≤ rm q) (hz : I (20 + 2 * q) 1 = nI n) (n1 : 1 ≤ n) (n8 : n ≤ 8) (hno : ¬ ∀ k, k < n → okN (-6) (nI 6) (A (21 + 2 * q) k))  : x_ev X xT 5 106 [.ref 0, .int (nI k), .int (nI q)] (HX I A J B F) (some (.int (-3))) (HX (u2 I 0 13 (nI 3)) (f_cnt A 19 3) J B F) := by
  refine q_ev (L := [some (.ref 0), some (.int (nI k)), some (.int (nI q)), none, none, none, none, none, none, none, none]) tX8_by (Nat.le_of_ble_eq_true rfl) rfl ?_
  refine q_aload_n rfl rfl ?_
  refine q_iload_n rfl rfl ?_
  refine q_callV1 rfl hx_0 (Nat.le_of_ble_eq_true rfl) (Nat.le_of_ble_eq_true rfl) (sX8_lightAt k ln hk hln eln) ?_
  refine q_astore_n (L' := [_, _, _, _, _, _, _, _, _, _, _]) rfl rfl ?_
  refine q_aload_n rfl rfl ?_
  refine q_getfield rfl hx_0 rfl ?_
  refine q_iload_n rfl rfl ?_
  refine q_callS2 rfl rfl (Nat.le_of_ble_eq_true rfl) (Nat.le_of_ble_eq_true rfl) (sX8_lineAt_row q hr) ?_
  refine q_astore (L' := [_, _, _, _, _, _, _, _, _, _, _]) rfl rfl ?_
  refine q_aload_n rfl rfl ?_
  refine q_ifnull rfl ?_
  refine q_aload rfl rfl ?_
  refine q_ifnonnull rfl ?_
  refine q_aload_n rfl rfl ?_
  refine q_aload rfl rfl ?_
  refine q_callV1 rfl hx_0 (Nat.le_of_ble_eq_true rfl) (Nat.le_of_ble_eq_true rfl) (sX8_refuseTurns_U q (by omega) n hn hz n1 n8 hno) ?_
  refine q_istore (L' := [_, _, _, _, _, _, _, _, _, _, _]) rfl rfl ?_
  refine q_iload rfl rfl ?_
  refine q_if_eq rfl (fun hc37 => ?_) (fun hc37 => ?_)
  · exact absurd hc37 (by decide)
  · refine q_iload rfl rfl ?_
    refine q_iret rfl rfl ?_
    exact ⟨rfl, rfl⟩
theorem c_by_0 {X : XX} {I A : Nat → Nat → Int32} {J B : Nat → Nat → Int64} {F : Nat → Nat} (b : Nat) (hb : b ≤ 5) (eb : I 7 0 = nI b) (m : Nat) (em : I 8 2 = nI m) (hm : m ≤ 40) (s : Nat) (es : I 8 3 = nI s) (hs : s < 24) (st : Nat) (hst : st < 24) (e7 : I 7 1 = nI st) (ln : Nat) (hln : ln ≤ 5) (eln : I 0 12 = nI ln) (lks : ∀ i, i < 5 → lkOK I (40 + i)) (k : Nat) (hk : k < ln) (q : Nat) (hr : q < 6) (n : Nat) (hn : n ≤ rm q) (hz : I (20 + 2 * q) 1 = nI n) (n1 : 1 ≤ n) (n8 : n ≤ 8) (hok : ∀ k, k < n → okN (-6) (nI 6) (A (21 + 2 * q) k))  : x_ev X xT 5 106 [.ref 0, .int (nI k), .int (nI q)] (HX I A J B F) (some (.int (nI (pgN b (cL I (40 + k)) m (A (21 + 2 * q)) s n)))) (HX (u2 I 0 14 (psN st (A (21 + 2 * q)) s n)) A J B F) := by
  refine q_ev (L := [some (.ref 0), some (.int (nI k)), some (.int (nI q)), none, none, none, none, none, none, none, none]) tX8_by (Nat.le_of_ble_eq_true rfl) rfl ?_
  refine q_aload_n rfl rfl ?_
  refine q_iload_n rfl rfl ?_
  refine q_callV1 rfl hx_0 (Nat.le_of_ble_eq_true rfl) (Nat.le_of_ble_eq_true rfl) (sX8_lightAt k ln hk hln eln) ?_
  refine q_astore_n (L' := [_, _, _, _, _, _, _, _, _, _, _]) rfl rfl ?_
  refine q_aload_n rfl rfl ?_
  refine q_getfield rfl hx_0 rfl ?_
  refine q_iload_n rfl rfl ?_
  refine q_callS2 rfl rfl (Nat.le_of_ble_eq_true rfl) (Nat.le_of_ble_eq_true rfl) (sX8_lineAt_row q hr) ?_
  refine q_astore (L' := [_, _, _, _, _, _, _, _, _, _, _]) rfl rfl ?_
  refine q_aload_n rfl rfl ?_
  refine q_ifnull rfl ?_
  refine q_aload rfl rfl ?_
  refine q_ifnonnull rfl ?_
  refine q_aload_n rfl rfl ?_
  refine q_aload rfl rfl ?_
  refine q_callV1 rfl hx_0 (Nat.le_of_ble_eq_true rfl) (Nat.le_of_ble_eq_true rfl) (sX8_refuseTurns_0 q (by omega) n hn hz n1 n8 hok) ?_
  refine q_istore (L' := [_, _, _, _, _, _, _, _, _, _, _]) rfl rfl ?_
  refine q_iload rfl rfl ?_
  refine q_if_eqN rfl (by omega) (fun hc37 => ?_) (fun hc37 => ?_)
  · refine q_aload_n rfl rfl ?_
    refine q_getfield rfl hx_0 rfl ?_
    refine q_callV0 rfl hx_8 (Nat.le_of_ble_eq_true rfl) (Nat.le_of_ble_eq_true rfl) (sN_first es) ?_
    refine q_istore (L' := [_, _, _, _, _, _, _, _, _, _, _]) rfl rfl ?_
    refine q_iconst (v := 0) rfl rfl ?_
    refine q_istore (L' := [_, _, _, _, _, _, _, _, _, _, _]) rfl rfl ?_
    refine q_iconst (v := nI 0) rfl rfl ?_
    refine q_istore (L' := [_, _, _, _, _, _, _, _, _, _, _]) rfl rfl ?_
    refine q_iconst (v := nI 0) rfl rfl ?_
    refine q_istore (L' := [_, _, _, _, _, _, _, _, _, _, _]) rfl rfl ?_
    refine q_up (Inv := fun j L h => ∃ z, L = [some (.ref 0), some (.int (nI k)), some (.int (nI q)), some (.ref (40 + k)), some (.ref (20 + 2 * q)), some (.int (nI 0)), some (.int (nI (pfN (A (21 + 2 * q)) s j))), some (.int (psN st (A (21 + 2 * q)) s j)), some (.int (nI (pgN b (cL I (40 + k)) m (A (21 + 2 * q)) s j))), some (.int (nI j)), z] ∧ h = HX I A J B F) (n) (fun j L h hk_j hi_j ih_j => ?_) (fun L h hi_j => ?_) (0) _ _ (by omega) (⟨_, rfl, rfl⟩)
    · obtain ⟨z, rfl, rfl⟩ := hi_j
      refine q_iload rfl rfl ?_
      refine q_aload rfl rfl ?_
      refine q_callV0 rfl (hx_line q (by omega)) (Nat.le_of_ble_eq_true rfl) (Nat.le_of_ble_eq_true rfl) (sL_size q (by omega) hz) ?_
      refine q_icmp_geN rfl (by omega) (by omega) (fun hcjs68 => ?_) (fun hcjs68 => ?_)
      · omega
      · refine q_aload rfl rfl ?_
        refine q_iload rfl rfl ?_
        refine q_callV1 rfl (hx_line q (by omega)) (Nat.le_of_ble_eq_true rfl) (Nat.le_of_ble_eq_true rfl) (sL_read q (by omega) n hn hz j hk_j) ?_
        refine q_istore (L' := [_, _, _, _, _, _, _, _, _, _, _]) rfl rfl ?_
        refine q_iload rfl rfl ?_
        refine q_aload_n rfl rfl ?_
        refine q_getfield rfl hx_0 rfl ?_
        refine q_iload rfl rfl ?_
        refine q_iload rfl rfl ?_
        refine q_callV2 rfl hx_7 (Nat.le_of_ble_eq_true rfl) (Nat.le_of_ble_eq_true rfl) (sK_eff e7 _ _) ?_
        refine q_iadd rfl ?_
        refine q_istore (L' := [_, _, _, _, _, _, _, _, _, _, _]) rfl rfl ?_
        refine q_iload rfl rfl ?_
        refine q_iload rfl rfl ?_
        refine q_iadd rfl ?_
        refine q_callS1 rfl rfl (Nat.le_of_ble_eq_true rfl) (Nat.le_of_ble_eq_true rfl) (sK_round _) ?_
        refine q_istore (L' := [_, _, _, _, _, _, _, _, _, _, _]) rfl rfl ?_
        refine q_iload rfl rfl ?_
        refine q_aload_n rfl rfl ?_
        refine q_getfield rfl hx_0 rfl ?_
        refine q_iload rfl rfl ?_
        refine q_aload_n rfl rfl ?_
        refine q_aload_n rfl rfl ?_
        refine q_getfield rfl hx_0 rfl ?_
        refine q_callV0 rfl hx_8 (Nat.le_of_ble_eq_true rfl) (Nat.le_of_ble_eq_true rfl) (sN_now em) ?_
        refine q_iload rfl rfl ?_
        refine q_iaddN rfl ?_
        refine q_callV3 rfl hx_7 (Nat.le_of_ble_eq_true rfl) (Nat.le_of_ble_eq_true rfl) (sK_gain (hx_7b eb) hb (hx_light k (by omega)) (lks k (by omega)) _ _ (by omega)) ?_
        refine q_iaddN rfl ?_
        refine q_istore (L' := [_, _, _, _, _, _, _, _, _, _, _]) rfl rfl ?_
        refine q_iincN (c := 1) (L' := [_, _, _, _, _, _, _, _, _, _, _]) rfl rfl rfl rfl ?_
        refine q_goto rfl ?_
        exact ih_j _ _ (⟨_, rfl, rfl⟩)
    · obtain ⟨z, rfl, rfl⟩ := hi_j
      refine q_iload rfl rfl ?_
      refine q_aload rfl rfl ?_
      refine q_callV0 rfl (hx_line q (by omega)) (Nat.le_of_ble_eq_true rfl) (Nat.le_of_ble_eq_true rfl) (sL_size q (by omega) hz) ?_
      refine q_icmp_geN rfl (by omega) (by omega) (fun hcjf68 => ?_) (fun hcjf68 => ?_)
      · refine q_aload_n rfl rfl ?_
        refine q_iload rfl rfl ?_
        refine q_putfield rfl hx_0 rfl (Nat.le_of_ble_eq_true rfl) (rfl) (by decide +kernel) ?_
        refine q_heap (hs_0_14 _) ?_
        refine q_iload rfl rfl ?_
        refine q_iret rfl rfl ?_
        exact ⟨rfl, rfl⟩
      · omega
  · exact absurd hc37 (by decide)
theorem m_by_b {X : XX} {I A : Nat → Nat → Int32} {J B : Nat → Nat → Int64} {F : Nat → Nat} (ln : Nat) (hln : ln ≤ 5) (eln : I 51 3 = nI ln) (x : Int32) (hx : x < 0 ∨ nI ln ≤ x) (y : Int32)  : x_ev X xT 4 221 [.ref 51, .int x, .int y] (HX I A J B F) (some (.int (-1))) (HX I A J B F) := by
  refine q_ev (L := [some (.ref 51), some (.int x), some (.int y), none, none, none, none]) tX9_by (Nat.le_of_ble_eq_true rfl) rfl ?_
  refine q_aload_n rfl rfl ?_
  refine q_iload_n rfl rfl ?_
  refine q_callV1 rfl hx_51 (Nat.le_of_ble_eq_true rfl) (Nat.le_of_ble_eq_true rfl) (sX9_isLight_0 x ln hln eln hx) ?_
  refine q_if_eqN rfl (by omega) (fun hc5 => ?_) (fun hc5 => ?_)
  · refine q_iconst (v := (-1)) rfl rfl ?_
    refine q_iret rfl rfl ?_
    exact ⟨rfl, rfl⟩
  · exact absurd hc5 (by decide)
theorem m_by_ob {X : XX} {I A : Nat → Nat → Int32} {J B : Nat → Nat → Int64} {F : Nat → Nat} (ln : Nat) (hln : ln ≤ 5) (eln : I 51 3 = nI ln) (k : Nat) (hk : k < ln) (y : Int32) (hy : y < 0 ∨ 6 ≤ y)  : x_ev X xT 4 221 [.ref 51, .int (nI k), .int y] (HX I A J B F) (some (.int (-1))) (HX I A J B F) := by
  refine q_ev (L := [some (.ref 51), some (.int (nI k)), some (.int y), none, none, none, none]) tX9_by (Nat.le_of_ble_eq_true rfl) rfl ?_
  refine q_aload_n rfl rfl ?_
  refine q_iload_n rfl rfl ?_
  refine q_callV1 rfl hx_51 (Nat.le_of_ble_eq_true rfl) (Nat.le_of_ble_eq_true rfl) (sX9_isLight_1 k ln hk hln eln) ?_
  refine q_if_eqN rfl (by omega) (fun hc5 => ?_) (fun hc5 => ?_)
  · exact absurd hc5 (by decide)
  · refine q_iload_n rfl rfl ?_
    refine q_callS1 rfl rfl (Nat.le_of_ble_eq_true rfl) (Nat.le_of_ble_eq_true rfl) (sX9_isRow_0 y hy) ?_
    refine q_if_neN rfl (by omega) (fun hc12 => ?_) (fun hc12 => ?_)
    · exact absurd hc12 (by decide)
    · refine q_iconst (v := (-1)) rfl rfl ?_
      refine q_iret rfl rfl ?_
      exact ⟨rfl, rfl⟩
theorem m_by_M {X : XX} {I A : Nat → Nat → Int32} {J B : Nat → Nat → Int64} {F : Nat → Nat} (ln : Nat) (hln : ln ≤ 5) (eln : I 51 3 = nI ln) (k : Nat) (hk : k < ln) (q : Nat) (hr : q < 6) (hz : A 57 q = -1)  : x_ev X xT 4 221 [.ref 51, .int (nI k), .int (nI q)] (HX I A J B F) (some (.int (-3))) (HX (u2 I 51 15 (nI 1)) (f_cnt A 61 1) J B F) := by
  refine q_ev (L := [some (.ref 51), some (.int (nI k)), some (.int (nI q)), none, none, none, none]) tX9_by (Nat.le_of_ble_eq_true rfl) rfl ?_
  refine q_aload_n rfl rfl ?_
  refine q_iload_n rfl rfl ?_
  refine q_callV1 rfl hx_51 (Nat.le_of_ble_eq_true rfl) (Nat.le_of_ble_eq_true rfl) (sX9_isLight_1 k ln hk hln eln) ?_
  refine q_if_eqN rfl (by omega) (fun hc5 => ?_) (fun hc5 => ?_)
  · exact absurd hc5 (by decide)
  · refine q_iload_n rfl rfl ?_
    refine q_callS1 rfl rfl (Nat.le_of_ble_eq_true rfl) (Nat.le_of_ble_eq_true rfl) (sX9_isRow_1 q hr) ?_
    refine q_if_neN rfl (by omega) (fun hc12 => ?_) (fun hc12 => ?_)
    · refine q_aload_n rfl rfl ?_
      refine q_iload_n rfl rfl ?_
      refine q_callV1 rfl hx_51 (Nat.le_of_ble_eq_true rfl) (Nat.le_of_ble_eq_true rfl) (sX9_noTurns_M q hr hz) ?_
      refine q_istore_n (L' := [_, _, _, _, _, _, _]) rfl rfl ?_
      refine q_iload_n rfl rfl ?_
      refine q_if_eq rfl (fun hc24 => ?_) (fun hc24 => ?_)
      · exact absurd hc24 (by decide)
      · refine q_iload_n rfl rfl ?_
        refine q_iret rfl rfl ?_
        exact ⟨rfl, rfl⟩
    · exact absurd hc12 (by decide)
theorem m_by_S {X : XX} {I A : Nat → Nat → Int32} {J B : Nat → Nat → Int64} {F : Nat → Nat} (ln : Nat) (hln : ln ≤ 5) (eln : I 51 3 = nI ln) (k : Nat) (hk : k < ln) (q : Nat) (hr : q < 6) (n : Nat) (hn : n ≤ 40) (hz : A 57 q = nI n) (hn8 : n < 1 ∨ 8 < n)  : x_ev X xT 4 221 [.ref 51, .int (nI k), .int (nI q)] (HX I A J B F) (some (.int (-3))) (HX (u2 I 51 15 (nI 5)) (f_cnt A 61 5) J B F) := by
  refine q_ev (L := [some (.ref 51), some (.int (nI k)), some (.int (nI q)), none, none, none, none]) tX9_by (Nat.le_of_ble_eq_true rfl) rfl ?_
  refine q_aload_n rfl rfl ?_
  refine q_iload_n rfl rfl ?_
  refine q_callV1 rfl hx_51 (Nat.le_of_ble_eq_true rfl) (Nat.le_of_ble_eq_true rfl) (sX9_isLight_1 k ln hk hln eln) ?_
  refine q_if_eqN rfl (by omega) (fun hc5 => ?_) (fun hc5 => ?_)
  · exact absurd hc5 (by decide)
  · refine q_iload_n rfl rfl ?_
    refine q_callS1 rfl rfl (Nat.le_of_ble_eq_true rfl) (Nat.le_of_ble_eq_true rfl) (sX9_isRow_1 q hr) ?_
    refine q_if_neN rfl (by omega) (fun hc12 => ?_) (fun hc12 => ?_)
    · refine q_aload_n rfl rfl ?_
      refine q_iload_n rfl rfl ?_
      refine q_callV1 rfl hx_51 (Nat.le_of_ble_eq_true rfl) (Nat.le_of_ble_eq_true rfl) (sX9_noTurns_S q hr n hn hz hn8) ?_
      refine q_istore_n (L' := [_, _, _, _, _, _, _]) rfl rfl ?_
      refine q_iload_n rfl rfl ?_
      refine q_if_eq rfl (fun hc24 => ?_) (fun hc24 => ?_)
      · exact absurd hc24 (by decide)
      · refine q_iload_n rfl rfl ?_
        refine q_iret rfl rfl ?_
        exact ⟨rfl, rfl⟩
    · exact absurd hc12 (by decide)
theorem m_by_U {X : XX} {I A : Nat → Nat → Int32} {J B : Nat → Nat → Int64} {F : Nat → Nat} (ln : Nat) (hln : ln ≤ 5) (eln : I 51 3 = nI ln) (k : Nat) (hk : k < ln) (q : Nat) (hr : q < 6) (n : Nat) (hn : n ≤ 40) (hz : A 57 q = nI n) (n1 : 1 ≤ n) (n8 : n ≤ 8) (hno : ¬ ∀ k, k < n → okN (-6) (nI 6) ((fun x => A 58 (40 * q + x)) k))  : x_ev X xT 4 221 [.ref 51, .int (nI k), .int (nI q)] (HX I A J B F) (some (.int (-3))) (HX (u2 I 51 15 (nI 3)) (f_cnt A 61 3) J B F) := by
  refine q_ev (L := [some (.ref 51), some (.int (nI k)), some (.int (nI q)), none, none, none, none]) tX9_by (Nat.le_of_ble_eq_true rfl) rfl ?_
  refine q_aload_n rfl rfl ?_
  refine q_iload_n rfl rfl ?_
  refine q_callV1 rfl hx_51 (Nat.le_of_ble_eq_true rfl) (Nat.le_of_ble_eq_true rfl) (sX9_isLight_1 k ln hk hln eln) ?_
  refine q_if_eqN rfl (by omega) (fun hc5 => ?_) (fun hc5 => ?_)
  · exact absurd hc5 (by decide)
  · refine q_iload_n rfl rfl ?_
    refine q_callS1 rfl rfl (Nat.le_of_ble_eq_true rfl) (Nat.le_of_ble_eq_true rfl) (sX9_isRow_1 q hr) ?_
    refine q_if_neN rfl (by omega) (fun hc12 => ?_) (fun hc12 => ?_)
    · refine q_aload_n rfl rfl ?_
      refine q_iload_n rfl rfl ?_
      refine q_callV1 rfl hx_51 (Nat.le_of_ble_eq_true rfl) (Nat.le_of_ble_eq_true rfl) (sX9_noTurns_U q hr n hn hz n1 n8 hno) ?_
      refine q_istore_n (L' := [_, _, _, _, _, _, _]) rfl rfl ?_
      refine q_iload_n rfl rfl ?_
      refine q_if_eq rfl (fun hc24 => ?_) (fun hc24 => ?_)
      · exact absurd hc24 (by decide)
      · refine q_iload_n rfl rfl ?_
        refine q_iret rfl rfl ?_
        exact ⟨rfl, rfl⟩
    · exact absurd hc12 (by decide)
theorem m_by_0 {X : XX} {I A : Nat → Nat → Int32} {J B : Nat → Nat → Int64} {F : Nat → Nat} (b : Nat) (hb : b ≤ 5) (eb : I 51 1 = nI b) (m : Nat) (em : A 52 1 = nI m) (hm : m ≤ 40) (s : Nat) (es : A 52 2 = nI s) (hs : s < 24) (st : Nat) (hst : st < 24) (est : I 51 2 = nI st) (ln : Nat) (hln : ln ≤ 5) (eln : I 51 3 = nI ln) (hl : mLk A) (k : Nat) (hk : k < ln) (q : Nat) (hr : q < 6) (n : Nat) (hn : n ≤ 40) (hz : A 57 q = nI n) (n1 : 1 ≤ n) (n8 : n ≤ 8) (hok : ∀ k, k < n → okN (-6) (nI 6) ((fun x => A 58 (40 * q + x)) k))  : x_ev X xT 4 221 [.ref 51, .int (nI k), .int (nI q)] (HX I A J B F) (some (.int (nI (pgN b (mL A k) m (fun x => A 58 (40 * q + x)) s n)))) (HX (u2 I 51 12 (psN st (fun x => A 58 (40 * q + x)) s n)) A J B F) := by
  refine q_ev (L := [some (.ref 51), some (.int (nI k)), some (.int (nI q)), none, none, none, none]) tX9_by (Nat.le_of_ble_eq_true rfl) rfl ?_
  refine q_aload_n rfl rfl ?_
  refine q_iload_n rfl rfl ?_
  refine q_callV1 rfl hx_51 (Nat.le_of_ble_eq_true rfl) (Nat.le_of_ble_eq_true rfl) (sX9_isLight_1 k ln hk hln eln) ?_
  refine q_if_eqN rfl (by omega) (fun hc5 => ?_) (fun hc5 => ?_)
  · exact absurd hc5 (by decide)
  · refine q_iload_n rfl rfl ?_
    refine q_callS1 rfl rfl (Nat.le_of_ble_eq_true rfl) (Nat.le_of_ble_eq_true rfl) (sX9_isRow_1 q hr) ?_
    refine q_if_neN rfl (by omega) (fun hc12 => ?_) (fun hc12 => ?_)
    · refine q_aload_n rfl rfl ?_
      refine q_iload_n rfl rfl ?_
      refine q_callV1 rfl hx_51 (Nat.le_of_ble_eq_true rfl) (Nat.le_of_ble_eq_true rfl) (sX9_noTurns_0 q hr n hn hz n1 n8 hok) ?_
      refine q_istore_n (L' := [_, _, _, _, _, _, _]) rfl rfl ?_
      refine q_iload_n rfl rfl ?_
      refine q_if_eqN rfl (by omega) (fun hc24 => ?_) (fun hc24 => ?_)
      · refine q_aload_n rfl rfl ?_
        refine q_getfield rfl hx_51 rfl ?_
        refine q_iconst (v := nI 2) rfl rfl ?_
        refine q_iald rfl (by decide) hx_52 (by decide) (by decide) (es) ?_
        refine q_istore (L' := [_, _, _, _, _, _, _]) rfl rfl ?_
        refine q_iconst (v := nI 0) rfl rfl ?_
        refine q_istore (L' := [_, _, _, _, _, _, _]) rfl rfl ?_
        refine q_aload_n rfl rfl ?_
        refine q_iconst (v := 0) rfl rfl ?_
        refine q_putfield rfl hx_51 rfl (Nat.le_of_ble_eq_true rfl) (rfl) (by decide +kernel) ?_
        refine q_heap (hs_51_12 _) ?_
        refine q_iconst (v := nI 0) rfl rfl ?_
        refine q_istore (L' := [_, _, _, _, _, _, _]) rfl rfl ?_
        refine q_up (Inv := fun j L h => L = [some (.ref 51), some (.int (nI k)), some (.int (nI q)), some (.int (nI 0)), some (.int (nI (pfN (fun x => A 58 (40 * q + x)) s j))), some (.int (nI (pgN b (mL A k) m (fun x => A 58 (40 * q + x)) s j))), some (.int (nI j))] ∧ h = HX (u2 I 51 12 (psN st (fun x => A 58 (40 * q + x)) s j)) A J B F) (n) (fun j L h hk_j hi_j ih_j => ?_) (fun L h hi_j => ?_) (0) _ _ (by omega) (⟨rfl, rfl⟩)
        · obtain ⟨rfl, rfl⟩ := hi_j
          refine q_iload rfl rfl ?_
          refine q_aload_n rfl rfl ?_
          refine q_getfield rfl hx_51 rfl ?_
          refine q_iload_n rfl rfl ?_
          refine q_iald rfl (by decide) hx_57 (by omega) (by decide) (hz) ?_
          refine q_icmp_geN rfl (by omega) (by omega) (fun hcjs56 => ?_) (fun hcjs56 => ?_)
          · omega
          · refine q_aload_n rfl rfl ?_
            refine q_dupA rfl ?_
            refine q_getfield rfl hx_51 rfl ?_
            refine q_aload_n rfl rfl ?_
            refine q_iload rfl rfl ?_
            refine q_aload_n rfl rfl ?_
            refine q_getfield rfl hx_51 rfl ?_
            refine q_bipush (v := nI 40) rfl rfl ?_
            refine q_iload_n rfl rfl ?_
            refine q_imulN rfl ?_
            refine q_iload rfl rfl ?_
            refine q_iaddN rfl ?_
            refine q_iald rfl (by decide) hx_58 (by omega) (by decide) (rfl) ?_
            refine q_callV2 rfl hx_51 (Nat.le_of_ble_eq_true rfl) (Nat.le_of_ble_eq_true rfl) (m_eff hst (pfN_lt hs _) (by exact est) (hok j hk_j)) ?_
            refine q_iadd rfl ?_
            refine q_putfield rfl hx_51 rfl (Nat.le_of_ble_eq_true rfl) (rfl) (by decide +kernel) ?_
            refine q_heap (hs_51_12 _) ?_
            refine q_iload rfl rfl ?_
            refine q_aload_n rfl rfl ?_
            refine q_getfield rfl hx_51 rfl ?_
            refine q_bipush (v := nI 40) rfl rfl ?_
            refine q_iload_n rfl rfl ?_
            refine q_imulN rfl ?_
            refine q_iload rfl rfl ?_
            refine q_iaddN rfl ?_
            refine q_iald rfl (by decide) hx_58 (by omega) (by decide) (rfl) ?_
            refine q_iadd rfl ?_
            refine q_callS1 rfl rfl (Nat.le_of_ble_eq_true rfl) (Nat.le_of_ble_eq_true rfl) (sX9_ring _) ?_
            refine q_istore (L' := [_, _, _, _, _, _, _]) rfl rfl ?_
            refine q_iload rfl rfl ?_
            refine q_aload_n rfl rfl ?_
            refine q_iload_n rfl rfl ?_
            refine q_iload rfl rfl ?_
            refine q_aload_n rfl rfl ?_
            refine q_getfield rfl hx_51 rfl ?_
            refine q_iconst (v := nI 1) rfl rfl ?_
            refine q_iald rfl (by decide) hx_52 (by decide) (by decide) (em) ?_
            refine q_iload rfl rfl ?_
            refine q_iaddN rfl ?_
            refine q_callV3 rfl hx_51 (Nat.le_of_ble_eq_true rfl) (Nat.le_of_ble_eq_true rfl) (sX9_got k (by omega) hl b hb (by exact eb) _ _ (by omega)) ?_
            refine q_iaddN rfl ?_
            refine q_istore (L' := [_, _, _, _, _, _, _]) rfl rfl ?_
            refine q_iincN (c := 1) (L' := [_, _, _, _, _, _, _]) rfl rfl rfl rfl ?_
            refine q_goto rfl ?_
            exact ih_j _ _ (⟨rfl, by rw [u2_u2]; rfl⟩)
        · obtain ⟨rfl, rfl⟩ := hi_j
          refine q_iload rfl rfl ?_
          refine q_aload_n rfl rfl ?_
          refine q_getfield rfl hx_51 rfl ?_
          refine q_iload_n rfl rfl ?_
          refine q_iald rfl (by decide) hx_57 (by omega) (by decide) (hz) ?_
          refine q_icmp_geN rfl (by omega) (by omega) (fun hcjf56 => ?_) (fun hcjf56 => ?_)
          · refine q_iload rfl rfl ?_
            refine q_iret rfl rfl ?_
            exact ⟨rfl, rfl⟩
          · omega
      · exact absurd hc24 (by decide)
    · exact absurd hc12 (by decide)
theorem c_fainter_bb {X : XX} {I A : Nat → Nat → Int32} {J B : Nat → Nat → Int64} {F : Nat → Nat} (x : Int32) (hx : x < 0 ∨ I 0 12 ≤ x) (y : Int32) (hy : y < 0 ∨ 6 ≤ y)  : x_ev X xT 5 111 [.ref 0, .int x, .int y] (HX I A J B F) (some (.int (-1))) (HX I A J B F) := by
  refine q_ev (L := [some (.ref 0), some (.int x), some (.int y), none, none, none, none, none, none, none]) tX8_fainter (Nat.le_of_ble_eq_true rfl) rfl ?_
  refine q_aload_n rfl rfl ?_
  refine q_iload_n rfl rfl ?_
  refine q_callV1 rfl hx_0 (Nat.le_of_ble_eq_true rfl) (Nat.le_of_ble_eq_true rfl) (sX8_lightAtN x hx) ?_
  refine q_astore_nN (L' := [_, _, _, _, _, _, _, _, _, _]) rfl rfl ?_
  refine q_aload_n rfl rfl ?_
  refine q_getfield rfl hx_0 rfl ?_
  refine q_iload_n rfl rfl ?_
  refine q_callS2 rfl rfl (Nat.le_of_ble_eq_true rfl) (Nat.le_of_ble_eq_true rfl) (sX8_lineAt_rowN y hy) ?_
  refine q_astoreN (L' := [_, _, _, _, _, _, _, _, _, _]) rfl rfl ?_
  refine q_aload_nN rfl rfl ?_
  refine q_ifnullN rfl ?_
  refine q_iconst (v := (-1)) rfl rfl ?_
  refine q_iret rfl rfl ?_
  exact ⟨rfl, rfl⟩
theorem c_fainter_bo {X : XX} {I A : Nat → Nat → Int32} {J B : Nat → Nat → Int64} {F : Nat → Nat} (x : Int32) (hx : x < 0 ∨ I 0 12 ≤ x) (q : Nat) (hr : q < 6)  : x_ev X xT 5 111 [.ref 0, .int x, .int (nI q)] (HX I A J B F) (some (.int (-1))) (HX I A J B F) := by
  refine q_ev (L := [some (.ref 0), some (.int x), some (.int (nI q)), none, none, none, none, none, none, none]) tX8_fainter (Nat.le_of_ble_eq_true rfl) rfl ?_
  refine q_aload_n rfl rfl ?_
  refine q_iload_n rfl rfl ?_
  refine q_callV1 rfl hx_0 (Nat.le_of_ble_eq_true rfl) (Nat.le_of_ble_eq_true rfl) (sX8_lightAtN x hx) ?_
  refine q_astore_nN (L' := [_, _, _, _, _, _, _, _, _, _]) rfl rfl ?_
  refine q_aload_n rfl rfl ?_
  refine q_getfield rfl hx_0 rfl ?_
  refine q_iload_n rfl rfl ?_
  refine q_callS2 rfl rfl (Nat.le_of_ble_eq_true rfl) (Nat.le_of_ble_eq_true rfl) (sX8_lineAt_row q hr) ?_
  refine q_astore (L' := [_, _, _, _, _, _, _, _, _, _]) rfl rfl ?_
  refine q_aload_nN rfl rfl ?_
  refine q_ifnullN rfl ?_
  refine q_iconst (v := (-1)) rfl rfl ?_
  refine q_iret rfl rfl ?_
  exact ⟨rfl, rfl⟩
theorem c_fainter_ob {X : XX} {I A : Nat → Nat → Int32} {J B : Nat → Nat → Int64} {F : Nat → Nat} (ln : Nat) (hln : ln ≤ 5) (eln : I 0 12 = nI ln) (k : Nat) (hk : k < ln) (y : Int32) (hy : y < 0 ∨ 6 ≤ y)  : x_ev X xT 5 111 [.ref 0, .int (nI k), .int y] (HX I A J B F) (some (.int (-1))) (HX I A J B F) := by
  refine q_ev (L := [some (.ref 0), some (.int (nI k)), some (.int y), none, none, none, none, none, none, none]) tX8_fainter (Nat.le_of_ble_eq_true rfl) rfl ?_
  refine q_aload_n rfl rfl ?_
  refine q_iload_n rfl rfl ?_
  refine q_callV1 rfl hx_0 (Nat.le_of_ble_eq_true rfl) (Nat.le_of_ble_eq_true rfl) (sX8_lightAt k ln hk hln eln) ?_
  refine q_astore_n (L' := [_, _, _, _, _, _, _, _, _, _]) rfl rfl ?_
  refine q_aload_n rfl rfl ?_
  refine q_getfield rfl hx_0 rfl ?_
  refine q_iload_n rfl rfl ?_
  refine q_callS2 rfl rfl (Nat.le_of_ble_eq_true rfl) (Nat.le_of_ble_eq_true rfl) (sX8_lineAt_rowN y hy) ?_
  refine q_astoreN (L' := [_, _, _, _, _, _, _, _, _, _]) rfl rfl ?_
  refine q_aload_n rfl rfl ?_
  refine q_ifnull rfl ?_
  refine q_aloadN rfl rfl ?_
  refine q_ifnonnullN rfl ?_
  refine q_iconst (v := (-1)) rfl rfl ?_
  refine q_iret rfl rfl ?_
  exact ⟨rfl, rfl⟩
theorem c_fainter_M {X : XX} {I A : Nat → Nat → Int32} {J B : Nat → Nat → Int64} {F : Nat → Nat} (ln : Nat) (hln : ln ≤ 5) (eln : I 0 12 = nI ln) (k : Nat) (hk : k < ln) (q : Nat) (hr : q < 6) (hz : I (20 + 2 * q) 1 = -1)  : x_ev X xT 5 111 [.ref 0, .int (nI k), .int (nI q)] (HX I A J B F) (some (.int (-3))) (HX (u2 I 0 13 (nI 1)) (f_cnt A 19 1) J B F) := by
  refine q_ev (L := [some (.ref 0), some (.int (nI k)), some (.int (nI q)), none, none, none, none, none, none, none]) tX8_fainter (Nat.le_of_ble_eq_true rfl) rfl ?_
  refine q_aload_n rfl rfl ?_
  refine q_iload_n rfl rfl ?_
  refine q_callV1 rfl hx_0 (Nat.le_of_ble_eq_true rfl) (Nat.le_of_ble_eq_true rfl) (sX8_lightAt k ln hk hln eln) ?_
  refine q_astore_n (L' := [_, _, _, _, _, _, _, _, _, _]) rfl rfl ?_
  refine q_aload_n rfl rfl ?_
  refine q_getfield rfl hx_0 rfl ?_
  refine q_iload_n rfl rfl ?_
  refine q_callS2 rfl rfl (Nat.le_of_ble_eq_true rfl) (Nat.le_of_ble_eq_true rfl) (sX8_lineAt_row q hr) ?_
  refine q_astore (L' := [_, _, _, _, _, _, _, _, _, _]) rfl rfl ?_
  refine q_aload_n rfl rfl ?_
  refine q_ifnull rfl ?_
  refine q_aload rfl rfl ?_
  refine q_ifnonnull rfl ?_
  refine q_aload_n rfl rfl ?_
  refine q_aload rfl rfl ?_
  refine q_callV1 rfl hx_0 (Nat.le_of_ble_eq_true rfl) (Nat.le_of_ble_eq_true rfl) (sX8_refuseNotes_M q (by omega) hz) ?_
  refine q_istore (L' := [_, _, _, _, _, _, _, _, _, _]) rfl rfl ?_
  refine q_iload rfl rfl ?_
  refine q_if_eq rfl (fun hc37 => ?_) (fun hc37 => ?_)
  · exact absurd hc37 (by decide)
  · refine q_iload rfl rfl ?_
    refine q_iret rfl rfl ?_
    exact ⟨rfl, rfl⟩
theorem c_fainter_S {X : XX} {I A : Nat → Nat → Int32} {J B : Nat → Nat → Int64} {F : Nat → Nat} (ln : Nat) (hln : ln ≤ 5) (eln : I 0 12 = nI ln) (k : Nat) (hk : k < ln) (q : Nat) (hr : q < 6) (n : Nat) (hn : n ≤ rm q) (hz : I (20 + 2 * q) 1 = nI n) (hn8 : 20 < n)  : x_ev X xT 5 111 [.ref 0, .int (nI k), .int (nI q)] (HX I A J B F) (some (.int (-3))) (HX (u2 I 0 13 (nI 5)) (f_cnt A 19 5) J B F) := by
  refine q_ev (L := [some (.ref 0), some (.int (nI k)), some (.int (nI q)), none, none, none, none, none, none, none]) tX8_fainter (Nat.le_of_ble_eq_true rfl) rfl ?_
  refine q_aload_n rfl rfl ?_
  refine q_iload_n rfl rfl ?_
  refine q_callV1 rfl hx_0 (Nat.le_of_ble_eq_true rfl) (Nat.le_of_ble_eq_true rfl) (sX8_lightAt k ln hk hln eln) ?_
  refine q_astore_n (L' := [_, _, _, _, _, _, _, _, _, _]) rfl rfl ?_
  refine q_aload_n rfl rfl ?_
  refine q_getfield rfl hx_0 rfl ?_
  refine q_iload_n rfl rfl ?_
  refine q_callS2 rfl rfl (Nat.le_of_ble_eq_true rfl) (Nat.le_of_ble_eq_true rfl) (sX8_lineAt_row q hr) ?_
  refine q_astore (L' := [_, _, _, _, _, _, _, _, _, _]) rfl rfl ?_
  refine q_aload_n rfl rfl ?_
  refine q_ifnull rfl ?_
  refine q_aload rfl rfl ?_
  refine q_ifnonnull rfl ?_
  refine q_aload_n rfl rfl ?_
  refine q_aload rfl rfl ?_
  refine q_callV1 rfl hx_0 (Nat.le_of_ble_eq_true rfl) (Nat.le_of_ble_eq_true rfl) (sX8_refuseNotes_S q (by omega) n hn hz hn8) ?_
  refine q_istore (L' := [_, _, _, _, _, _, _, _, _, _]) rfl rfl ?_
  refine q_iload rfl rfl ?_
  refine q_if_eq rfl (fun hc37 => ?_) (fun hc37 => ?_)
  · exact absurd hc37 (by decide)
  · refine q_iload rfl rfl ?_
    refine q_iret rfl rfl ?_
    exact ⟨rfl, rfl⟩
theorem c_fainter_U {X : XX} {I A : Nat → Nat → Int32} {J B : Nat → Nat → Int64} {F : Nat → Nat} (ln : Nat) (hln : ln ≤ 5) (eln : I 0 12 = nI ln) (k : Nat) (hk : k < ln) (q : Nat) (hr : q < 6) (n : Nat) (hn : n ≤ rm q) (hz : I (20 + 2 * q) 1 = nI n) (n8 : n ≤ 20) (hno : ¬ ∀ k, k < n → okN (nI 0) 2147483647 (A (21 + 2 * q) k))  : x_ev X xT 5 111 [.ref 0, .int (nI k), .int (nI q)] (HX I A J B F) (some (.int (-3))) (HX (u2 I 0 13 (nI 3)) (f_cnt A 19 3) J B F) := by
  refine q_ev (L := [some (.ref 0), some (.int (nI k)), some (.int (nI q)), none, none, none, none, none, none, none]) tX8_fainter (Nat.le_of_ble_eq_true rfl) rfl ?_
  refine q_aload_n rfl rfl ?_
  refine q_iload_n rfl rfl ?_
  refine q_callV1 rfl hx_0 (Nat.le_of_ble_eq_true rfl) (Nat.le_of_ble_eq_true rfl) (sX8_lightAt k ln hk hln eln) ?_
  refine q_astore_n (L' := [_, _, _, _, _, _, _, _, _, _]) rfl rfl ?_
  refine q_aload_n rfl rfl ?_
  refine q_getfield rfl hx_0 rfl ?_
  refine q_iload_n rfl rfl ?_
  refine q_callS2 rfl rfl (Nat.le_of_ble_eq_true rfl) (Nat.le_of_ble_eq_true rfl) (sX8_lineAt_row q hr) ?_
  refine q_astore (L' := [_, _, _, _, _, _, _, _, _, _]) rfl rfl ?_
  refine q_aload_n rfl rfl ?_
  refine q_ifnull rfl ?_
  refine q_aload rfl rfl ?_
  refine q_ifnonnull rfl ?_
  refine q_aload_n rfl rfl ?_
  refine q_aload rfl rfl ?_
  refine q_callV1 rfl hx_0 (Nat.le_of_ble_eq_true rfl) (Nat.le_of_ble_eq_true rfl) (sX8_refuseNotes_U q (by omega) n hn hz n8 hno) ?_
  refine q_istore (L' := [_, _, _, _, _, _, _, _, _, _]) rfl rfl ?_
  refine q_iload rfl rfl ?_
  refine q_if_eq rfl (fun hc37 => ?_) (fun hc37 => ?_)
  · exact absurd hc37 (by decide)
  · refine q_iload rfl rfl ?_
    refine q_iret rfl rfl ?_
    exact ⟨rfl, rfl⟩
theorem c_fainter_N {X : XX} {I A : Nat → Nat → Int32} {J B : Nat → Nat → Int64} {F : Nat → Nat} (ln : Nat) (hln : ln ≤ 5) (eln : I 0 12 = nI ln) (k : Nat) (hk : k < ln) (q : Nat) (hr : q < 6) (n : Nat) (hn : n ≤ rm q) (hz : I (20 + 2 * q) 1 = nI n) (n8 : n ≤ 20) (hok : ∀ k, k < n → okN (nI 0) 2147483647 (A (21 + 2 * q) k)) (hfl : f_less (A (21 + 2 * q)) (n - 1) 1 = -9) : x_ev X xT 5 111 [.ref 0, .int (nI k), .int (nI q)] (HX I A J B F) (some (.int (nI 0))) (HX (u2 I 0 14 (-9)) A J B F) := by
  refine q_ev (L := [some (.ref 0), some (.int (nI k)), some (.int (nI q)), none, none, none, none, none, none, none]) tX8_fainter (Nat.le_of_ble_eq_true rfl) rfl ?_
  refine q_aload_n rfl rfl ?_
  refine q_iload_n rfl rfl ?_
  refine q_callV1 rfl hx_0 (Nat.le_of_ble_eq_true rfl) (Nat.le_of_ble_eq_true rfl) (sX8_lightAt k ln hk hln eln) ?_
  refine q_astore_n (L' := [_, _, _, _, _, _, _, _, _, _]) rfl rfl ?_
  refine q_aload_n rfl rfl ?_
  refine q_getfield rfl hx_0 rfl ?_
  refine q_iload_n rfl rfl ?_
  refine q_callS2 rfl rfl (Nat.le_of_ble_eq_true rfl) (Nat.le_of_ble_eq_true rfl) (sX8_lineAt_row q hr) ?_
  refine q_astore (L' := [_, _, _, _, _, _, _, _, _, _]) rfl rfl ?_
  refine q_aload_n rfl rfl ?_
  refine q_ifnull rfl ?_
  refine q_aload rfl rfl ?_
  refine q_ifnonnull rfl ?_
  refine q_aload_n rfl rfl ?_
  refine q_aload rfl rfl ?_
  refine q_callV1 rfl hx_0 (Nat.le_of_ble_eq_true rfl) (Nat.le_of_ble_eq_true rfl) (sX8_refuseNotes_0 q (by omega) n hn hz n8 hok) ?_
  refine q_istore (L' := [_, _, _, _, _, _, _, _, _, _]) rfl rfl ?_
  refine q_iload rfl rfl ?_
  refine q_if_eqN rfl (by omega) (fun hc37 => ?_) (fun hc37 => ?_)
  · refine q_aload rfl rfl ?_
    refine q_callV0 rfl (hx_line q (by omega)) (Nat.le_of_ble_eq_true rfl) (Nat.le_of_ble_eq_true rfl) (sL_less q (by omega) n hn hz) ?_
    refine q_cn hfl ?_
    refine q_istore (L' := [_, _, _, _, _, _, _, _, _, _]) rfl rfl ?_
    refine q_aload_n rfl rfl ?_
    refine q_iload rfl rfl ?_
    refine q_putfield rfl hx_0 rfl (Nat.le_of_ble_eq_true rfl) (rfl) (by decide +kernel) ?_
    refine q_heap (hs_0_14 _) ?_
    refine q_iload rfl rfl ?_
    refine q_bipush (v := (-9)) rfl rfl ?_
    refine q_icmp_ne rfl (fun hc60 => ?_) (fun hc60 => ?_)
    · exact absurd hc60 (by decide)
    · refine q_iconst (v := nI 0) rfl rfl ?_
      refine q_iret rfl rfl ?_
      exact ⟨rfl, rfl⟩
  · exact absurd hc37 (by decide)
theorem c_fainter_0 {X : XX} {I A : Nat → Nat → Int32} {J B : Nat → Nat → Int64} {F : Nat → Nat} (b : Nat) (hb : b ≤ 5) (eb : I 7 0 = nI b) (m : Nat) (em : I 8 2 = nI m) (hm : m ≤ 40) (s : Nat) (es : I 8 3 = nI s) (hs : s < 24) (ln : Nat) (hln : ln ≤ 5) (eln : I 0 12 = nI ln) (lks : ∀ i, i < 5 → lkOK I (40 + i)) (k : Nat) (hk : k < ln) (q : Nat) (hr : q < 6) (n : Nat) (hn : n ≤ rm q) (hz : I (20 + 2 * q) 1 = nI n) (n8 : n ≤ 20) (hok : ∀ k, k < n → okN (nI 0) 2147483647 (A (21 + 2 * q) k)) (j : Nat) (j1 : 1 ≤ j) (hj : j < n) (hfl : f_less (A (21 + 2 * q)) (n - 1) 1 = nI j) : x_ev X xT 5 111 [.ref 0, .int (nI k), .int (nI q)] (HX I A J B F) (some (.int (nI (fnN b (cL I (40 + k)) s (m + j))))) (HX (u2 I 0 14 (nI j)) A J B F) := by
  have hr9 := rm_le q
  refine q_ev (L := [some (.ref 0), some (.int (nI k)), some (.int (nI q)), none, none, none, none, none, none, none]) tX8_fainter (Nat.le_of_ble_eq_true rfl) rfl ?_
  refine q_aload_n rfl rfl ?_
  refine q_iload_n rfl rfl ?_
  refine q_callV1 rfl hx_0 (Nat.le_of_ble_eq_true rfl) (Nat.le_of_ble_eq_true rfl) (sX8_lightAt k ln hk hln eln) ?_
  refine q_astore_n (L' := [_, _, _, _, _, _, _, _, _, _]) rfl rfl ?_
  refine q_aload_n rfl rfl ?_
  refine q_getfield rfl hx_0 rfl ?_
  refine q_iload_n rfl rfl ?_
  refine q_callS2 rfl rfl (Nat.le_of_ble_eq_true rfl) (Nat.le_of_ble_eq_true rfl) (sX8_lineAt_row q hr) ?_
  refine q_astore (L' := [_, _, _, _, _, _, _, _, _, _]) rfl rfl ?_
  refine q_aload_n rfl rfl ?_
  refine q_ifnull rfl ?_
  refine q_aload rfl rfl ?_
  refine q_ifnonnull rfl ?_
  refine q_aload_n rfl rfl ?_
  refine q_aload rfl rfl ?_
  refine q_callV1 rfl hx_0 (Nat.le_of_ble_eq_true rfl) (Nat.le_of_ble_eq_true rfl) (sX8_refuseNotes_0 q (by omega) n hn hz n8 hok) ?_
  refine q_istore (L' := [_, _, _, _, _, _, _, _, _, _]) rfl rfl ?_
  refine q_iload rfl rfl ?_
  refine q_if_eqN rfl (by omega) (fun hc37 => ?_) (fun hc37 => ?_)
  · refine q_aload rfl rfl ?_
    refine q_callV0 rfl (hx_line q (by omega)) (Nat.le_of_ble_eq_true rfl) (Nat.le_of_ble_eq_true rfl) (sL_less q (by omega) n hn hz) ?_
    refine q_cn hfl ?_
    refine q_istore (L' := [_, _, _, _, _, _, _, _, _, _]) rfl rfl ?_
    refine q_aload_n rfl rfl ?_
    refine q_iload rfl rfl ?_
    refine q_putfield rfl hx_0 rfl (Nat.le_of_ble_eq_true rfl) (rfl) (by decide +kernel) ?_
    refine q_heap (hs_0_14 _) ?_
    refine q_iload rfl rfl ?_
    refine q_bipush (v := (-9)) rfl rfl ?_
    refine q_icmp_ne rfl (fun hc60 => ?_) (fun hc60 => ?_)
    · refine q_aload_n rfl rfl ?_
      refine q_getfield rfl hx_0 rfl ?_
      refine q_callV0 rfl hx_8 (Nat.le_of_ble_eq_true rfl) (Nat.le_of_ble_eq_true rfl) (sN_now (show u2 I 0 14 _ 8 2 = nI m from em)) ?_
      refine q_iload rfl rfl ?_
      refine q_iaddN rfl ?_
      refine q_istore (L' := [_, _, _, _, _, _, _, _, _, _]) rfl rfl ?_
      refine q_aload_n rfl rfl ?_
      refine q_iload rfl rfl ?_
      refine q_callV1 rfl (hx_light k (by omega)) (Nat.le_of_ble_eq_true rfl) (Nat.le_of_ble_eq_true rfl) (sK_bright (I := u2 I 0 14 (nI j)) (a := 40 + k) (hx_light k (by omega)) (lkOK_u (lks k (by omega))) _ (by omega)) ?_
      refine q_aload_n rfl rfl ?_
      refine q_iload rfl rfl ?_
      refine q_iconst (v := nI 1) rfl rfl ?_
      refine q_isubN rfl (by omega) ?_
      refine q_callV1 rfl (hx_light k (by omega)) (Nat.le_of_ble_eq_true rfl) (Nat.le_of_ble_eq_true rfl) (sK_bright (I := u2 I 0 14 (nI j)) (a := 40 + k) (hx_light k (by omega)) (lkOK_u (lks k (by omega))) _ (by omega)) ?_
      refine q_icmp_geN rfl (by have := brN_le (cL (u2 I 0 14 (nI j)) (40 + k)) (m + j); have := (lkOK_u (v := nI j) (lks k (by omega))).1.2; omega) (by have := brN_le (cL (u2 I 0 14 (nI j)) (40 + k)) (m + j - 1); have := (lkOK_u (v := nI j) (lks k (by omega))).1.2; omega) (fun hc91 => ?_) (fun hc91 => ?_)
      · refine q_iconst (v := nI 0) rfl rfl ?_
        refine q_istore (L' := [_, _, _, _, _, _, _, _, _, _]) rfl rfl ?_
        refine q_aload_n rfl rfl ?_
        refine q_aload_n rfl rfl ?_
        refine q_iload rfl rfl ?_
        refine q_callV2 rfl hx_0 (Nat.le_of_ble_eq_true rfl) (Nat.le_of_ble_eq_true rfl) (sX8_timesOver (I := u2 I 0 14 (nI j)) b hb (by exact eb) m (by exact em) (by omega) s (by exact es) (40 + k) (hx_light k (by omega)) (lkOK_u (lks k (by omega))) _) ?_
        refine q_aload_n rfl rfl ?_
        refine q_aload_n rfl rfl ?_
        refine q_iload rfl rfl ?_
        refine q_iconst (v := nI 1) rfl rfl ?_
        refine q_isubN rfl (by omega) ?_
        refine q_callV2 rfl hx_0 (Nat.le_of_ble_eq_true rfl) (Nat.le_of_ble_eq_true rfl) (sX8_timesOver (I := u2 I 0 14 (nI j)) b hb (by exact eb) m (by exact em) (by omega) s (by exact es) (40 + k) (hx_light k (by omega)) (lkOK_u (lks k (by omega))) _) ?_
        refine q_icmp_geN rfl (by have := tmN_le b (nI s) (nI (plN (cL (u2 I 0 14 (nI j)) (40 + k)) (m + j))); omega) (by have := tmN_le b (nI s) (nI (plN (cL (u2 I 0 14 (nI j)) (40 + k)) (m + j - 1))); omega) (fun hc117 => ?_) (fun hc117 => ?_)
        · refine q_iconst (v := nI 0) rfl rfl ?_
          refine q_istore (L' := [_, _, _, _, _, _, _, _, _, _]) rfl rfl ?_
          refine q_iload rfl rfl ?_
          refine q_if_eqN rfl (by omega) (fun hc129 => ?_) (fun hc129 => ?_)
          · refine q_iconst (v := nI 0) rfl rfl ?_
            refine q_iload rfl rfl ?_
            refine q_if_eqN rfl (by omega) (fun hc139 => ?_) (fun hc139 => ?_)
            · refine q_iconst (v := nI 0) rfl rfl ?_
              refine q_iaddN rfl ?_
              refine q_iret rfl rfl ?_
              exact ⟨vI (by rw [← cL_u (I := I) (k := k) (v := nI j)]; unfold fnN; first | (rw [if_pos (Nat.not_le.mp hc91)]; first | rw [if_pos (Nat.not_le.mp hc117)] | rw [if_neg (Nat.not_lt.mpr hc117)]) | (rw [if_neg (Nat.not_lt.mpr hc91)]; first | rw [if_pos (Nat.not_le.mp hc117)] | rw [if_neg (Nat.not_lt.mpr hc117)])), rfl⟩
            · exact absurd hc139 (by decide)
          · exact absurd hc129 (by decide)
        · refine q_iconst (v := nI 1) rfl rfl ?_
          refine q_goto rfl ?_
          refine q_istore (L' := [_, _, _, _, _, _, _, _, _, _]) rfl rfl ?_
          refine q_iload rfl rfl ?_
          refine q_if_eqN rfl (by omega) (fun hc129 => ?_) (fun hc129 => ?_)
          · refine q_iconst (v := nI 0) rfl rfl ?_
            refine q_iload rfl rfl ?_
            refine q_if_eqN rfl (by omega) (fun hc139 => ?_) (fun hc139 => ?_)
            · exact absurd hc139 (by decide)
            · refine q_iconst (v := nI 2) rfl rfl ?_
              refine q_goto rfl ?_
              refine q_iaddN rfl ?_
              refine q_iret rfl rfl ?_
              exact ⟨vI (by rw [← cL_u (I := I) (k := k) (v := nI j)]; unfold fnN; first | (rw [if_pos (Nat.not_le.mp hc91)]; first | rw [if_pos (Nat.not_le.mp hc117)] | rw [if_neg (Nat.not_lt.mpr hc117)]) | (rw [if_neg (Nat.not_lt.mpr hc91)]; first | rw [if_pos (Nat.not_le.mp hc117)] | rw [if_neg (Nat.not_lt.mpr hc117)])), rfl⟩
          · exact absurd hc129 (by decide)
      · refine q_iconst (v := nI 1) rfl rfl ?_
        refine q_goto rfl ?_
        refine q_istore (L' := [_, _, _, _, _, _, _, _, _, _]) rfl rfl ?_
        refine q_aload_n rfl rfl ?_
        refine q_aload_n rfl rfl ?_
        refine q_iload rfl rfl ?_
        refine q_callV2 rfl hx_0 (Nat.le_of_ble_eq_true rfl) (Nat.le_of_ble_eq_true rfl) (sX8_timesOver (I := u2 I 0 14 (nI j)) b hb (by exact eb) m (by exact em) (by omega) s (by exact es) (40 + k) (hx_light k (by omega)) (lkOK_u (lks k (by omega))) _) ?_
        refine q_aload_n rfl rfl ?_
        refine q_aload_n rfl rfl ?_
        refine q_iload rfl rfl ?_
        refine q_iconst (v := nI 1) rfl rfl ?_
        refine q_isubN rfl (by omega) ?_
        refine q_callV2 rfl hx_0 (Nat.le_of_ble_eq_true rfl) (Nat.le_of_ble_eq_true rfl) (sX8_timesOver (I := u2 I 0 14 (nI j)) b hb (by exact eb) m (by exact em) (by omega) s (by exact es) (40 + k) (hx_light k (by omega)) (lkOK_u (lks k (by omega))) _) ?_
        refine q_icmp_geN rfl (by have := tmN_le b (nI s) (nI (plN (cL (u2 I 0 14 (nI j)) (40 + k)) (m + j))); omega) (by have := tmN_le b (nI s) (nI (plN (cL (u2 I 0 14 (nI j)) (40 + k)) (m + j - 1))); omega) (fun hc117 => ?_) (fun hc117 => ?_)
        · refine q_iconst (v := nI 0) rfl rfl ?_
          refine q_istore (L' := [_, _, _, _, _, _, _, _, _, _]) rfl rfl ?_
          refine q_iload rfl rfl ?_
          refine q_if_eqN rfl (by omega) (fun hc129 => ?_) (fun hc129 => ?_)
          · exact absurd hc129 (by decide)
          · refine q_iconst (v := nI 1) rfl rfl ?_
            refine q_goto rfl ?_
            refine q_iload rfl rfl ?_
            refine q_if_eqN rfl (by omega) (fun hc139 => ?_) (fun hc139 => ?_)
            · refine q_iconst (v := nI 0) rfl rfl ?_
              refine q_iaddN rfl ?_
              refine q_iret rfl rfl ?_
              exact ⟨vI (by rw [← cL_u (I := I) (k := k) (v := nI j)]; unfold fnN; first | (rw [if_pos (Nat.not_le.mp hc91)]; first | rw [if_pos (Nat.not_le.mp hc117)] | rw [if_neg (Nat.not_lt.mpr hc117)]) | (rw [if_neg (Nat.not_lt.mpr hc91)]; first | rw [if_pos (Nat.not_le.mp hc117)] | rw [if_neg (Nat.not_lt.mpr hc117)])), rfl⟩
            · exact absurd hc139 (by decide)
        · refine q_iconst (v := nI 1) rfl rfl ?_
          refine q_goto rfl ?_
          refine q_istore (L' := [_, _, _, _, _, _, _, _, _, _]) rfl rfl ?_
          refine q_iload rfl rfl ?_
          refine q_if_eqN rfl (by omega) (fun hc129 => ?_) (fun hc129 => ?_)
          · exact absurd hc129 (by decide)
          · refine q_iconst (v := nI 1) rfl rfl ?_
            refine q_goto rfl ?_
            refine q_iload rfl rfl ?_
            refine q_if_eqN rfl (by omega) (fun hc139 => ?_) (fun hc139 => ?_)
            · exact absurd hc139 (by decide)
            · refine q_iconst (v := nI 2) rfl rfl ?_
              refine q_goto rfl ?_
              refine q_iaddN rfl ?_
              refine q_iret rfl rfl ?_
              exact ⟨vI (by rw [← cL_u (I := I) (k := k) (v := nI j)]; unfold fnN; first | (rw [if_pos (Nat.not_le.mp hc91)]; first | rw [if_pos (Nat.not_le.mp hc117)] | rw [if_neg (Nat.not_lt.mpr hc117)]) | (rw [if_neg (Nat.not_lt.mpr hc91)]; first | rw [if_pos (Nat.not_le.mp hc117)] | rw [if_neg (Nat.not_lt.mpr hc117)])), rfl⟩
    · exact absurd hc60 (nI_n9 (by omega))
  · exact absurd hc37 (by decide)
theorem m_fainter_b {X : XX} {I A : Nat → Nat → Int32} {J B : Nat → Nat → Int64} {F : Nat → Nat} (ln : Nat) (hln : ln ≤ 5) (eln : I 51 3 = nI ln) (x : Int32) (hx : x < 0 ∨ nI ln ≤ x) (y : Int32)  : x_ev X xT 4 230 [.ref 51, .int x, .int y] (HX I A J B F) (some (.int (-1))) (HX I A J B F) := by
  refine q_ev (L := [some (.ref 51), some (.int x), some (.int y), none, none, none]) tX9_fainter (Nat.le_of_ble_eq_true rfl) rfl ?_
  refine q_aload_n rfl rfl ?_
  refine q_iload_n rfl rfl ?_
  refine q_callV1 rfl hx_51 (Nat.le_of_ble_eq_true rfl) (Nat.le_of_ble_eq_true rfl) (sX9_isLight_0 x ln hln eln hx) ?_
  refine q_if_eqN rfl (by omega) (fun hc5 => ?_) (fun hc5 => ?_)
  · refine q_iconst (v := (-1)) rfl rfl ?_
    refine q_iret rfl rfl ?_
    exact ⟨rfl, rfl⟩
  · exact absurd hc5 (by decide)
theorem m_fainter_ob {X : XX} {I A : Nat → Nat → Int32} {J B : Nat → Nat → Int64} {F : Nat → Nat} (ln : Nat) (hln : ln ≤ 5) (eln : I 51 3 = nI ln) (k : Nat) (hk : k < ln) (y : Int32) (hy : y < 0 ∨ 6 ≤ y)  : x_ev X xT 4 230 [.ref 51, .int (nI k), .int y] (HX I A J B F) (some (.int (-1))) (HX I A J B F) := by
  refine q_ev (L := [some (.ref 51), some (.int (nI k)), some (.int y), none, none, none]) tX9_fainter (Nat.le_of_ble_eq_true rfl) rfl ?_
  refine q_aload_n rfl rfl ?_
  refine q_iload_n rfl rfl ?_
  refine q_callV1 rfl hx_51 (Nat.le_of_ble_eq_true rfl) (Nat.le_of_ble_eq_true rfl) (sX9_isLight_1 k ln hk hln eln) ?_
  refine q_if_eqN rfl (by omega) (fun hc5 => ?_) (fun hc5 => ?_)
  · exact absurd hc5 (by decide)
  · refine q_iload_n rfl rfl ?_
    refine q_callS1 rfl rfl (Nat.le_of_ble_eq_true rfl) (Nat.le_of_ble_eq_true rfl) (sX9_isRow_0 y hy) ?_
    refine q_if_neN rfl (by omega) (fun hc12 => ?_) (fun hc12 => ?_)
    · exact absurd hc12 (by decide)
    · refine q_iconst (v := (-1)) rfl rfl ?_
      refine q_iret rfl rfl ?_
      exact ⟨rfl, rfl⟩
theorem m_fainter_M {X : XX} {I A : Nat → Nat → Int32} {J B : Nat → Nat → Int64} {F : Nat → Nat} (ln : Nat) (hln : ln ≤ 5) (eln : I 51 3 = nI ln) (k : Nat) (hk : k < ln) (q : Nat) (hr : q < 6) (hz : A 57 q = -1)  : x_ev X xT 4 230 [.ref 51, .int (nI k), .int (nI q)] (HX I A J B F) (some (.int (-3))) (HX (u2 I 51 15 (nI 1)) (f_cnt A 61 1) J B F) := by
  refine q_ev (L := [some (.ref 51), some (.int (nI k)), some (.int (nI q)), none, none, none]) tX9_fainter (Nat.le_of_ble_eq_true rfl) rfl ?_
  refine q_aload_n rfl rfl ?_
  refine q_iload_n rfl rfl ?_
  refine q_callV1 rfl hx_51 (Nat.le_of_ble_eq_true rfl) (Nat.le_of_ble_eq_true rfl) (sX9_isLight_1 k ln hk hln eln) ?_
  refine q_if_eqN rfl (by omega) (fun hc5 => ?_) (fun hc5 => ?_)
  · exact absurd hc5 (by decide)
  · refine q_iload_n rfl rfl ?_
    refine q_callS1 rfl rfl (Nat.le_of_ble_eq_true rfl) (Nat.le_of_ble_eq_true rfl) (sX9_isRow_1 q hr) ?_
    refine q_if_neN rfl (by omega) (fun hc12 => ?_) (fun hc12 => ?_)
    · refine q_aload_n rfl rfl ?_
      refine q_iload_n rfl rfl ?_
      refine q_callV1 rfl hx_51 (Nat.le_of_ble_eq_true rfl) (Nat.le_of_ble_eq_true rfl) (sX9_noNotes_M q hr hz) ?_
      refine q_istore_n (L' := [_, _, _, _, _, _]) rfl rfl ?_
      refine q_iload_n rfl rfl ?_
      refine q_if_eq rfl (fun hc24 => ?_) (fun hc24 => ?_)
      · exact absurd hc24 (by decide)
      · refine q_iload_n rfl rfl ?_
        refine q_iret rfl rfl ?_
        exact ⟨rfl, rfl⟩
    · exact absurd hc12 (by decide)
theorem m_fainter_S {X : XX} {I A : Nat → Nat → Int32} {J B : Nat → Nat → Int64} {F : Nat → Nat} (ln : Nat) (hln : ln ≤ 5) (eln : I 51 3 = nI ln) (k : Nat) (hk : k < ln) (q : Nat) (hr : q < 6) (n : Nat) (hn : n ≤ 40) (hz : A 57 q = nI n) (hn8 : 20 < n)  : x_ev X xT 4 230 [.ref 51, .int (nI k), .int (nI q)] (HX I A J B F) (some (.int (-3))) (HX (u2 I 51 15 (nI 5)) (f_cnt A 61 5) J B F) := by
  refine q_ev (L := [some (.ref 51), some (.int (nI k)), some (.int (nI q)), none, none, none]) tX9_fainter (Nat.le_of_ble_eq_true rfl) rfl ?_
  refine q_aload_n rfl rfl ?_
  refine q_iload_n rfl rfl ?_
  refine q_callV1 rfl hx_51 (Nat.le_of_ble_eq_true rfl) (Nat.le_of_ble_eq_true rfl) (sX9_isLight_1 k ln hk hln eln) ?_
  refine q_if_eqN rfl (by omega) (fun hc5 => ?_) (fun hc5 => ?_)
  · exact absurd hc5 (by decide)
  · refine q_iload_n rfl rfl ?_
    refine q_callS1 rfl rfl (Nat.le_of_ble_eq_true rfl) (Nat.le_of_ble_eq_true rfl) (sX9_isRow_1 q hr) ?_
    refine q_if_neN rfl (by omega) (fun hc12 => ?_) (fun hc12 => ?_)
    · refine q_aload_n rfl rfl ?_
      refine q_iload_n rfl rfl ?_
      refine q_callV1 rfl hx_51 (Nat.le_of_ble_eq_true rfl) (Nat.le_of_ble_eq_true rfl) (sX9_noNotes_S q hr n hn hz hn8) ?_
      refine q_istore_n (L' := [_, _, _, _, _, _]) rfl rfl ?_
      refine q_iload_n rfl rfl ?_
      refine q_if_eq rfl (fun hc24 => ?_) (fun hc24 => ?_)
      · exact absurd hc24 (by decide)
      · refine q_iload_n rfl rfl ?_
        refine q_iret rfl rfl ?_
        exact ⟨rfl, rfl⟩
    · exact absurd hc12 (by decide)
theorem m_fainter_U {X : XX} {I A : Nat → Nat → Int32} {J B : Nat → Nat → Int64} {F : Nat → Nat} (ln : Nat) (hln : ln ≤ 5) (eln : I 51 3 = nI ln) (k : Nat) (hk : k < ln) (q : Nat) (hr : q < 6) (n : Nat) (hn : n ≤ 40) (hz : A 57 q = nI n) (n8 : n ≤ 20) (hno : ¬ ∀ k, k < n → okN (nI 0) 2147483647 ((fun x => A 58 (40 * q + x)) k))  : x_ev X xT 4 230 [.ref 51, .int (nI k), .int (nI q)] (HX I A J B F) (some (.int (-3))) (HX (u2 I 51 15 (nI 3)) (f_cnt A 61 3) J B F) := by
  refine q_ev (L := [some (.ref 51), some (.int (nI k)), some (.int (nI q)), none, none, none]) tX9_fainter (Nat.le_of_ble_eq_true rfl) rfl ?_
  refine q_aload_n rfl rfl ?_
  refine q_iload_n rfl rfl ?_
  refine q_callV1 rfl hx_51 (Nat.le_of_ble_eq_true rfl) (Nat.le_of_ble_eq_true rfl) (sX9_isLight_1 k ln hk hln eln) ?_
  refine q_if_eqN rfl (by omega) (fun hc5 => ?_) (fun hc5 => ?_)
  · exact absurd hc5 (by decide)
  · refine q_iload_n rfl rfl ?_
    refine q_callS1 rfl rfl (Nat.le_of_ble_eq_true rfl) (Nat.le_of_ble_eq_true rfl) (sX9_isRow_1 q hr) ?_
    refine q_if_neN rfl (by omega) (fun hc12 => ?_) (fun hc12 => ?_)
    · refine q_aload_n rfl rfl ?_
      refine q_iload_n rfl rfl ?_
      refine q_callV1 rfl hx_51 (Nat.le_of_ble_eq_true rfl) (Nat.le_of_ble_eq_true rfl) (sX9_noNotes_U q hr n hn hz n8 hno) ?_
      refine q_istore_n (L' := [_, _, _, _, _, _]) rfl rfl ?_
      refine q_iload_n rfl rfl ?_
      refine q_if_eq rfl (fun hc24 => ?_) (fun hc24 => ?_)
      · exact absurd hc24 (by decide)
      · refine q_iload_n rfl rfl ?_
        refine q_iret rfl rfl ?_
        exact ⟨rfl, rfl⟩
    · exact absurd hc12 (by decide)
theorem m_fainter_E {X : XX} {I A : Nat → Nat → Int32} {J B : Nat → Nat → Int64} {F : Nat → Nat} (ln : Nat) (hln : ln ≤ 5) (eln : I 51 3 = nI ln) (k : Nat) (hk : k < ln) (q : Nat) (hr : q < 6) (hz : A 57 q = nI 0)  : x_ev X xT 4 230 [.ref 51, .int (nI k), .int (nI q)] (HX I A J B F) (some (.int (nI 0))) (HX (u2 I 51 12 (-9)) A J B F) := by
  refine q_ev (L := [some (.ref 51), some (.int (nI k)), some (.int (nI q)), none, none, none]) tX9_fainter (Nat.le_of_ble_eq_true rfl) rfl ?_
  refine q_aload_n rfl rfl ?_
  refine q_iload_n rfl rfl ?_
  refine q_callV1 rfl hx_51 (Nat.le_of_ble_eq_true rfl) (Nat.le_of_ble_eq_true rfl) (sX9_isLight_1 k ln hk hln eln) ?_
  refine q_if_eqN rfl (by omega) (fun hc5 => ?_) (fun hc5 => ?_)
  · exact absurd hc5 (by decide)
  · refine q_iload_n rfl rfl ?_
    refine q_callS1 rfl rfl (Nat.le_of_ble_eq_true rfl) (Nat.le_of_ble_eq_true rfl) (sX9_isRow_1 q hr) ?_
    refine q_if_neN rfl (by omega) (fun hc12 => ?_) (fun hc12 => ?_)
    · refine q_aload_n rfl rfl ?_
      refine q_iload_n rfl rfl ?_
      refine q_callV1 rfl hx_51 (Nat.le_of_ble_eq_true rfl) (Nat.le_of_ble_eq_true rfl) (sX9_noNotes_0 q hr 0 (by omega) hz (by omega) (fun i hi => absurd hi (Nat.not_lt_zero i))) ?_
      refine q_istore_n (L' := [_, _, _, _, _, _]) rfl rfl ?_
      refine q_iload_n rfl rfl ?_
      refine q_if_eqN rfl (by omega) (fun hc24 => ?_) (fun hc24 => ?_)
      · refine q_aload_n rfl rfl ?_
        refine q_bipush (v := (-9)) rfl rfl ?_
        refine q_putfield rfl hx_51 rfl (Nat.le_of_ble_eq_true rfl) (rfl) (by decide +kernel) ?_
        refine q_heap (hs_51_12 _) ?_
        refine q_aload_n rfl rfl ?_
        refine q_getfield rfl hx_51 rfl ?_
        refine q_iload_n rfl rfl ?_
        refine q_iald rfl (by decide) hx_57 (by omega) (by decide) (hz) ?_
        refine q_iconst (v := nI 1) rfl rfl ?_
        refine q_isub rfl ?_
        refine q_istore (L' := [_, _, _, _, _, _]) rfl rfl ?_
        refine q_iload rfl rfl ?_
        refine q_if_le rfl (fun hc47 => ?_) (fun hc47 => ?_)
        · refine q_aload_n rfl rfl ?_
          refine q_getI rfl hx_51 rfl ((show _ = (-9 : Int32) from rfl)) ?_
          refine q_bipush (v := (-9)) rfl rfl ?_
          refine q_icmp_ne rfl (fun hc104 => ?_) (fun hc104 => ?_)
          · exact absurd hc104 (by decide)
          · refine q_iconst (v := nI 0) rfl rfl ?_
            refine q_iret rfl rfl ?_
            exact ⟨rfl, rfl⟩
        · exact absurd (show nI 0 - nI 1 ≤ 0 by decide) hc47
      · exact absurd hc24 (by decide)
    · exact absurd hc12 (by decide)
theorem m_fainter_N {X : XX} {I A : Nat → Nat → Int32} {J B : Nat → Nat → Int64} {F : Nat → Nat} (ln : Nat) (hln : ln ≤ 5) (eln : I 51 3 = nI ln) (k : Nat) (hk : k < ln) (q : Nat) (hr : q < 6) (n : Nat) (hn : n ≤ 40) (hz : A 57 q = nI n) (n8 : n ≤ 20) (hok : ∀ k, k < n → okN (nI 0) 2147483647 ((fun x => A 58 (40 * q + x)) k)) (h0 : 1 ≤ n) (hfl : f_less (fun x => A 58 (40 * q + x)) (n - 1) 1 = -9) : x_ev X xT 4 230 [.ref 51, .int (nI k), .int (nI q)] (HX I A J B F) (some (.int (nI 0))) (HX (u2 I 51 12 (-9)) A J B F) := by
  refine q_ev (L := [some (.ref 51), some (.int (nI k)), some (.int (nI q)), none, none, none]) tX9_fainter (Nat.le_of_ble_eq_true rfl) rfl ?_
  refine q_aload_n rfl rfl ?_
  refine q_iload_n rfl rfl ?_
  refine q_callV1 rfl hx_51 (Nat.le_of_ble_eq_true rfl) (Nat.le_of_ble_eq_true rfl) (sX9_isLight_1 k ln hk hln eln) ?_
  refine q_if_eqN rfl (by omega) (fun hc5 => ?_) (fun hc5 => ?_)
  · exact absurd hc5 (by decide)
  · refine q_iload_n rfl rfl ?_
    refine q_callS1 rfl rfl (Nat.le_of_ble_eq_true rfl) (Nat.le_of_ble_eq_true rfl) (sX9_isRow_1 q hr) ?_
    refine q_if_neN rfl (by omega) (fun hc12 => ?_) (fun hc12 => ?_)
    · refine q_aload_n rfl rfl ?_
      refine q_iload_n rfl rfl ?_
      refine q_callV1 rfl hx_51 (Nat.le_of_ble_eq_true rfl) (Nat.le_of_ble_eq_true rfl) (sX9_noNotes_0 q hr n hn hz n8 hok) ?_
      refine q_istore_n (L' := [_, _, _, _, _, _]) rfl rfl ?_
      refine q_iload_n rfl rfl ?_
      refine q_if_eqN rfl (by omega) (fun hc24 => ?_) (fun hc24 => ?_)
      · refine q_aload_n rfl rfl ?_
        refine q_bipush (v := (-9)) rfl rfl ?_
        refine q_putfield rfl hx_51 rfl (Nat.le_of_ble_eq_true rfl) (rfl) (by decide +kernel) ?_
        refine q_heap (hs_51_12 _) ?_
        refine q_aload_n rfl rfl ?_
        refine q_getfield rfl hx_51 rfl ?_
        refine q_iload_n rfl rfl ?_
        refine q_iald rfl (by decide) hx_57 (by omega) (by decide) (hz) ?_
        refine q_iconst (v := nI 1) rfl rfl ?_
        refine q_isubN rfl (h0) ?_
        refine q_istore (L' := [_, _, _, _, _, _]) rfl rfl ?_
        refine q_dn (Inv := fun j L h => ∃ z, L = [some (.ref 51), some (.int (nI k)), some (.int (nI q)), some (.int (nI 0)), some (.int (nI j)), z] ∧ h = HX (u2 I 51 12 (f_less (fun x => A 58 (40 * q + x)) (n - 1 - j) (j + 1))) A J B F) (n - 1) (fun j L h hk_j hi_j ih_j => ?_) (fun L h hi_j => ?_) (n - 1) _ _ (by omega) (⟨_, rfl, by rw [Nat.sub_self]; rfl⟩)
        · obtain ⟨z, rfl, rfl⟩ := hi_j
          refine q_iload rfl rfl ?_
          refine q_if_leN rfl (by omega) (fun hcjs47 => ?_) (fun hcjs47 => ?_)
          · omega
          · refine q_aload_n rfl rfl ?_
            refine q_aload_n rfl rfl ?_
            refine q_getfield rfl hx_51 rfl ?_
            refine q_bipush (v := nI 40) rfl rfl ?_
            refine q_iload_n rfl rfl ?_
            refine q_imulN rfl ?_
            refine q_iload rfl rfl ?_
            refine q_iaddN rfl ?_
            refine q_iald rfl (by decide) hx_58 (by omega) (by decide) (rfl) ?_
            refine q_aload_n rfl rfl ?_
            refine q_getfield rfl hx_51 rfl ?_
            refine q_bipush (v := nI 40) rfl rfl ?_
            refine q_iload_n rfl rfl ?_
            refine q_imulN rfl ?_
            refine q_iload rfl rfl ?_
            refine q_iaddN rfl ?_
            refine q_iconst (v := nI 1) rfl rfl ?_
            refine q_isubN rfl (by omega) ?_
            refine q_iald rfl (by decide) hx_58 (by omega) (by decide) (rfl) ?_
            refine q_icmp_ge rfl (fun hcjs77 => ?_) (fun hcjs77 => ?_)
            · refine q_aload_n rfl rfl ?_
              refine q_getfield rfl hx_51 rfl ?_
              refine q_putfield rfl hx_51 rfl (Nat.le_of_ble_eq_true rfl) (rfl) (by decide +kernel) ?_
              refine q_heap (hs_51_12 _) ?_
              refine q_iinc (v := nI j) (L' := [_, _, _, _, _, _]) rfl rfl (pk_m1 j) rfl ?_
              refine q_goto rfl ?_
              exact ih_j _ _ (⟨_, rfl, by have h77 := hcjs77; rw [show 40 * q + (j + 1) - 1 = 40 * q + j by omega] at h77; rw [u2_u2, show n - 1 - j = (n - 1 - (j + 1)) + 1 by omega, show ∀ g c i, f_less g (c + 1) i = if g (i - 1) ≤ g i then f_less g c (i + 1) else nI i from fun _ _ _ => rfl, Nat.add_sub_cancel]; (first | (rw [if_pos h77]; try rfl) | (rw [if_neg h77]; try rfl))⟩)
            · refine q_iload rfl rfl ?_
              refine q_goto rfl ?_
              refine q_putfield rfl hx_51 rfl (Nat.le_of_ble_eq_true rfl) (rfl) (by decide +kernel) ?_
              refine q_heap (hs_51_12 _) ?_
              refine q_iinc (v := nI j) (L' := [_, _, _, _, _, _]) rfl rfl (pk_m1 j) rfl ?_
              refine q_goto rfl ?_
              exact ih_j _ _ (⟨_, rfl, by have h77 := hcjs77; rw [show 40 * q + (j + 1) - 1 = 40 * q + j by omega] at h77; rw [u2_u2, show n - 1 - j = (n - 1 - (j + 1)) + 1 by omega, show ∀ g c i, f_less g (c + 1) i = if g (i - 1) ≤ g i then f_less g c (i + 1) else nI i from fun _ _ _ => rfl, Nat.add_sub_cancel]; (first | (rw [if_pos h77]; try rfl) | (rw [if_neg h77]; try rfl))⟩)
        · obtain ⟨z, rfl, rfl⟩ := hi_j
          rw [Nat.sub_zero, Nat.zero_add, hfl]
          refine q_iload rfl rfl ?_
          refine q_if_leN rfl (by omega) (fun hcjf47 => ?_) (fun hcjf47 => ?_)
          · refine q_aload_n rfl rfl ?_
            refine q_getI rfl hx_51 rfl ((show _ = (-9 : Int32) from rfl)) ?_
            refine q_bipush (v := (-9)) rfl rfl ?_
            refine q_icmp_ne rfl (fun hcjf104 => ?_) (fun hcjf104 => ?_)
            · exact absurd hcjf104 (by decide)
            · refine q_iconst (v := nI 0) rfl rfl ?_
              refine q_iret rfl rfl ?_
              exact ⟨rfl, rfl⟩
          · omega
      · exact absurd hc24 (by decide)
    · exact absurd hc12 (by decide)
theorem m_fainter_0 {X : XX} {I A : Nat → Nat → Int32} {J B : Nat → Nat → Int64} {F : Nat → Nat} (b : Nat) (hb : b ≤ 5) (eb : I 51 1 = nI b) (m : Nat) (em : A 52 1 = nI m) (hm : m ≤ 40) (s : Nat) (es : A 52 2 = nI s) (hs : s < 24) (ln : Nat) (hln : ln ≤ 5) (eln : I 51 3 = nI ln) (hl : mLk A) (k : Nat) (hk : k < ln) (q : Nat) (hr : q < 6) (n : Nat) (hn : n ≤ 40) (hz : A 57 q = nI n) (n8 : n ≤ 20) (hok : ∀ k, k < n → okN (nI 0) 2147483647 ((fun x => A 58 (40 * q + x)) k)) (j0 : Nat) (j1 : 1 ≤ j0) (hj0 : j0 < n) (hfl : f_less (fun x => A 58 (40 * q + x)) (n - 1) 1 = nI j0) : x_ev X xT 4 230 [.ref 51, .int (nI k), .int (nI q)] (HX I A J B F) (some (.int (nI (fnN b (mL A k) s (m + j0))))) (HX (u2 I 51 12 (nI j0)) A J B F) := by
  refine q_ev (L := [some (.ref 51), some (.int (nI k)), some (.int (nI q)), none, none, none]) tX9_fainter (Nat.le_of_ble_eq_true rfl) rfl ?_
  refine q_aload_n rfl rfl ?_
  refine q_iload_n rfl rfl ?_
  refine q_callV1 rfl hx_51 (Nat.le_of_ble_eq_true rfl) (Nat.le_of_ble_eq_true rfl) (sX9_isLight_1 k ln hk hln eln) ?_
  refine q_if_eqN rfl (by omega) (fun hc5 => ?_) (fun hc5 => ?_)
  · exact absurd hc5 (by decide)
  · refine q_iload_n rfl rfl ?_
    refine q_callS1 rfl rfl (Nat.le_of_ble_eq_true rfl) (Nat.le_of_ble_eq_true rfl) (sX9_isRow_1 q hr) ?_
    refine q_if_neN rfl (by omega) (fun hc12 => ?_) (fun hc12 => ?_)
    · refine q_aload_n rfl rfl ?_
      refine q_iload_n rfl rfl ?_
      refine q_callV1 rfl hx_51 (Nat.le_of_ble_eq_true rfl) (Nat.le_of_ble_eq_true rfl) (sX9_noNotes_0 q hr n hn hz n8 hok) ?_
      refine q_istore_n (L' := [_, _, _, _, _, _]) rfl rfl ?_
      refine q_iload_n rfl rfl ?_
      refine q_if_eqN rfl (by omega) (fun hc24 => ?_) (fun hc24 => ?_)
      · refine q_aload_n rfl rfl ?_
        refine q_bipush (v := (-9)) rfl rfl ?_
        refine q_putfield rfl hx_51 rfl (Nat.le_of_ble_eq_true rfl) (rfl) (by decide +kernel) ?_
        refine q_heap (hs_51_12 _) ?_
        refine q_aload_n rfl rfl ?_
        refine q_getfield rfl hx_51 rfl ?_
        refine q_iload_n rfl rfl ?_
        refine q_iald rfl (by decide) hx_57 (by omega) (by decide) (hz) ?_
        refine q_iconst (v := nI 1) rfl rfl ?_
        refine q_isubN rfl (by omega) ?_
        refine q_istore (L' := [_, _, _, _, _, _]) rfl rfl ?_
        refine q_dn (Inv := fun j L h => ∃ z, L = [some (.ref 51), some (.int (nI k)), some (.int (nI q)), some (.int (nI 0)), some (.int (nI j)), z] ∧ h = HX (u2 I 51 12 (f_less (fun x => A 58 (40 * q + x)) (n - 1 - j) (j + 1))) A J B F) (n - 1) (fun j L h hk_j hi_j ih_j => ?_) (fun L h hi_j => ?_) (n - 1) _ _ (by omega) (⟨_, rfl, by rw [Nat.sub_self]; rfl⟩)
        · obtain ⟨z, rfl, rfl⟩ := hi_j
          refine q_iload rfl rfl ?_
          refine q_if_leN rfl (by omega) (fun hcjs47 => ?_) (fun hcjs47 => ?_)
          · omega
          · refine q_aload_n rfl rfl ?_
            refine q_aload_n rfl rfl ?_
            refine q_getfield rfl hx_51 rfl ?_
            refine q_bipush (v := nI 40) rfl rfl ?_
            refine q_iload_n rfl rfl ?_
            refine q_imulN rfl ?_
            refine q_iload rfl rfl ?_
            refine q_iaddN rfl ?_
            refine q_iald rfl (by decide) hx_58 (by omega) (by decide) (rfl) ?_
            refine q_aload_n rfl rfl ?_
            refine q_getfield rfl hx_51 rfl ?_
            refine q_bipush (v := nI 40) rfl rfl ?_
            refine q_iload_n rfl rfl ?_
            refine q_imulN rfl ?_
            refine q_iload rfl rfl ?_
            refine q_iaddN rfl ?_
            refine q_iconst (v := nI 1) rfl rfl ?_
            refine q_isubN rfl (by omega) ?_
            refine q_iald rfl (by decide) hx_58 (by omega) (by decide) (rfl) ?_
            refine q_icmp_ge rfl (fun hcjs77 => ?_) (fun hcjs77 => ?_)
            · refine q_aload_n rfl rfl ?_
              refine q_getfield rfl hx_51 rfl ?_
              refine q_putfield rfl hx_51 rfl (Nat.le_of_ble_eq_true rfl) (rfl) (by decide +kernel) ?_
              refine q_heap (hs_51_12 _) ?_
              refine q_iinc (v := nI j) (L' := [_, _, _, _, _, _]) rfl rfl (pk_m1 j) rfl ?_
              refine q_goto rfl ?_
              exact ih_j _ _ (⟨_, rfl, by have h77 := hcjs77; rw [show 40 * q + (j + 1) - 1 = 40 * q + j by omega] at h77; rw [u2_u2, show n - 1 - j = (n - 1 - (j + 1)) + 1 by omega, show ∀ g c i, f_less g (c + 1) i = if g (i - 1) ≤ g i then f_less g c (i + 1) else nI i from fun _ _ _ => rfl, Nat.add_sub_cancel]; (first | (rw [if_pos h77]; try rfl) | (rw [if_neg h77]; try rfl))⟩)
            · refine q_iload rfl rfl ?_
              refine q_goto rfl ?_
              refine q_putfield rfl hx_51 rfl (Nat.le_of_ble_eq_true rfl) (rfl) (by decide +kernel) ?_
              refine q_heap (hs_51_12 _) ?_
              refine q_iinc (v := nI j) (L' := [_, _, _, _, _, _]) rfl rfl (pk_m1 j) rfl ?_
              refine q_goto rfl ?_
              exact ih_j _ _ (⟨_, rfl, by have h77 := hcjs77; rw [show 40 * q + (j + 1) - 1 = 40 * q + j by omega] at h77; rw [u2_u2, show n - 1 - j = (n - 1 - (j + 1)) + 1 by omega, show ∀ g c i, f_less g (c + 1) i = if g (i - 1) ≤ g i then f_less g c (i + 1) else nI i from fun _ _ _ => rfl, Nat.add_sub_cancel]; (first | (rw [if_pos h77]; try rfl) | (rw [if_neg h77]; try rfl))⟩)
        · obtain ⟨z, rfl, rfl⟩ := hi_j
          rw [Nat.sub_zero, Nat.zero_add, hfl]
          refine q_iload rfl rfl ?_
          refine q_if_leN rfl (by omega) (fun hcjf47 => ?_) (fun hcjf47 => ?_)
          · refine q_aload_n rfl rfl ?_
            refine q_getI rfl hx_51 rfl (rfl) ?_
            refine q_bipush (v := (-9)) rfl rfl ?_
            refine q_icmp_ne rfl (fun hcjf104 => ?_) (fun hcjf104 => ?_)
            · refine q_aload_n rfl rfl ?_
              refine q_getfield rfl hx_51 rfl ?_
              refine q_iconst (v := nI 1) rfl rfl ?_
              refine q_iald rfl (by decide) hx_52 (by decide) (by decide) (em) ?_
              refine q_aload_n rfl rfl ?_
              refine q_getI rfl hx_51 rfl (rfl) ?_
              refine q_iaddN rfl ?_
              refine q_istore (L' := [_, _, _, _, _, _]) rfl rfl ?_
              refine q_aload_n rfl rfl ?_
              refine q_iload_n rfl rfl ?_
              refine q_iload rfl rfl ?_
              refine q_callV2 rfl hx_51 (Nat.le_of_ble_eq_true rfl) (Nat.le_of_ble_eq_true rfl) (sX9_brightAt k (by omega) hl _ (by omega)) ?_
              refine q_aload_n rfl rfl ?_
              refine q_iload_n rfl rfl ?_
              refine q_iload rfl rfl ?_
              refine q_iconst (v := nI 1) rfl rfl ?_
              refine q_isubN rfl (by omega) ?_
              refine q_callV2 rfl hx_51 (Nat.le_of_ble_eq_true rfl) (Nat.le_of_ble_eq_true rfl) (sX9_brightAt k (by omega) hl _ (by omega)) ?_
              refine q_icmp_geN rfl (by have := brN_le (mL A k) (m + j0); have := (hl k (by omega)).1.2; omega) (by have := brN_le (mL A k) (m + j0 - 1); have := (hl k (by omega)).1.2; omega) (fun hcjf138 => ?_) (fun hcjf138 => ?_)
              · refine q_iconst (v := nI 0) rfl rfl ?_
                refine q_istore (L' := [_, _, _, _, _, _]) rfl rfl ?_
                refine q_iload rfl rfl ?_
                refine q_aload_n rfl rfl ?_
                refine q_aload_n rfl rfl ?_
                refine q_iload_n rfl rfl ?_
                refine q_iload rfl rfl ?_
                refine q_callV2 rfl hx_51 (Nat.le_of_ble_eq_true rfl) (Nat.le_of_ble_eq_true rfl) (sX9_placeAt k (by omega) hl _) ?_
                refine q_aload_n rfl rfl ?_
                refine q_getfield rfl hx_51 rfl ?_
                refine q_iconst (v := nI 2) rfl rfl ?_
                refine q_iald rfl (by decide) hx_52 (by decide) (by decide) (es) ?_
                refine q_callV2 rfl hx_51 (Nat.le_of_ble_eq_true rfl) (Nat.le_of_ble_eq_true rfl) (sX9_times b hb (by exact eb) _ _) ?_
                refine q_aload_n rfl rfl ?_
                refine q_aload_n rfl rfl ?_
                refine q_iload_n rfl rfl ?_
                refine q_iload rfl rfl ?_
                refine q_iconst (v := nI 1) rfl rfl ?_
                refine q_isubN rfl (by omega) ?_
                refine q_callV2 rfl hx_51 (Nat.le_of_ble_eq_true rfl) (Nat.le_of_ble_eq_true rfl) (sX9_placeAt k (by omega) hl _) ?_
                refine q_aload_n rfl rfl ?_
                refine q_getfield rfl hx_51 rfl ?_
                refine q_iconst (v := nI 2) rfl rfl ?_
                refine q_iald rfl (by decide) hx_52 (by decide) (by decide) (es) ?_
                refine q_callV2 rfl hx_51 (Nat.le_of_ble_eq_true rfl) (Nat.le_of_ble_eq_true rfl) (sX9_times b hb (by exact eb) _ _) ?_
                refine q_icmp_geN rfl (by have := tmN_le b (nI s) (nI (plN (mL A k) (m + j0))); omega) (by have := tmN_le b (nI s) (nI (plN (mL A k) (m + j0 - 1))); omega) (fun hcjf186 => ?_) (fun hcjf186 => ?_)
                · refine q_iconst (v := nI 0) rfl rfl ?_
                  refine q_iaddN rfl ?_
                  refine q_iret rfl rfl ?_
                  exact ⟨vI (by unfold fnN; first | (rw [if_pos (Nat.not_le.mp hcjf138)]; first | rw [if_pos (Nat.not_le.mp hcjf186)] | rw [if_neg (Nat.not_lt.mpr hcjf186)]) | (rw [if_neg (Nat.not_lt.mpr hcjf138)]; first | rw [if_pos (Nat.not_le.mp hcjf186)] | rw [if_neg (Nat.not_lt.mpr hcjf186)])), rfl⟩
                · refine q_iconst (v := nI 2) rfl rfl ?_
                  refine q_goto rfl ?_
                  refine q_iaddN rfl ?_
                  refine q_iret rfl rfl ?_
                  exact ⟨vI (by unfold fnN; first | (rw [if_pos (Nat.not_le.mp hcjf138)]; first | rw [if_pos (Nat.not_le.mp hcjf186)] | rw [if_neg (Nat.not_lt.mpr hcjf186)]) | (rw [if_neg (Nat.not_lt.mpr hcjf138)]; first | rw [if_pos (Nat.not_le.mp hcjf186)] | rw [if_neg (Nat.not_lt.mpr hcjf186)])), rfl⟩
              · refine q_iconst (v := nI 1) rfl rfl ?_
                refine q_goto rfl ?_
                refine q_istore (L' := [_, _, _, _, _, _]) rfl rfl ?_
                refine q_iload rfl rfl ?_
                refine q_aload_n rfl rfl ?_
                refine q_aload_n rfl rfl ?_
                refine q_iload_n rfl rfl ?_
                refine q_iload rfl rfl ?_
                refine q_callV2 rfl hx_51 (Nat.le_of_ble_eq_true rfl) (Nat.le_of_ble_eq_true rfl) (sX9_placeAt k (by omega) hl _) ?_
                refine q_aload_n rfl rfl ?_
                refine q_getfield rfl hx_51 rfl ?_
                refine q_iconst (v := nI 2) rfl rfl ?_
                refine q_iald rfl (by decide) hx_52 (by decide) (by decide) (es) ?_
                refine q_callV2 rfl hx_51 (Nat.le_of_ble_eq_true rfl) (Nat.le_of_ble_eq_true rfl) (sX9_times b hb (by exact eb) _ _) ?_
                refine q_aload_n rfl rfl ?_
                refine q_aload_n rfl rfl ?_
                refine q_iload_n rfl rfl ?_
                refine q_iload rfl rfl ?_
                refine q_iconst (v := nI 1) rfl rfl ?_
                refine q_isubN rfl (by omega) ?_
                refine q_callV2 rfl hx_51 (Nat.le_of_ble_eq_true rfl) (Nat.le_of_ble_eq_true rfl) (sX9_placeAt k (by omega) hl _) ?_
                refine q_aload_n rfl rfl ?_
                refine q_getfield rfl hx_51 rfl ?_
                refine q_iconst (v := nI 2) rfl rfl ?_
                refine q_iald rfl (by decide) hx_52 (by decide) (by decide) (es) ?_
                refine q_callV2 rfl hx_51 (Nat.le_of_ble_eq_true rfl) (Nat.le_of_ble_eq_true rfl) (sX9_times b hb (by exact eb) _ _) ?_
                refine q_icmp_geN rfl (by have := tmN_le b (nI s) (nI (plN (mL A k) (m + j0))); omega) (by have := tmN_le b (nI s) (nI (plN (mL A k) (m + j0 - 1))); omega) (fun hcjf186 => ?_) (fun hcjf186 => ?_)
                · refine q_iconst (v := nI 0) rfl rfl ?_
                  refine q_iaddN rfl ?_
                  refine q_iret rfl rfl ?_
                  exact ⟨vI (by unfold fnN; first | (rw [if_pos (Nat.not_le.mp hcjf138)]; first | rw [if_pos (Nat.not_le.mp hcjf186)] | rw [if_neg (Nat.not_lt.mpr hcjf186)]) | (rw [if_neg (Nat.not_lt.mpr hcjf138)]; first | rw [if_pos (Nat.not_le.mp hcjf186)] | rw [if_neg (Nat.not_lt.mpr hcjf186)])), rfl⟩
                · refine q_iconst (v := nI 2) rfl rfl ?_
                  refine q_goto rfl ?_
                  refine q_iaddN rfl ?_
                  refine q_iret rfl rfl ?_
                  exact ⟨vI (by unfold fnN; first | (rw [if_pos (Nat.not_le.mp hcjf138)]; first | rw [if_pos (Nat.not_le.mp hcjf186)] | rw [if_neg (Nat.not_lt.mpr hcjf186)]) | (rw [if_neg (Nat.not_lt.mpr hcjf138)]; first | rw [if_pos (Nat.not_le.mp hcjf186)] | rw [if_neg (Nat.not_lt.mpr hcjf186)])), rfl⟩
            · exact absurd hcjf104 (nI_n9 (by omega))
          · omega
      · exact absurd hc24 (by decide)
    · exact absurd hc12 (by decide)
