/-! the digest; what is told: both sides -/
set_option maxHeartbeats 1000000 in
theorem c_digest {X : XX} {I A : Nat → Nat → Int32} {J B : Nat → Nat → Int64} {F : Nat → Nat} (b : Nat) (hb : b ≤ 5) (eb : I 7 0 = nI b) (m : Nat) (em : I 8 2 = nI m) (hm : m ≤ 40) (s : Nat) (es : I 8 3 = nI s) (hs : s < 24) (ln : Nat) (hln : ln ≤ 5) (eln : I 0 12 = nI ln) (lks : ∀ i, i < 5 → lkOK I (40 + i)) (szr : ∀ r, r < 6 → szOK 40 (I (20 + 2 * r) 1)) (szt : ∀ t, t < 4 → szOK 60 (I (20 + 2 * (6 + t)) 1))  : x_ev X xT 7 122 [.ref 0] (HX I A J B F) (some (.long (dgM (fun t => I (20 + 2 * (6 + t)) 1) (fun t => A (21 + 2 * (6 + t))) (dgM (fun r => I (20 + 2 * r) 1) (fun r => A (21 + 2 * r)) (dgN (fun k => I (45 + 2 * k) 1) (dgL (fun i => fact b (cL I (40 + i)) s m) (dgN (cnN ln (I 8 2) (I 8 1) (I 8 3) (I 7 0) (I 8 4) (fun i => I (40 + i) 0) (fun k => I (20 + 2 * k) 1) (fun k => I (20 + 2 * (6 + k)) 1) (fun k => I (45 + 2 * k) 1)) 17 11) ln) 3) 6) 4))) (HX I A J B F) := by
  refine q_ev (L := [some (.ref 0), none, none, none, none]) tX8_digest (Nat.le_of_ble_eq_true rfl) rfl ?_
  refine q_ldc2_w (v := 17) rfl rfl ?_
  refine q_lstore_n (L' := [_, _, _, _, _]) rfl rfl ?_
  refine q_iconst (v := nI 0) rfl rfl ?_
  refine q_istore_n (L' := [_, _, _, _, _]) rfl rfl ?_
  refine q_up (Inv := fun k L h => ∃ z, L = [some (.ref 0), some (.long (dgN (cnN ln (I 8 2) (I 8 1) (I 8 3) (I 7 0) (I 8 4) (fun i => I (40 + i) 0) (fun k => I (20 + 2 * k) 1) (fun k => I (20 + 2 * (6 + k)) 1) (fun k => I (45 + 2 * k) 1)) 17 k)), none, some (.int (nI k)), z] ∧ h = HX I A J B F) (11) (fun k L h hk_k hi_k ih_k => ?_) (fun L h hi_k => ?_) (0) _ _ (by omega) (⟨_, rfl, rfl⟩)
  · obtain ⟨z, rfl, rfl⟩ := hi_k
    refine q_iload_n rfl rfl ?_
    refine q_bipush (v := nI 11) rfl rfl ?_
    refine q_icmp_geN rfl (by omega) (by omega) (fun hcks9 => ?_) (fun hcks9 => ?_)
    · omega
    · refine q_ldc2_w (v := 31) rfl rfl ?_
      refine q_lload_n rfl rfl ?_
      refine q_lmul rfl ?_
      refine q_aload_n rfl rfl ?_
      refine q_iload_n rfl rfl ?_
      refine q_callV1 rfl hx_0 (Nat.le_of_ble_eq_true rfl) (Nat.le_of_ble_eq_true rfl) (sX8_counted ln hln eln lks k (by omega)) ?_
      refine q_i2l rfl ?_
      refine q_ladd rfl ?_
      refine q_lstore_n (L' := [_, _, _, _, _]) rfl rfl ?_
      refine q_iincN (c := 1) (L' := [_, _, _, _, _]) rfl rfl rfl rfl ?_
      refine q_goto rfl ?_
      exact ih_k _ _ (⟨_, rfl, rfl⟩)
  · obtain ⟨z, rfl, rfl⟩ := hi_k
    refine q_iload_n rfl rfl ?_
    refine q_bipush (v := nI 11) rfl rfl ?_
    refine q_icmp_geN rfl (by omega) (by omega) (fun hckf9 => ?_) (fun hckf9 => ?_)
    · refine q_iconst (v := nI 0) rfl rfl ?_
      refine q_istore_n (L' := [_, _, _, _, _]) rfl rfl ?_
      refine q_up (Inv := fun i L h => ∃ z, L = [some (.ref 0), some (.long (dgL (fun i => fact b (cL I (40 + i)) s m) (dgN (cnN ln (I 8 2) (I 8 1) (I 8 3) (I 7 0) (I 8 4) (fun i => I (40 + i) 0) (fun k => I (20 + 2 * k) 1) (fun k => I (20 + 2 * (6 + k)) 1) (fun k => I (45 + 2 * k) 1)) 17 11) i)), none, some (.int (nI i)), z] ∧ h = HX I A J B F) (ln) (fun i L h hk_i hi_i ih_i => ?_) (fun L h hi_i => ?_) (0) _ _ (by omega) (⟨_, rfl, rfl⟩)
      · obtain ⟨z, rfl, rfl⟩ := hi_i
        refine q_iload_n rfl rfl ?_
        refine q_aload_n rfl rfl ?_
        refine q_getI rfl hx_0 rfl (eln) ?_
        refine q_icmp_geN rfl (by omega) (by omega) (fun hcis38 => ?_) (fun hcis38 => ?_)
        · omega
        · refine q_iload_n rfl rfl ?_
          refine q_aload_n rfl rfl ?_
          refine q_getfield rfl hx_0 rfl ?_
          refine q_alen rfl (by decide) hx_5 (by decide) (v := nI _) rfl ?_
          refine q_icmp_geN rfl (by omega) (by omega) (fun hcis47 => ?_) (fun hcis47 => ?_)
          · omega
          · refine q_iconst (v := nI 0) rfl rfl ?_
            refine q_istore (L' := [_, _, _, _, _]) rfl rfl ?_
            refine q_up (Inv := fun w L h => L = [some (.ref 0), some (.long (dgN (fact b (cL I (40 + i)) s m) (dgL (fun i => fact b (cL I (40 + i)) s m) (dgN (cnN ln (I 8 2) (I 8 1) (I 8 3) (I 7 0) (I 8 4) (fun i => I (40 + i) 0) (fun k => I (20 + 2 * k) 1) (fun k => I (20 + 2 * (6 + k)) 1) (fun k => I (45 + 2 * k) 1)) 17 11) i) w)), none, some (.int (nI i)), some (.int (nI w))] ∧ h = HX I A J B F) (6) (fun w L h hk_w hi_w ih_w => ?_) (fun L h hi_w => ?_) (0) _ _ (by omega) (⟨rfl, rfl⟩)
            · obtain ⟨rfl, rfl⟩ := hi_w
              refine q_iload rfl rfl ?_
              refine q_bipush (v := nI 6) rfl rfl ?_
              refine q_icmp_geN rfl (by omega) (by omega) (fun hcws57 => ?_) (fun hcws57 => ?_)
              · omega
              · refine q_ldc2_w (v := 31) rfl rfl ?_
                refine q_lload_n rfl rfl ?_
                refine q_lmul rfl ?_
                refine q_aload_n rfl rfl ?_
                refine q_aload_n rfl rfl ?_
                refine q_getfield rfl hx_0 rfl ?_
                refine q_iload_n rfl rfl ?_
                refine q_aald rfl hx_5 (by omega) (by decide) rfl (xr5_at i (by omega)) ?_
                refine q_iload rfl rfl ?_
                refine q_callV2 rfl hx_0 (Nat.le_of_ble_eq_true rfl) (Nat.le_of_ble_eq_true rfl) (sX8_factOf b hb eb m em (by omega) s es (40 + i) (hx_light i (by omega)) (lks i (by omega)) w (by omega)) ?_
                refine q_i2l rfl ?_
                refine q_ladd rfl ?_
                refine q_lstore_n (L' := [_, _, _, _, _]) rfl rfl ?_
                refine q_iincN (c := 1) (L' := [_, _, _, _, _]) rfl rfl rfl rfl ?_
                refine q_goto rfl ?_
                exact ih_w _ _ (⟨rfl, rfl⟩)
            · obtain ⟨rfl, rfl⟩ := hi_w
              refine q_iload rfl rfl ?_
              refine q_bipush (v := nI 6) rfl rfl ?_
              refine q_icmp_geN rfl (by omega) (by omega) (fun hcwf57 => ?_) (fun hcwf57 => ?_)
              · refine q_iincN (c := 1) (L' := [_, _, _, _, _]) rfl rfl rfl rfl ?_
                refine q_goto rfl ?_
                exact ih_i _ _ (⟨_, rfl, rfl⟩)
              · omega
      · obtain ⟨z, rfl, rfl⟩ := hi_i
        refine q_iload_n rfl rfl ?_
        refine q_aload_n rfl rfl ?_
        refine q_getI rfl hx_0 rfl (eln) ?_
        refine q_icmp_geN rfl (by omega) (by omega) (fun hcif38 => ?_) (fun hcif38 => ?_)
        · refine q_iconst (v := nI 0) rfl rfl ?_
          refine q_istore_n (L' := [_, _, _, _, _]) rfl rfl ?_
          refine q_up (Inv := fun k L h => ∃ z, L = [some (.ref 0), some (.long (dgN (fun k => I (45 + 2 * k) 1) (dgL (fun i => fact b (cL I (40 + i)) s m) (dgN (cnN ln (I 8 2) (I 8 1) (I 8 3) (I 7 0) (I 8 4) (fun i => I (40 + i) 0) (fun k => I (20 + 2 * k) 1) (fun k => I (20 + 2 * (6 + k)) 1) (fun k => I (45 + 2 * k) 1)) 17 11) ln) k)), none, some (.int (nI k)), z] ∧ h = HX I A J B F) (3) (fun k L h hk_k hi_k ih_k => ?_) (fun L h hi_k => ?_) (0) _ _ (by omega) (⟨_, rfl, rfl⟩)
          · obtain ⟨z, rfl, rfl⟩ := hi_k
            refine q_iload_n rfl rfl ?_
            refine q_aload_n rfl rfl ?_
            refine q_getfield rfl hx_0 rfl ?_
            refine q_alen rfl (by decide) hx_10 (by decide) (v := nI _) rfl ?_
            refine q_icmp_geN rfl (by omega) (by omega) (fun hcks100 => ?_) (fun hcks100 => ?_)
            · omega
            · refine q_ldc2_w (v := 31) rfl rfl ?_
              refine q_lload_n rfl rfl ?_
              refine q_lmul rfl ?_
              refine q_aload_n rfl rfl ?_
              refine q_getfield rfl hx_0 rfl ?_
              refine q_iload_n rfl rfl ?_
              refine q_aald rfl hx_10 (by omega) (by decide) rfl (xr10_at k (by omega)) ?_
              refine q_callV0 rfl (hx_kept k (by omega)) (Nat.le_of_ble_eq_true rfl) (Nat.le_of_ble_eq_true rfl) (sX3_done (hx_kept k (by omega))) ?_
              refine q_i2l rfl ?_
              refine q_ladd rfl ?_
              refine q_lstore_n (L' := [_, _, _, _, _]) rfl rfl ?_
              refine q_iincN (c := 1) (L' := [_, _, _, _, _]) rfl rfl rfl rfl ?_
              refine q_goto rfl ?_
              exact ih_k _ _ (⟨_, rfl, rfl⟩)
          · obtain ⟨z, rfl, rfl⟩ := hi_k
            refine q_iload_n rfl rfl ?_
            refine q_aload_n rfl rfl ?_
            refine q_getfield rfl hx_0 rfl ?_
            refine q_alen rfl (by decide) hx_10 (by decide) (v := nI _) rfl ?_
            refine q_icmp_geN rfl (by omega) (by omega) (fun hckf100 => ?_) (fun hckf100 => ?_)
            · refine q_iconst (v := nI 0) rfl rfl ?_
              refine q_istore_n (L' := [_, _, _, _, _]) rfl rfl ?_
              refine q_up (Inv := fun r L h => ∃ z, L = [some (.ref 0), some (.long (dgM (fun r => I (20 + 2 * r) 1) (fun r => A (21 + 2 * r)) (dgN (fun k => I (45 + 2 * k) 1) (dgL (fun i => fact b (cL I (40 + i)) s m) (dgN (cnN ln (I 8 2) (I 8 1) (I 8 3) (I 7 0) (I 8 4) (fun i => I (40 + i) 0) (fun k => I (20 + 2 * k) 1) (fun k => I (20 + 2 * (6 + k)) 1) (fun k => I (45 + 2 * k) 1)) 17 11) ln) 3) r)), none, some (.int (nI r)), z] ∧ h = HX I A J B F) (6) (fun r L h hk_r hi_r ih_r => ?_) (fun L h hi_r => ?_) (0) _ _ (by omega) (⟨_, rfl, rfl⟩)
              · obtain ⟨z, rfl, rfl⟩ := hi_r
                refine q_iload_n rfl rfl ?_
                refine q_aload_n rfl rfl ?_
                refine q_getfield rfl hx_0 rfl ?_
                refine q_alen rfl (by decide) hx_1 (by decide) (v := nI _) rfl ?_
                refine q_icmp_geN rfl (by omega) (by omega) (fun hcrs134 => ?_) (fun hcrs134 => ?_)
                · omega
                · refine q_aload_n rfl rfl ?_
                  refine q_getfield rfl hx_0 rfl ?_
                  refine q_iload_n rfl rfl ?_
                  refine q_aald rfl hx_1 (by omega) (by decide) rfl (xr1_at r (by omega)) ?_
                  refine q_lload_n rfl rfl ?_
                  refine q_callV1 rfl (hx_line r (by omega)) (Nat.le_of_ble_eq_true rfl) (Nat.le_of_ble_eq_true rfl) (sL_mixS r (by omega) (by rw [rm_row (by omega)]; exact szr r (by omega)) _) ?_
                  refine q_lstore_n (L' := [_, _, _, _, _]) rfl rfl ?_
                  refine q_iincN (c := 1) (L' := [_, _, _, _, _]) rfl rfl rfl rfl ?_
                  refine q_goto rfl ?_
                  exact ih_r _ _ (⟨_, rfl, rfl⟩)
              · obtain ⟨z, rfl, rfl⟩ := hi_r
                refine q_iload_n rfl rfl ?_
                refine q_aload_n rfl rfl ?_
                refine q_getfield rfl hx_0 rfl ?_
                refine q_alen rfl (by decide) hx_1 (by decide) (v := nI _) rfl ?_
                refine q_icmp_geN rfl (by omega) (by omega) (fun hcrf134 => ?_) (fun hcrf134 => ?_)
                · refine q_iconst (v := nI 0) rfl rfl ?_
                  refine q_istore_n (L' := [_, _, _, _, _]) rfl rfl ?_
                  refine q_up (Inv := fun t L h => ∃ z, L = [some (.ref 0), some (.long (dgM (fun t => I (20 + 2 * (6 + t)) 1) (fun t => A (21 + 2 * (6 + t))) (dgM (fun r => I (20 + 2 * r) 1) (fun r => A (21 + 2 * r)) (dgN (fun k => I (45 + 2 * k) 1) (dgL (fun i => fact b (cL I (40 + i)) s m) (dgN (cnN ln (I 8 2) (I 8 1) (I 8 3) (I 7 0) (I 8 4) (fun i => I (40 + i) 0) (fun k => I (20 + 2 * k) 1) (fun k => I (20 + 2 * (6 + k)) 1) (fun k => I (45 + 2 * k) 1)) 17 11) ln) 3) 6) t)), none, some (.int (nI t)), z] ∧ h = HX I A J B F) (4) (fun t L h hk_t hi_t ih_t => ?_) (fun L h hi_t => ?_) (0) _ _ (by omega) (⟨_, rfl, rfl⟩)
                  · obtain ⟨z, rfl, rfl⟩ := hi_t
                    refine q_iload_n rfl rfl ?_
                    refine q_aload_n rfl rfl ?_
                    refine q_getfield rfl hx_0 rfl ?_
                    refine q_alen rfl (by decide) hx_2 (by decide) (v := nI _) rfl ?_
                    refine q_icmp_geN rfl (by omega) (by omega) (fun hcts162 => ?_) (fun hcts162 => ?_)
                    · omega
                    · refine q_aload_n rfl rfl ?_
                      refine q_getfield rfl hx_0 rfl ?_
                      refine q_iload_n rfl rfl ?_
                      refine q_aald rfl hx_2 (by omega) (by decide) rfl (show xr2 t = some (20 + 2 * (6 + t)) from by rw [xr2_at t (by omega), show 20 + 2 * (6 + t) = 32 + 2 * t by omega]) ?_
                      refine q_lload_n rfl rfl ?_
                      refine q_callV1 rfl (hx_line (6 + t) (by omega)) (Nat.le_of_ble_eq_true rfl) (Nat.le_of_ble_eq_true rfl) (sL_mixS (6 + t) (by omega) (by rw [rm_txt]; exact szt t (by omega)) _) ?_
                      refine q_lstore_n (L' := [_, _, _, _, _]) rfl rfl ?_
                      refine q_iincN (c := 1) (L' := [_, _, _, _, _]) rfl rfl rfl rfl ?_
                      refine q_goto rfl ?_
                      exact ih_t _ _ (⟨_, rfl, rfl⟩)
                  · obtain ⟨z, rfl, rfl⟩ := hi_t
                    refine q_iload_n rfl rfl ?_
                    refine q_aload_n rfl rfl ?_
                    refine q_getfield rfl hx_0 rfl ?_
                    refine q_alen rfl (by decide) hx_2 (by decide) (v := nI _) rfl ?_
                    refine q_icmp_geN rfl (by omega) (by omega) (fun hctf162 => ?_) (fun hctf162 => ?_)
                    · refine q_lload_n rfl rfl ?_
                      refine q_lret rfl rfl ?_
                      exact ⟨rfl, rfl⟩
                    · omega
                · omega
            · omega
        · omega
    · omega
theorem m_dgrow_M {X : XX} {I A : Nat → Nat → Int32} {J B : Nat → Nat → Int64} {F : Nat → Nat} {P : Option Value → XH → Prop} (r : Nat) (hr : r < 6) (hz : A 57 r = -1) (g0 : Int64) (z : Option Value) (kk : Wp X xT 4 mX9_digest 164 [some (.ref 51), some (.long (mixS (A 57 r) (fun x => A 58 (40 * r + x)) g0)), none, some (.int (nI r)), some (.int (nI 0))] [] (HX I A J B F) P) : Wp X xT 4 mX9_digest 110 [some (.ref 51), some (.long g0), none, some (.int (nI r)), z] [] (HX I A J B F) P := by
  refine q_ldc2_w (v := 31) rfl rfl ?_
  refine q_lload_n rfl rfl ?_
  refine q_lmul rfl ?_
  refine q_aload_n rfl rfl ?_
  refine q_getfield rfl hx_51 rfl ?_
  refine q_iload_n rfl rfl ?_
  refine q_iald rfl (by decide) hx_57 (by omega) (by decide) (hz) ?_
  refine q_i2l rfl ?_
  refine q_ladd rfl ?_
  refine q_lstore_n (L' := [_, _, _, _, _]) rfl rfl ?_
  refine q_iconst (v := nI 0) rfl rfl ?_
  refine q_istore (L' := [_, _, _, _, _]) rfl rfl ?_
  refine q_iload rfl rfl ?_
  refine q_aload_n rfl rfl ?_
  refine q_getfield rfl hx_51 rfl ?_
  refine q_iload_n rfl rfl ?_
  refine q_iald rfl (by decide) hx_57 (by omega) (by decide) (hz) ?_
  refine q_icmp_ge rfl (fun hc135 => ?_) (fun hc135 => ?_)
  · have e9 : mixS (A 57 r) (fun x => A 58 (40 * r + x)) g0 = 31 * g0 + (-1 : Int32).toInt64 := by
      unfold mixS
      rw [hz]
      rfl
    rw [e9] at kk
    exact kk
  · exact absurd hc135 (by decide)
theorem m_dgtxt_M {X : XX} {I A : Nat → Nat → Int32} {J B : Nat → Nat → Int64} {F : Nat → Nat} {P : Option Value → XH → Prop} (r : Nat) (hr : r < 4) (hz : A 59 r = -1) (g0 : Int64) (z : Option Value) (kk : Wp X xT 4 mX9_digest 231 [some (.ref 51), some (.long (mixS (A 59 r) (fun x => A 60 (60 * r + x)) g0)), none, some (.int (nI r)), some (.int (nI 0))] [] (HX I A J B F) P) : Wp X xT 4 mX9_digest 177 [some (.ref 51), some (.long g0), none, some (.int (nI r)), z] [] (HX I A J B F) P := by
  refine q_ldc2_w (v := 31) rfl rfl ?_
  refine q_lload_n rfl rfl ?_
  refine q_lmul rfl ?_
  refine q_aload_n rfl rfl ?_
  refine q_getfield rfl hx_51 rfl ?_
  refine q_iload_n rfl rfl ?_
  refine q_iald rfl (by decide) hx_59 (by omega) (by decide) (hz) ?_
  refine q_i2l rfl ?_
  refine q_ladd rfl ?_
  refine q_lstore_n (L' := [_, _, _, _, _]) rfl rfl ?_
  refine q_iconst (v := nI 0) rfl rfl ?_
  refine q_istore (L' := [_, _, _, _, _]) rfl rfl ?_
  refine q_iload rfl rfl ?_
  refine q_aload_n rfl rfl ?_
  refine q_getfield rfl hx_51 rfl ?_
  refine q_iload_n rfl rfl ?_
  refine q_iald rfl (by decide) hx_59 (by omega) (by decide) (hz) ?_
  refine q_icmp_ge rfl (fun hc202 => ?_) (fun hc202 => ?_)
  · have e9 : mixS (A 59 r) (fun x => A 60 (60 * r + x)) g0 = 31 * g0 + (-1 : Int32).toInt64 := by
      unfold mixS
      rw [hz]
      rfl
    rw [e9] at kk
    exact kk
  · exact absurd hc202 (by decide)
theorem m_dgrow_0 {X : XX} {I A : Nat → Nat → Int32} {J B : Nat → Nat → Int64} {F : Nat → Nat} {P : Option Value → XH → Prop} (r : Nat) (hr : r < 6) (n : Nat) (hn : n ≤ 40) (hz : A 57 r = nI n) (g0 : Int64) (z : Option Value) (kk : Wp X xT 4 mX9_digest 164 [some (.ref 51), some (.long (mixS (A 57 r) (fun x => A 58 (40 * r + x)) g0)), none, some (.int (nI r)), some (.int (nI n))] [] (HX I A J B F) P) : Wp X xT 4 mX9_digest 110 [some (.ref 51), some (.long g0), none, some (.int (nI r)), z] [] (HX I A J B F) P := by
  refine q_ldc2_w (v := 31) rfl rfl ?_
  refine q_lload_n rfl rfl ?_
  refine q_lmul rfl ?_
  refine q_aload_n rfl rfl ?_
  refine q_getfield rfl hx_51 rfl ?_
  refine q_iload_n rfl rfl ?_
  refine q_iald rfl (by decide) hx_57 (by omega) (by decide) (hz) ?_
  refine q_i2l rfl ?_
  refine q_ladd rfl ?_
  refine q_lstore_n (L' := [_, _, _, _, _]) rfl rfl ?_
  refine q_iconst (v := nI 0) rfl rfl ?_
  refine q_istore (L' := [_, _, _, _, _]) rfl rfl ?_
  refine q_up (Inv := fun j L h => ∃ s, L = [some (.ref 51), some (.long s), none, some (.int (nI r)), some (.int (nI j))] ∧ h = HX I A J B F ∧ f_mix (fun x => A 58 (40 * r + x)) (n - j) j s = mixS (A 57 r) (fun x => A 58 (40 * r + x)) g0) (n) (fun j L h hk_j hi_j ih_j => ?_) (fun L h hi_j => ?_) (0) _ _ (by omega) (⟨_, rfl, rfl, by unfold mixS; rw [hz, nI_clamp (by omega)]; rfl⟩)
  · obtain ⟨s, rfl, rfl, hs⟩ := hi_j
    refine q_iload rfl rfl ?_
    refine q_aload_n rfl rfl ?_
    refine q_getfield rfl hx_51 rfl ?_
    refine q_iload_n rfl rfl ?_
    refine q_iald rfl (by decide) hx_57 (by omega) (by decide) (hz) ?_
    refine q_icmp_geN rfl (by omega) (by omega) (fun hcjs135 => ?_) (fun hcjs135 => ?_)
    · omega
    · refine q_ldc2_w (v := 31) rfl rfl ?_
      refine q_lload_n rfl rfl ?_
      refine q_lmul rfl ?_
      refine q_aload_n rfl rfl ?_
      refine q_getfield rfl hx_51 rfl ?_
      refine q_bipush (v := nI 40) rfl rfl ?_
      refine q_iload_n rfl rfl ?_
      refine q_imulN rfl ?_
      refine q_iload rfl rfl ?_
      refine q_iaddN rfl ?_
      refine q_iald rfl (by decide) hx_58 (by omega) (by decide) (rfl) ?_
      refine q_i2l rfl ?_
      refine q_ladd rfl ?_
      refine q_lstore_n (L' := [_, _, _, _, _]) rfl rfl ?_
      refine q_iincN (c := 1) (L' := [_, _, _, _, _]) rfl rfl rfl rfl ?_
      refine q_goto rfl ?_
      exact ih_j _ _ (⟨_, rfl, rfl, by rw [← hs, show n - j = (n - (j + 1)) + 1 by omega]; rfl⟩)
  · obtain ⟨s, rfl, rfl, hs⟩ := hi_j
    rw [Nat.sub_self] at hs
    have hs : s = _ := hs
    subst hs
    refine q_iload rfl rfl ?_
    refine q_aload_n rfl rfl ?_
    refine q_getfield rfl hx_51 rfl ?_
    refine q_iload_n rfl rfl ?_
    refine q_iald rfl (by decide) hx_57 (by omega) (by decide) (hz) ?_
    refine q_icmp_geN rfl (by omega) (by omega) (fun hcjf135 => ?_) (fun hcjf135 => ?_)
    · exact kk
    · omega
theorem m_dgtxt_0 {X : XX} {I A : Nat → Nat → Int32} {J B : Nat → Nat → Int64} {F : Nat → Nat} {P : Option Value → XH → Prop} (r : Nat) (hr : r < 4) (n : Nat) (hn : n ≤ 60) (hz : A 59 r = nI n) (g0 : Int64) (z : Option Value) (kk : Wp X xT 4 mX9_digest 231 [some (.ref 51), some (.long (mixS (A 59 r) (fun x => A 60 (60 * r + x)) g0)), none, some (.int (nI r)), some (.int (nI n))] [] (HX I A J B F) P) : Wp X xT 4 mX9_digest 177 [some (.ref 51), some (.long g0), none, some (.int (nI r)), z] [] (HX I A J B F) P := by
  refine q_ldc2_w (v := 31) rfl rfl ?_
  refine q_lload_n rfl rfl ?_
  refine q_lmul rfl ?_
  refine q_aload_n rfl rfl ?_
  refine q_getfield rfl hx_51 rfl ?_
  refine q_iload_n rfl rfl ?_
  refine q_iald rfl (by decide) hx_59 (by omega) (by decide) (hz) ?_
  refine q_i2l rfl ?_
  refine q_ladd rfl ?_
  refine q_lstore_n (L' := [_, _, _, _, _]) rfl rfl ?_
  refine q_iconst (v := nI 0) rfl rfl ?_
  refine q_istore (L' := [_, _, _, _, _]) rfl rfl ?_
  refine q_up (Inv := fun j L h => ∃ s, L = [some (.ref 51), some (.long s), none, some (.int (nI r)), some (.int (nI j))] ∧ h = HX I A J B F ∧ f_mix (fun x => A 60 (60 * r + x)) (n - j) j s = mixS (A 59 r) (fun x => A 60 (60 * r + x)) g0) (n) (fun j L h hk_j hi_j ih_j => ?_) (fun L h hi_j => ?_) (0) _ _ (by omega) (⟨_, rfl, rfl, by unfold mixS; rw [hz, nI_clamp (by omega)]; rfl⟩)
  · obtain ⟨s, rfl, rfl, hs⟩ := hi_j
    refine q_iload rfl rfl ?_
    refine q_aload_n rfl rfl ?_
    refine q_getfield rfl hx_51 rfl ?_
    refine q_iload_n rfl rfl ?_
    refine q_iald rfl (by decide) hx_59 (by omega) (by decide) (hz) ?_
    refine q_icmp_geN rfl (by omega) (by omega) (fun hcjs202 => ?_) (fun hcjs202 => ?_)
    · omega
    · refine q_ldc2_w (v := 31) rfl rfl ?_
      refine q_lload_n rfl rfl ?_
      refine q_lmul rfl ?_
      refine q_aload_n rfl rfl ?_
      refine q_getfield rfl hx_51 rfl ?_
      refine q_bipush (v := nI 60) rfl rfl ?_
      refine q_iload_n rfl rfl ?_
      refine q_imulN rfl ?_
      refine q_iload rfl rfl ?_
      refine q_iaddN rfl ?_
      refine q_iald rfl (by decide) hx_60 (by omega) (by decide) (rfl) ?_
      refine q_i2l rfl ?_
      refine q_ladd rfl ?_
      refine q_lstore_n (L' := [_, _, _, _, _]) rfl rfl ?_
      refine q_iincN (c := 1) (L' := [_, _, _, _, _]) rfl rfl rfl rfl ?_
      refine q_goto rfl ?_
      exact ih_j _ _ (⟨_, rfl, rfl, by rw [← hs, show n - j = (n - (j + 1)) + 1 by omega]; rfl⟩)
  · obtain ⟨s, rfl, rfl, hs⟩ := hi_j
    rw [Nat.sub_self] at hs
    have hs : s = _ := hs
    subst hs
    refine q_iload rfl rfl ?_
    refine q_aload_n rfl rfl ?_
    refine q_getfield rfl hx_51 rfl ?_
    refine q_iload_n rfl rfl ?_
    refine q_iald rfl (by decide) hx_59 (by omega) (by decide) (hz) ?_
    refine q_icmp_geN rfl (by omega) (by omega) (fun hcjf202 => ?_) (fun hcjf202 => ?_)
    · exact kk
    · omega
set_option maxHeartbeats 1000000 in
theorem m_digest {X : XX} {I A : Nat → Nat → Int32} {J B : Nat → Nat → Int64} {F : Nat → Nat} (b : Nat) (hb : b ≤ 5) (eb : I 51 1 = nI b) (m : Nat) (em : A 52 1 = nI m) (hm : m ≤ 40) (s : Nat) (es : A 52 2 = nI s) (hs : s < 24) (hl : mLk A) (ln : Nat) (hln : ln ≤ 5) (eln : I 51 3 = nI ln) (szr : ∀ r, r < 6 → szOK 40 (A 57 r)) (szt : ∀ t, t < 4 → szOK 60 (A 59 t))  : x_ev X xT 5 249 [.ref 51] (HX I A J B F) (some (.long (dgM (A 59) (fun t x => A 60 (60 * t + x)) (dgM (A 57) (fun r x => A 58 (40 * r + x)) (dgN (fun k => A 52 (124 * (k + 1) + 0)) (dgN (fun k => fact b (mL A (k / 6)) s m (k % 6)) (dgN (cnN ln (A 52 1) (A 52 0) (A 52 2) (I 51 1) (A 52 3) (A 53) (A 57) (A 59) (fun k => A 52 (124 * (1 + k) + 0))) 17 11) (6 * ln)) 3) 6) 4))) (HX I A J B F) := by
  refine q_ev (L := [some (.ref 51), none, none, none, none]) tX9_digest (Nat.le_of_ble_eq_true rfl) rfl ?_
  refine q_ldc2_w (v := 17) rfl rfl ?_
  refine q_lstore_n (L' := [_, _, _, _, _]) rfl rfl ?_
  refine q_iconst (v := nI 0) rfl rfl ?_
  refine q_istore_n (L' := [_, _, _, _, _]) rfl rfl ?_
  refine q_up (Inv := fun k L h => ∃ z, L = [some (.ref 51), some (.long (dgN (cnN ln (A 52 1) (A 52 0) (A 52 2) (I 51 1) (A 52 3) (A 53) (A 57) (A 59) (fun k => A 52 (124 * (1 + k) + 0))) 17 k)), none, some (.int (nI k)), z] ∧ h = HX I A J B F) (11) (fun k L h hk_k hi_k ih_k => ?_) (fun L h hi_k => ?_) (0) _ _ (by omega) (⟨_, rfl, rfl⟩)
  · obtain ⟨z, rfl, rfl⟩ := hi_k
    refine q_iload_n rfl rfl ?_
    refine q_bipush (v := nI 11) rfl rfl ?_
    refine q_icmp_geN rfl (by omega) (by omega) (fun hcks9 => ?_) (fun hcks9 => ?_)
    · omega
    · refine q_ldc2_w (v := 31) rfl rfl ?_
      refine q_lload_n rfl rfl ?_
      refine q_lmul rfl ?_
      refine q_aload_n rfl rfl ?_
      refine q_iload_n rfl rfl ?_
      refine q_callV1 rfl hx_51 (Nat.le_of_ble_eq_true rfl) (Nat.le_of_ble_eq_true rfl) (sX9_countOf ln hln eln k (by omega)) ?_
      refine q_i2l rfl ?_
      refine q_ladd rfl ?_
      refine q_lstore_n (L' := [_, _, _, _, _]) rfl rfl ?_
      refine q_iincN (c := 1) (L' := [_, _, _, _, _]) rfl rfl rfl rfl ?_
      refine q_goto rfl ?_
      exact ih_k _ _ (⟨_, rfl, rfl⟩)
  · obtain ⟨z, rfl, rfl⟩ := hi_k
    refine q_iload_n rfl rfl ?_
    refine q_bipush (v := nI 11) rfl rfl ?_
    refine q_icmp_geN rfl (by omega) (by omega) (fun hckf9 => ?_) (fun hckf9 => ?_)
    · refine q_iconst (v := nI 0) rfl rfl ?_
      refine q_istore_n (L' := [_, _, _, _, _]) rfl rfl ?_
      refine q_up (Inv := fun k L h => ∃ z, L = [some (.ref 51), some (.long (dgN (fun k => fact b (mL A (k / 6)) s m (k % 6)) (dgN (cnN ln (A 52 1) (A 52 0) (A 52 2) (I 51 1) (A 52 3) (A 53) (A 57) (A 59) (fun k => A 52 (124 * (1 + k) + 0))) 17 11) k)), none, some (.int (nI k)), z] ∧ h = HX I A J B F) (6 * ln) (fun k L h hk_k hi_k ih_k => ?_) (fun L h hi_k => ?_) (0) _ _ (by omega) (⟨_, rfl, rfl⟩)
      · obtain ⟨z, rfl, rfl⟩ := hi_k
        refine q_iload_n rfl rfl ?_
        refine q_bipush (v := nI 6) rfl rfl ?_
        refine q_aload_n rfl rfl ?_
        refine q_getI rfl hx_51 rfl (eln) ?_
        refine q_imulN rfl ?_
        refine q_icmp_geN rfl (by omega) (by omega) (fun hcks41 => ?_) (fun hcks41 => ?_)
        · omega
        · refine q_ldc2_w (v := 31) rfl rfl ?_
          refine q_lload_n rfl rfl ?_
          refine q_lmul rfl ?_
          refine q_aload_n rfl rfl ?_
          refine q_iload_n rfl rfl ?_
          refine q_bipush (v := nI 6) rfl rfl ?_
          refine q_idivN rfl (by omega) (by decide) (by decide) ?_
          refine q_iload_n rfl rfl ?_
          refine q_bipush (v := nI 6) rfl rfl ?_
          refine q_iremN rfl (by omega) (by decide) (by decide) ?_
          refine q_callV2 rfl hx_51 (Nat.le_of_ble_eq_true rfl) (Nat.le_of_ble_eq_true rfl) (sX9_toldOf b hb eb m em (by omega) s es (k / 6) (by omega) hl (k % 6) (by omega)) ?_
          refine q_i2l rfl ?_
          refine q_ladd rfl ?_
          refine q_lstore_n (L' := [_, _, _, _, _]) rfl rfl ?_
          refine q_iincN (c := 1) (L' := [_, _, _, _, _]) rfl rfl rfl rfl ?_
          refine q_goto rfl ?_
          exact ih_k _ _ (⟨_, rfl, rfl⟩)
      · obtain ⟨z, rfl, rfl⟩ := hi_k
        refine q_iload_n rfl rfl ?_
        refine q_bipush (v := nI 6) rfl rfl ?_
        refine q_aload_n rfl rfl ?_
        refine q_getI rfl hx_51 rfl (eln) ?_
        refine q_imulN rfl ?_
        refine q_icmp_geN rfl (by omega) (by omega) (fun hckf41 => ?_) (fun hckf41 => ?_)
        · refine q_iconst (v := nI 1) rfl rfl ?_
          refine q_istore_n (L' := [_, _, _, _, _]) rfl rfl ?_
          refine q_up (Inv := fun k L h => ∃ z, L = [some (.ref 51), some (.long (dgN (fun k => A 52 (124 * (k + 1) + 0)) (dgN (fun k => fact b (mL A (k / 6)) s m (k % 6)) (dgN (cnN ln (A 52 1) (A 52 0) (A 52 2) (I 51 1) (A 52 3) (A 53) (A 57) (A 59) (fun k => A 52 (124 * (1 + k) + 0))) 17 11) (6 * ln)) k)), none, some (.int (nI (k + 1))), z] ∧ h = HX I A J B F) (3) (fun k L h hk_k hi_k ih_k => ?_) (fun L h hi_k => ?_) (0) _ _ (by omega) (⟨_, rfl, rfl⟩)
          · obtain ⟨z, rfl, rfl⟩ := hi_k
            refine q_iload_n rfl rfl ?_
            refine q_iconst (v := nI 4) rfl rfl ?_
            refine q_icmp_geN rfl (by omega) (by omega) (fun hcks74 => ?_) (fun hcks74 => ?_)
            · omega
            · refine q_ldc2_w (v := 31) rfl rfl ?_
              refine q_lload_n rfl rfl ?_
              refine q_lmul rfl ?_
              refine q_aload_n rfl rfl ?_
              refine q_getfield rfl hx_51 rfl ?_
              refine q_bipush (v := nI 124) rfl rfl ?_
              refine q_iload_n rfl rfl ?_
              refine q_imulN rfl ?_
              refine q_iconst (v := nI 0) rfl rfl ?_
              refine q_iaddN rfl ?_
              refine q_iald rfl (by decide) hx_52 (by omega) (by decide) (rfl) ?_
              refine q_i2l rfl ?_
              refine q_ladd rfl ?_
              refine q_lstore_n (L' := [_, _, _, _, _]) rfl rfl ?_
              refine q_iincN (c := 1) (L' := [_, _, _, _, _]) rfl rfl rfl rfl ?_
              refine q_goto rfl ?_
              exact ih_k _ _ (⟨_, rfl, rfl⟩)
          · obtain ⟨z, rfl, rfl⟩ := hi_k
            refine q_iload_n rfl rfl ?_
            refine q_iconst (v := nI 4) rfl rfl ?_
            refine q_icmp_geN rfl (by omega) (by omega) (fun hckf74 => ?_) (fun hckf74 => ?_)
            · refine q_iconst (v := nI 0) rfl rfl ?_
              refine q_istore_n (L' := [_, _, _, _, _]) rfl rfl ?_
              refine q_up (Inv := fun r L h => ∃ z, L = [some (.ref 51), some (.long ((dgM (A 57) (fun r x => A 58 (40 * r + x)) (dgN (fun k => A 52 (124 * (k + 1) + 0)) (dgN (fun k => fact b (mL A (k / 6)) s m (k % 6)) (dgN (cnN ln (A 52 1) (A 52 0) (A 52 2) (I 51 1) (A 52 3) (A 53) (A 57) (A 59) (fun k => A 52 (124 * (1 + k) + 0))) 17 11) (6 * ln)) 3) r))), none, some (.int (nI r)), z] ∧ h = HX I A J B F) (6) (fun r L h hk_r hi_r ih_r => ?_) (fun L h hi_r => ?_) (0) _ _ (by omega) (⟨_, rfl, rfl⟩)
              · obtain ⟨z, rfl, rfl⟩ := hi_r
                refine q_iload_n rfl rfl ?_
                refine q_bipush (v := nI 6) rfl rfl ?_
                refine q_icmp_geN rfl (by omega) (by omega) (fun hcrs107 => ?_) (fun hcrs107 => ?_)
                · omega
                · rcases szr r (by omega) with hz | ⟨n, hn, hz⟩
                  · refine m_dgrow_M r (by omega) hz _ _ ?_
                    refine q_iincN (c := 1) (L' := [_, _, _, _, _]) rfl rfl rfl rfl ?_
                    refine q_goto rfl ?_
                    exact ih_r _ _ (⟨_, rfl, rfl⟩)
                  · refine m_dgrow_0 r (by omega) n hn hz _ _ ?_
                    refine q_iincN (c := 1) (L' := [_, _, _, _, _]) rfl rfl rfl rfl ?_
                    refine q_goto rfl ?_
                    exact ih_r _ _ (⟨_, rfl, rfl⟩)
              · obtain ⟨z, rfl, rfl⟩ := hi_r
                refine q_iload_n rfl rfl ?_
                refine q_bipush (v := nI 6) rfl rfl ?_
                refine q_icmp_geN rfl (by omega) (by omega) (fun hcrf107 => ?_) (fun hcrf107 => ?_)
                · refine q_iconst (v := nI 0) rfl rfl ?_
                  refine q_istore_n (L' := [_, _, _, _, _]) rfl rfl ?_
                  refine q_up (Inv := fun t L h => ∃ z, L = [some (.ref 51), some (.long ((dgM (A 59) (fun t x => A 60 (60 * t + x)) (dgM (A 57) (fun r x => A 58 (40 * r + x)) (dgN (fun k => A 52 (124 * (k + 1) + 0)) (dgN (fun k => fact b (mL A (k / 6)) s m (k % 6)) (dgN (cnN ln (A 52 1) (A 52 0) (A 52 2) (I 51 1) (A 52 3) (A 53) (A 57) (A 59) (fun k => A 52 (124 * (1 + k) + 0))) 17 11) (6 * ln)) 3) 6) t))), none, some (.int (nI t)), z] ∧ h = HX I A J B F) (4) (fun t L h hk_t hi_t ih_t => ?_) (fun L h hi_t => ?_) (0) _ _ (by omega) (⟨_, rfl, rfl⟩)
                  · obtain ⟨z, rfl, rfl⟩ := hi_t
                    refine q_iload_n rfl rfl ?_
                    refine q_iconst (v := nI 4) rfl rfl ?_
                    refine q_icmp_geN rfl (by omega) (by omega) (fun hcts174 => ?_) (fun hcts174 => ?_)
                    · omega
                    · rcases szt t (by omega) with hz | ⟨n, hn, hz⟩
                      · refine m_dgtxt_M t (by omega) hz _ _ ?_
                        refine q_iincN (c := 1) (L' := [_, _, _, _, _]) rfl rfl rfl rfl ?_
                        refine q_goto rfl ?_
                        exact ih_t _ _ (⟨_, rfl, rfl⟩)
                      · refine m_dgtxt_0 t (by omega) n hn hz _ _ ?_
                        refine q_iincN (c := 1) (L' := [_, _, _, _, _]) rfl rfl rfl rfl ?_
                        refine q_goto rfl ?_
                        exact ih_t _ _ (⟨_, rfl, rfl⟩)
                  · obtain ⟨z, rfl, rfl⟩ := hi_t
                    refine q_iload_n rfl rfl ?_
                    refine q_iconst (v := nI 4) rfl rfl ?_
                    refine q_icmp_geN rfl (by omega) (by omega) (fun hctf174 => ?_) (fun hctf174 => ?_)
                    · refine q_lload_n rfl rfl ?_
                      refine q_lret rfl rfl ?_
                      exact ⟨rfl, rfl⟩
                    · omega
                · omega
            · omega
        · omega
    · omega
set_option maxHeartbeats 1000000 in
theorem op_36 {X : XX} : Op_36 X RelR := by
  intro I A J B F hr
  obtain ⟨ln, b, st, hL, hT, hK, hD, hN, hQ, hF, hU, hJ, hS⟩ := id hr
  obtain ⟨hln, hb, hst, eln, eln', eb, eb', e7, e7', hb1⟩ := id hD
  obtain ⟨d, hd, n1, q0, n2, n3, n9, q1, q2, q3, hp⟩ := id hN
  have hm : (rp st (A 9) d).1 ≤ 40 := Nat.le_trans (rp_1 st (A 9) d) hd
  have hs := rp_2 st (A 9) d
  have lks := RelK_lks hK
  have hl := RelK_hl hK
  have cLe := RelK_cL hK
  have h9 := m_asked (X := X) (I := I) (A := A) (J := J) (B := B) (F := F)
  rw [← show I 0 14 = I 51 12 from hU] at h9
  exact opI_mk (by decide) (by decide) (c_asked) (h9) (hr)
set_option maxHeartbeats 1000000 in
theorem op_37 {X : XX} : Op_37 X RelR := by
  intro I A J B F hr
  obtain ⟨ln, b, st, hL, hT, hK, hD, hN, hQ, hF, hU, hJ, hS⟩ := id hr
  obtain ⟨hln, hb, hst, eln, eln', eb, eb', e7, e7', hb1⟩ := id hD
  obtain ⟨d, hd, n1, q0, n2, n3, n9, q1, q2, q3, hp⟩ := id hN
  have hm : (rp st (A 9) d).1 ≤ 40 := Nat.le_trans (rp_1 st (A 9) d) hd
  have hs := rp_2 st (A 9) d
  have lks := RelK_lks hK
  have hl := RelK_hl hK
  have cLe := RelK_cL hK
  have h9 := m_upper (X := X) (I := I) (A := A) (J := J) (B := B) (F := F)
  rw [← show J 0 15 = J 51 13 from hJ.1] at h9
  exact opJ_mk (by decide) (by decide) (c_upper) (h9) (hr)
set_option maxHeartbeats 1000000 in
theorem op_38 {X : XX} : Op_38 X RelR := by
  intro I A J B F hr
  obtain ⟨ln, b, st, hL, hT, hK, hD, hN, hQ, hF, hU, hJ, hS⟩ := id hr
  obtain ⟨hln, hb, hst, eln, eln', eb, eb', e7, e7', hb1⟩ := id hD
  obtain ⟨d, hd, n1, q0, n2, n3, n9, q1, q2, q3, hp⟩ := id hN
  have hm : (rp st (A 9) d).1 ≤ 40 := Nat.le_trans (rp_1 st (A 9) d) hd
  have hs := rp_2 st (A 9) d
  have lks := RelK_lks hK
  have hl := RelK_hl hK
  have cLe := RelK_cL hK
  have h9 := m_lower (X := X) (I := I) (A := A) (J := J) (B := B) (F := F)
  rw [← show J 0 16 = J 51 14 from hJ.2] at h9
  exact opJ_mk (by decide) (by decide) (c_lower) (h9) (hr)
set_option maxHeartbeats 1000000 in
theorem op_40 {X : XX} : Op_40 X RelR := by
  intro I A J B F hr
  obtain ⟨ln, b, st, hL, hT, hK, hD, hN, hQ, hF, hU, hJ, hS⟩ := id hr
  obtain ⟨hln, hb, hst, eln, eln', eb, eb', e7, e7', hb1⟩ := id hD
  obtain ⟨d, hd, n1, q0, n2, n3, n9, q1, q2, q3, hp⟩ := id hN
  have hm : (rp st (A 9) d).1 ≤ 40 := Nat.le_trans (rp_1 st (A 9) d) hd
  have hs := rp_2 st (A 9) d
  have lks := RelK_lks hK
  have hl := RelK_hl hK
  have cLe := RelK_cL hK
  have h9 := m_finding (X := X) (I := I) (A := A) (J := J) (B := B) (F := F)
  rw [← show I 0 13 = I 51 15 from hF.1] at h9
  exact opI_mk (by decide) (by decide) (c_finding) (h9) (hr)
set_option maxHeartbeats 1000000 in
theorem op_41 {X : XX} : Op_41 X RelR := by
  intro y I A J B F hr
  obtain ⟨ln, b, st, hL, hT, hK, hD, hN, hQ, hF, hU, hJ, hS⟩ := id hr
  obtain ⟨hln, hb, hst, eln, eln', eb, eb', e7, e7', hb1⟩ := id hD
  obtain ⟨d, hd, n1, q0, n2, n3, n9, q1, q2, q3, hp⟩ := id hN
  have hm : (rp st (A 9) d).1 ≤ 40 := Nat.le_trans (rp_1 st (A 9) d) hd
  have hs := rp_2 st (A 9) d
  have lks := RelK_lks hK
  have hl := RelK_hl hK
  have cLe := RelK_cL hK
  by_cases y1 : y < nI 1
  · exact opI_mk (by decide) (by decide) (c_findings_bad y (Or.inl y1)) (m_findings_bad y (Or.inl y1)) (hr)
  by_cases y5 : nI 5 < y
  · exact opI_mk (by decide) (by decide) (c_findings_bad y (Or.inr y5)) (m_findings_bad y (Or.inr y5)) (hr)
  obtain ⟨n, hn5, rfl⟩ := nI_of2 (M := nI 5) (n := 5) rfl (fun z => y1 (Int32.lt_trans z (by decide))) (Int32.not_lt.mp y5)
  have hn1 : 1 ≤ n := by
    rw [nI_ltI (by omega) (by omega)] at y1
    omega
  have h9 := m_findings_0 (X := X) (I := I) (A := A) (J := J) (B := B) (F := F) n hn1 hn5
  rw [← hF.2 n (by omega)] at h9
  exact opI_mk (by decide) (by decide) (c_findings_0 n hn1 hn5) (h9) (hr)
theorem cn_eq {st ln b : Nat} {I A : Nat → Nat → Int32} (hL : RelL I A) (hT : RelT I A) (hK : RelK I A) (hD : RelD ln b st I) (hN : RelN st 8 0 I A) (hQ : RelQ st I A) : (cnN ln (I 8 2) (I 8 1) (I 8 3) (I 7 0) (I 8 4) (fun i => I (40 + i) 0) (fun k => I (20 + 2 * k) 1) (fun k => I (20 + 2 * (6 + k)) 1) (fun k => I (45 + 2 * k) 1)) = (cnN ln (A 52 1) (A 52 0) (A 52 2) (I 51 1) (A 52 3) (A 53) (A 57) (A 59) (fun k => A 52 (124 * (1 + k) + 0))) := by
  obtain ⟨hln, hb, hst, eln, eln', eb, eb', e7, e7', hb1⟩ := hD
  obtain ⟨d, hd, n1, q0, n2, n3, n9, q1, q2, q3, hp⟩ := hN
  refine cnN_congr (n2.trans q1.symm) (n1.trans q0.symm) (n3.trans q2.symm) (eb.trans eb'.symm) (n9.trans q3.symm) (fun i hi => (hK i (by omega)).1) (fun i hi => (hL i hi).1) (fun i hi => (hT i hi).1) (fun i hi => ?_)
  show I (45 + 2 * i) 1 = A 52 (124 * (1 + i) + 0)
  rw [show 124 * (1 + i) + 0 = 124 + 124 * i by omega]
  rcases hQ i hi with ⟨h1, h2⟩ | ⟨d', hd', h1, h2, _⟩
  · rw [h1, h2]
  · rw [h1, h2]
set_option maxHeartbeats 1000000 in
theorem op_39 {X : XX} : Op_39 X RelR := by
  intro y I A J B F hr
  obtain ⟨ln, b, st, hL, hT, hK, hD, hN, hQ, hF, hU, hJ, hS⟩ := id hr
  obtain ⟨hln, hb, hst, eln, eln', eb, eb', e7, e7', hb1⟩ := id hD
  obtain ⟨d, hd, n1, q0, n2, n3, n9, q1, q2, q3, hp⟩ := id hN
  have hm : (rp st (A 9) d).1 ≤ 40 := Nat.le_trans (rp_1 st (A 9) d) hd
  have hs := rp_2 st (A 9) d
  have lks := RelK_lks hK
  have hl := RelK_hl hK
  have cLe := RelK_cL hK
  have ecn := cn_eq hL hT hK hD hN hQ
  rcases ix3 y 11 (by first | decide | omega) with h | h | ⟨K_, h, rfl⟩
  · exact opI_mk (by decide) (by decide) (c_count_bad y (Or.inl h)) (m_count_bad y (Or.inl h)) (hr)
  · exact opI_mk (by decide) (by decide) (c_count_bad y (Or.inr h)) (m_count_bad y (Or.inr h)) (hr)
  · have h9 := c_count_0 (X := X) (A := A) (J := J) (B := B) (F := F) ln hln eln lks K_ h
    rw [ecn] at h9
    exact opI_mk (by decide) (by decide) (h9) (m_count_0 ln hln (by exact eln') K_ h) (hr)
set_option maxHeartbeats 1000000 in
theorem op_42 {X : XX} : Op_42 X RelR := by
  intro I A J B F hr
  obtain ⟨ln, b, st, hL, hT, hK, hD, hN, hQ, hF, hU, hJ, hS⟩ := id hr
  obtain ⟨hln, hb, hst, eln, eln', eb, eb', e7, e7', hb1⟩ := id hD
  obtain ⟨d, hd, n1, q0, n2, n3, n9, q1, q2, q3, hp⟩ := id hN
  have hm : (rp st (A 9) d).1 ≤ 40 := Nat.le_trans (rp_1 st (A 9) d) hd
  have hs := rp_2 st (A 9) d
  have lks := RelK_lks hK
  have hl := RelK_hl hK
  have cLe := RelK_cL hK
  have ecn := cn_eq hL hT hK hD hN hQ
  have h9 := c_digest (X := X) (I := I) (A := A) (J := J) (B := B) (F := F) b hb eb (rp st (A 9) d).1 n2 hm (rp st (A 9) d).2.1 n3 hs ln hln eln lks (fun r hr9 => by rw [(hL r hr9).1]; exact (hL r hr9).2.1) (fun t ht9 => by rw [(hT t ht9).1]; exact (hT t ht9).2.1)
  have e3 : dgN (fun k => I (45 + 2 * k) 1) = dgN (fun k => I (45 + 2 * k) 1) := rfl
  rw [ecn, dgL_congr (g := fun i => fact b (mL A i) (rp st (A 9) d).2.1 (rp st (A 9) d).1) (fun i hi => by rw [cLe i (by omega)]), ← dgL_flat, dgN_congr (f := fun k => I (45 + 2 * k) 1) (g := fun k => A 52 (124 * (k + 1) + 0)) (fun i hi => ?e1), dgM_congr (m := 40) (z' := A 57) (f' := fun r x => A 58 (40 * r + x)) (by decide) (fun r hr9 => (hL r hr9).1) (fun r hr9 => ⟨(hL r hr9).2.1, (hL r hr9).2.2⟩), dgM_congr (m := 60) (z' := A 59) (f' := fun r x => A 60 (60 * r + x)) (by decide) (fun r hr9 => (hT r hr9).1) (fun r hr9 => ⟨(hT r hr9).2.1, fun x hx => ((hT r hr9).2.2 x hx).1⟩)] at h9
  · exact opJ_mk (by decide) (by decide) (h9) (m_digest b hb (by exact eb') (rp st (A 9) d).1 (by exact q1) hm (rp st (A 9) d).2.1 (by exact q2) hs (by exact hl) ln hln (by exact eln') (fun r hr9 => (hL r hr9).2.1) (fun t ht9 => (hT t ht9).2.1)) (hr)
  · rw [show 124 * (i + 1) + 0 = 124 + 124 * i by omega]
    rcases hQ i hi with ⟨h1, h2⟩ | ⟨d', hd', h1, h2, _⟩
    · rw [h1, h2]
    · rw [h1, h2]
