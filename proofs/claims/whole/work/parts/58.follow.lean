theorem jF_lt {f : Nat → Nat} {v : Nat} (n a i : Nat) (h0 : a ≤ i) (h1 : i < jF f v n a) : f i ≠ v := by
  induction n generalizing a with
  | zero => exact absurd (show i < a from h1) (by omega)
  | succ n ih =>
    have h2 : i < (if f a = v then a else jF f v n (a + 1)) := h1
    by_cases e : f a = v
    · rw [if_pos e] at h2
      omega
    · rw [if_neg e] at h2
      by_cases e2 : i = a
      · subst e2
        exact e
      · exact ih (a + 1) (by omega) h2
def wM (q : Nat) (js : Nat → Nat) (g0 : Nat → Int32) : Nat → (Nat → Int32)
  | 0 => g0
  | k + 1 => upd (wM q js g0 k) (40 * q + k) (sI 6 (js k))
set_option maxHeartbeats 1000000 in
theorem m_follow_0 {X : XX} {I A : Nat → Nat → Int32} {J B : Nat → Nat → Int64} {F : Nat → Nat} (b : Nat) (hb : b ≤ 5) (eb : I 51 1 = nI b) (m : Nat) (em : A 52 1 = nI m) (hm : m ≤ 40) (s : Nat) (es : A 52 2 = nI s) (hs : s < 24) (st : Nat) (hst : st < 24) (est : I 51 2 = nI st) (ln : Nat) (hln : ln ≤ 5) (eln : I 51 3 = nI ln) (hl : mLk A) (k0 : Nat) (hk : k0 < ln) (n : Nat) (n1 : 1 ≤ n) (n8 : n ≤ 8) (q : Nat) (hq : q < 6) (hfin : (dpR 100000 (fun i f => gnN b (mL A k0) (nI f) (m + i)) (cN 0 st) n n s) < 100000) : ∃ e4 g, x_ev X xT 6 216 [.ref 51, .int (nI k0), .int (nI n), .int (nI q)] (HX I A J B F) (some (.int (nI (dpR 100000 (fun i f => gnN b (mL A k0) (nI f) (m + i)) (cN 0 st) n n s)))) (HX I (ua (ua (ua (ua A 64 e4) 63 g) 57 (upd (A 57) q (nI n))) 58 (wM q (fun k => (jT 100000 (fun i f => gnN b (mL A k0) (nI f) (m + i)) (cN 0 st) n k (sT 100000 (fun i f => gnN b (mL A k0) (nI f) (m + i)) (cN 0 st) n s k))) (f_fill (A 58) 0 (40 * q) 40) n)) J B F) ∧ True := by
  obtain ⟨e4, g, h8, hE, hG⟩ := sX9_layLeast (X := X) (I := I) (J := J) (B := B) (F := F) (A := A) b hb eb m em hm k0 (by omega) hl st hst est n 0 n1 n8 (by decide)
  obtain ⟨r_, h_, he_, e4, g, hr_, hh_, hf_⟩ := q_evx (X := X) (d := 5) (as := [.ref 51, .int (nI k0), .int (nI n), .int (nI q)]) (h := (HX I A J B F)) (P := fun r_ h_ => ∃ e4 g, r_ = (some (.int (nI (dpR 100000 (fun i f => gnN b (mL A k0) (nI f) (m + i)) (cN 0 st) n n s)))) ∧ h_ = (HX I (ua (ua (ua (ua A 64 e4) 63 g) 57 (upd (A 57) q (nI n))) 58 (wM q (fun k => (jT 100000 (fun i f => gnN b (mL A k0) (nI f) (m + i)) (cN 0 st) n k (sT 100000 (fun i f => gnN b (mL A k0) (nI f) (m + i)) (cN 0 st) n s k))) (f_fill (A 58) 0 (40 * q) 40) n)) J B F) ∧ True) (L := [some (.ref 51), some (.int (nI k0)), some (.int (nI n)), some (.int (nI q)), none, none, none, none]) tX9_follow (Nat.le_of_ble_eq_true rfl) rfl (by
    refine q_aload_n rfl rfl ?_
    refine q_iload_n rfl rfl ?_
    refine q_callV1 rfl hx_51 (Nat.le_of_ble_eq_true rfl) (Nat.le_of_ble_eq_true rfl) (sX9_isLight_1 k0 ln hk hln eln) ?_
    refine q_if_eqN rfl (by omega) (fun hc5 => ?_) (fun hc5 => ?_)
    · exact absurd hc5 (by decide)
    · refine q_iload_n rfl rfl ?_
      refine q_i2l rfl ?_
      refine q_lconst (v := 1) rfl rfl ?_
      refine q_ldc2_w (v := 8) rfl rfl ?_
      refine q_callS3 rfl rfl (Nat.le_of_ble_eq_true rfl) (Nat.le_of_ble_eq_true rfl) (sX9_in _ _ _) ?_
      refine q_cn (f_in_1 (lo := nI 1) (hi := nI 8) rfl rfl (nI_nlt (by omega) (by omega)) (nI_nlt (by omega) (by omega))) ?_
      refine q_if_eqN rfl (by omega) (fun hc17 => ?_) (fun hc17 => ?_)
      · exact absurd hc17 (by decide)
      · refine q_iload_n rfl rfl ?_
        refine q_callS1 rfl rfl (Nat.le_of_ble_eq_true rfl) (Nat.le_of_ble_eq_true rfl) (sX9_isRow_1 q hq) ?_
        refine q_if_neN rfl (by omega) (fun hc24 => ?_) (fun hc24 => ?_)
        · refine q_aload_n rfl rfl ?_
          refine q_iload_n rfl rfl ?_
          refine q_iload_n rfl rfl ?_
          refine q_iconst (v := nI 0) rfl rfl ?_
          refine q_callV3 rfl hx_51 (Nat.le_of_ble_eq_true rfl) (Nat.le_of_ble_eq_true rfl) (h8) ?_
          refine q_aload_n rfl rfl ?_
          refine q_getfield rfl hx_51 rfl ?_
          refine q_iconst (v := nI 2) rfl rfl ?_
          refine q_iald rfl (by decide) hx_52 (by decide) (by decide) ((show ua (ua A 64 e4) 63 g 52 2 = nI s from es)) ?_
          refine q_istore (L' := [_, _, _, _, _, _, _, _]) rfl rfl ?_
          refine q_aload_n rfl rfl ?_
          refine q_getfield rfl hx_51 rfl ?_
          refine q_iload rfl rfl ?_
          refine q_iald rfl (by decide) hx_63 (by omega) (by decide) ((show ua (ua A 64 e4) 63 g 63 s = nI (dpR 100000 (fun i f => gnN b (mL A k0) (nI f) (m + i)) (cN 0 st) n n s) from by rw [ua_eq]; have h7 := hG n (Nat.le_refl _) (by omega) s hs; rw [Nat.sub_self, Nat.mul_zero, Nat.zero_add] at h7; exact h7)) ?_
          refine q_istore (L' := [_, _, _, _, _, _, _, _]) rfl rfl ?_
          refine q_iload rfl rfl ?_
          refine q_ldc (v := nI 100000) rfl rfl ?_
          refine q_icmp_ltN rfl (by omega) (by omega) (fun hc57 => ?_) (fun hc57 => ?_)
          · refine q_aload_n rfl rfl ?_
            refine q_iload_n rfl rfl ?_
            refine q_iload_n rfl rfl ?_
            refine q_callV2 rfl hx_51 (Nat.le_of_ble_eq_true rfl) (Nat.le_of_ble_eq_true rfl) (sX9_makeRow q hq _) ?_
            refine q_iconst (v := nI 0) rfl rfl ?_
            refine q_istore (L' := [_, _, _, _, _, _, _, _]) rfl rfl ?_
            refine q_up (Inv := fun k L h => ∃ z7, L = [some (.ref 51), some (.int (nI k0)), some (.int (nI n)), some (.int (nI q)), some (.int (nI (sT 100000 (fun i f => gnN b (mL A k0) (nI f) (m + i)) (cN 0 st) n s k))), some (.int (nI (dpR 100000 (fun i f => gnN b (mL A k0) (nI f) (m + i)) (cN 0 st) n n s))), some (.int (nI k)), z7] ∧ h = HX I (ua (ua (ua (ua A 64 e4) 63 g) 57 (upd (A 57) q (nI n))) 58 (wM q (fun k => (jT 100000 (fun i f => gnN b (mL A k0) (nI f) (m + i)) (cN 0 st) n k (sT 100000 (fun i f => gnN b (mL A k0) (nI f) (m + i)) (cN 0 st) n s k))) (f_fill (A 58) 0 (40 * q) 40) k)) J B F) (n) (fun k L h hk_k hi_k ih_k => ?_) (fun L h hi_k => ?_) (0) _ _ (by omega) (⟨_, rfl, rfl⟩)
            · obtain ⟨z7, rfl, rfl⟩ := hi_k
              refine q_iload rfl rfl ?_
              refine q_iload_n rfl rfl ?_
              refine q_icmp_geN rfl (by omega) (by omega) (fun hcks75 => ?_) (fun hcks75 => ?_)
              · omega
              · refine q_bipush (v := (-6)) rfl rfl ?_
                refine q_istore (L' := [_, _, _, _, _, _, _, _]) rfl rfl ?_
                refine q_up (Inv := fun j L h => L = [some (.ref 51), some (.int (nI k0)), some (.int (nI n)), some (.int (nI q)), some (.int (nI (sT 100000 (fun i f => gnN b (mL A k0) (nI f) (m + i)) (cN 0 st) n s k))), some (.int (nI (dpR 100000 (fun i f => gnN b (mL A k0) (nI f) (m + i)) (cN 0 st) n n s))), some (.int (nI k)), some (.int (sI 6 j))] ∧ h = HX I (ua (ua (ua (ua A 64 e4) 63 g) 57 (upd (A 57) q (nI n))) 58 (wM q (fun k => (jT 100000 (fun i f => gnN b (mL A k0) (nI f) (m + i)) (cN 0 st) n k (sT 100000 (fun i f => gnN b (mL A k0) (nI f) (m + i)) (cN 0 st) n s k))) (f_fill (A 58) 0 (40 * q) 40) k)) J B F ∧ (sT 100000 (fun i f => gnN b (mL A k0) (nI f) (m + i)) (cN 0 st) n s k) < 24 ∧ (dpR 100000 (fun i f => gnN b (mL A k0) (nI f) (m + i)) (cN 0 st) n (n - k) (sT 100000 (fun i f => gnN b (mL A k0) (nI f) (m + i)) (cN 0 st) n s k)) < 100000 ∧ ∀ x, (dpR 100000 (fun i f => gnN b (mL A k0) (nI f) (m + i)) (cN 0 st) n (n - (k + 1)) x) ≤ 100000) ((jT 100000 (fun i f => gnN b (mL A k0) (nI f) (m + i)) (cN 0 st) n k (sT 100000 (fun i f => gnN b (mL A k0) (nI f) (m + i)) (cN 0 st) n s k))) (fun j L h hk_j hi_j ih_j => ?_) (fun L h hi_j => ?_) (0) _ _ (by omega) (⟨rfl, rfl, sT_lt hs k, (sT_fin (N := 100000) (by decide) hfin k (by omega)), fun x => dpR_le _ _⟩)
                · obtain ⟨rfl, rfl, hsk, hf9, hd9⟩ := hi_j
                  refine q_aload_n rfl rfl ?_
                  refine q_iload_n rfl rfl ?_
                  refine q_iload rfl rfl ?_
                  refine q_iload rfl rfl ?_
                  refine q_iload rfl rfl ?_
                  refine q_iconst (v := nI 0) rfl rfl ?_
                  refine q_callV5 rfl hx_51 (Nat.le_of_ble_eq_true rfl) (Nat.le_of_ble_eq_true rfl) (sX9_onBy b hb (by exact eb) m (by exact em) hm k0 (by omega) (by exact hl) st (by exact hE) k (sT 100000 (fun i f => gnN b (mL A k0) (nI f) (m + i)) (cN 0 st) n s k) j 0 ((dpR 100000 (fun i f => gnN b (mL A k0) (nI f) (m + i)) (cN 0 st) n (n - (k + 1)) (tN (sT 100000 (fun i f => gnN b (mL A k0) (nI f) (m + i)) (cN 0 st) n s k) j))) (by omega) (sT_lt hs k) (by have := jT_le (N := 100000) (g := (fun i f => gnN b (mL A k0) (nI f) (m + i))) (c := cN 0 st) (n := n) k (sT 100000 (fun i f => gnN b (mL A k0) (nI f) (m + i)) (cN 0 st) n s k); omega) (by decide) (by show g _ = _; have h7 := hG (n - (k + 1)) (by omega) (by omega) (tN (sT 100000 (fun i f => gnN b (mL A k0) (nI f) (m + i)) (cN 0 st) n s k) j) (tN_lt _ j); rw [show n - (n - (k + 1)) = k + 1 by omega] at h7; exact h7)) ?_
                  refine q_aload_n rfl rfl ?_
                  refine q_getfield rfl hx_51 rfl ?_
                  refine q_bipush (v := nI 24) rfl rfl ?_
                  refine q_iload rfl rfl ?_
                  refine q_imulN rfl ?_
                  refine q_iload rfl rfl ?_
                  refine q_iaddN rfl ?_
                  refine q_iald rfl (by decide) hx_63 (by omega) (by decide) ((show g (24 * k + (sT 100000 (fun i f => gnN b (mL A k0) (nI f) (m + i)) (cN 0 st) n s k)) = nI (dpR 100000 (fun i f => gnN b (mL A k0) (nI f) (m + i)) (cN 0 st) n (n - k) (sT 100000 (fun i f => gnN b (mL A k0) (nI f) (m + i)) (cN 0 st) n s k)) from by have h7 := hG (n - k) (by omega) (by omega) (sT 100000 (fun i f => gnN b (mL A k0) (nI f) (m + i)) (cN 0 st) n s k) (sT_lt hs k); rw [show n - (n - k) = k by omega] at h7; exact h7)) ?_
                  refine q_icmp_eqN rfl (by have := lBk_le (N := 100000) (g := (fun i f => gnN b (mL A k0) (nI f) (m + i))) (c := cN 0 st) (k := k) (s := (sT 100000 (fun i f => gnN b (mL A k0) (nI f) (m + i)) (cN 0 st) n s k)) (j := j) (D := (dpR 100000 (fun i f => gnN b (mL A k0) (nI f) (m + i)) (cN 0 st) n (n - (k + 1)))) (cN_le 0 st (sT 100000 (fun i f => gnN b (mL A k0) (nI f) (m + i)) (cN 0 st) n s k) _ (by have := jT_le (N := 100000) (g := (fun i f => gnN b (mL A k0) (nI f) (m + i))) (c := cN 0 st) (n := n) k (sT 100000 (fun i f => gnN b (mL A k0) (nI f) (m + i)) (cN 0 st) n s k); omega)) (hd9 _); refine Nat.lt_of_le_of_lt (show _ ≤ 100010 from this) (by decide)) (by omega) (fun hcjs107 => ?_) (fun hcjs107 => ?_)
                  · exact False.elim ((jF_lt (f := lBk 100000 (fun i f => gnN b (mL A k0) (nI f) (m + i)) (cN 0 st) ((dpR 100000 (fun i f => gnN b (mL A k0) (nI f) (m + i)) (cN 0 st) n (n - (k + 1)))) k (sT 100000 (fun i f => gnN b (mL A k0) (nI f) (m + i)) (cN 0 st) n s k)) (v := (dpR 100000 (fun i f => gnN b (mL A k0) (nI f) (m + i)) (cN 0 st) n (n - k) (sT 100000 (fun i f => gnN b (mL A k0) (nI f) (m + i)) (cN 0 st) n s k))) 12 0 j (by omega) hk_j) hcjs107)
                  · refine q_iinc (v := sI 6 (j + 1)) (L' := [_, _, _, _, _, _, _, _]) rfl rfl (sI_inc 6 j) rfl ?_
                    refine q_goto rfl ?_
                    exact ih_j _ _ (⟨rfl, rfl, hsk, hf9, hd9⟩)
                · obtain ⟨rfl, rfl, hsk, hf9, hd9⟩ := hi_j
                  refine q_aload_n rfl rfl ?_
                  refine q_iload_n rfl rfl ?_
                  refine q_iload rfl rfl ?_
                  refine q_iload rfl rfl ?_
                  refine q_iload rfl rfl ?_
                  refine q_iconst (v := nI 0) rfl rfl ?_
                  refine q_callV5 rfl hx_51 (Nat.le_of_ble_eq_true rfl) (Nat.le_of_ble_eq_true rfl) (sX9_onBy b hb (by exact eb) m (by exact em) hm k0 (by omega) (by exact hl) st (by exact hE) k (sT 100000 (fun i f => gnN b (mL A k0) (nI f) (m + i)) (cN 0 st) n s k) (jT 100000 (fun i f => gnN b (mL A k0) (nI f) (m + i)) (cN 0 st) n k (sT 100000 (fun i f => gnN b (mL A k0) (nI f) (m + i)) (cN 0 st) n s k)) 0 ((dpR 100000 (fun i f => gnN b (mL A k0) (nI f) (m + i)) (cN 0 st) n (n - (k + 1)) (tN (sT 100000 (fun i f => gnN b (mL A k0) (nI f) (m + i)) (cN 0 st) n s k) (jT 100000 (fun i f => gnN b (mL A k0) (nI f) (m + i)) (cN 0 st) n k (sT 100000 (fun i f => gnN b (mL A k0) (nI f) (m + i)) (cN 0 st) n s k))))) (by omega) (sT_lt hs k) (by have := jT_le (N := 100000) (g := (fun i f => gnN b (mL A k0) (nI f) (m + i))) (c := cN 0 st) (n := n) k (sT 100000 (fun i f => gnN b (mL A k0) (nI f) (m + i)) (cN 0 st) n s k); omega) (by decide) (by show g _ = _; have h7 := hG (n - (k + 1)) (by omega) (by omega) (tN (sT 100000 (fun i f => gnN b (mL A k0) (nI f) (m + i)) (cN 0 st) n s k) (jT 100000 (fun i f => gnN b (mL A k0) (nI f) (m + i)) (cN 0 st) n k (sT 100000 (fun i f => gnN b (mL A k0) (nI f) (m + i)) (cN 0 st) n s k))) (tN_lt _ _); rw [show n - (n - (k + 1)) = k + 1 by omega] at h7; exact h7)) ?_
                  refine q_aload_n rfl rfl ?_
                  refine q_getfield rfl hx_51 rfl ?_
                  refine q_bipush (v := nI 24) rfl rfl ?_
                  refine q_iload rfl rfl ?_
                  refine q_imulN rfl ?_
                  refine q_iload rfl rfl ?_
                  refine q_iaddN rfl ?_
                  refine q_iald rfl (by decide) hx_63 (by omega) (by decide) ((show g (24 * k + (sT 100000 (fun i f => gnN b (mL A k0) (nI f) (m + i)) (cN 0 st) n s k)) = nI (dpR 100000 (fun i f => gnN b (mL A k0) (nI f) (m + i)) (cN 0 st) n (n - k) (sT 100000 (fun i f => gnN b (mL A k0) (nI f) (m + i)) (cN 0 st) n s k)) from by have h7 := hG (n - k) (by omega) (by omega) (sT 100000 (fun i f => gnN b (mL A k0) (nI f) (m + i)) (cN 0 st) n s k) (sT_lt hs k); rw [show n - (n - k) = k by omega] at h7; exact h7)) ?_
                  refine q_icmp_eqN rfl (by have := lBk_le (N := 100000) (g := (fun i f => gnN b (mL A k0) (nI f) (m + i))) (c := cN 0 st) (k := k) (s := (sT 100000 (fun i f => gnN b (mL A k0) (nI f) (m + i)) (cN 0 st) n s k)) (j := (jT 100000 (fun i f => gnN b (mL A k0) (nI f) (m + i)) (cN 0 st) n k (sT 100000 (fun i f => gnN b (mL A k0) (nI f) (m + i)) (cN 0 st) n s k))) (D := (dpR 100000 (fun i f => gnN b (mL A k0) (nI f) (m + i)) (cN 0 st) n (n - (k + 1)))) (cN_le 0 st (sT 100000 (fun i f => gnN b (mL A k0) (nI f) (m + i)) (cN 0 st) n s k) _ (by have := jT_le (N := 100000) (g := (fun i f => gnN b (mL A k0) (nI f) (m + i))) (c := cN 0 st) (n := n) k (sT 100000 (fun i f => gnN b (mL A k0) (nI f) (m + i)) (cN 0 st) n s k); omega)) (hd9 _); refine Nat.lt_of_le_of_lt (show _ ≤ 100010 from this) (by decide)) (by omega) (fun hcjf107 => ?_) (fun hcjf107 => ?_)
                  · refine q_aload_n rfl rfl ?_
                    refine q_getfield rfl hx_51 rfl ?_
                    refine q_bipush (v := nI 40) rfl rfl ?_
                    refine q_iload_n rfl rfl ?_
                    refine q_imulN rfl ?_
                    refine q_iload rfl rfl ?_
                    refine q_iaddN rfl ?_
                    refine q_iload rfl rfl ?_
                    refine q_iastN rfl hx_58 (by omega) (by decide) ?_
                    refine q_heap (ha_58 _) ?_
                    refine q_iload rfl rfl ?_
                    refine q_iload rfl rfl ?_
                    refine q_iadd rfl ?_
                    refine q_callS1 rfl rfl (Nat.le_of_ble_eq_true rfl) (Nat.le_of_ble_eq_true rfl) (sX9_ring _) ?_
                    refine q_cn (show _ = nI (tN (sT 100000 (fun i f => gnN b (mL A k0) (nI f) (m + i)) (cN 0 st) n s k) (jT 100000 (fun i f => gnN b (mL A k0) (nI f) (m + i)) (cN 0 st) n k (sT 100000 (fun i f => gnN b (mL A k0) (nI f) (m + i)) (cN 0 st) n s k))) by rw [rdN_t (sT_lt hs k) (by have := jT_le (N := 100000) (g := (fun i f => gnN b (mL A k0) (nI f) (m + i))) (c := cN 0 st) (n := n) k (sT 100000 (fun i f => gnN b (mL A k0) (nI f) (m + i)) (cN 0 st) n s k); omega)]) ?_
                    refine q_istore (L' := [_, _, _, _, _, _, _, _]) rfl rfl ?_
                    refine q_iincN (c := 1) (L' := [_, _, _, _, _, _, _, _]) rfl rfl rfl rfl ?_
                    refine q_goto rfl ?_
                    exact ih_k _ _ (⟨_, rfl, by rw [ua_ua, ua_eq]; rfl⟩)
                  · exact absurd (jT_at hk_k (sT_fin (N := 100000) (by decide) hfin k (by omega))) hcjf107
            · obtain ⟨z7, rfl, rfl⟩ := hi_k
              refine q_iload rfl rfl ?_
              refine q_iload_n rfl rfl ?_
              refine q_icmp_geN rfl (by omega) (by omega) (fun hckf75 => ?_) (fun hckf75 => ?_)
              · refine q_iload rfl rfl ?_
                refine q_iret rfl rfl ?_
                exact ⟨e4, g, rfl, rfl, trivial⟩
              · omega
          · omega
        · exact absurd hc24 (by decide))
  subst hr_
  subst hh_
  exact ⟨e4, g, he_, hf_⟩
theorem nI_m9 {x : Nat} (h : x < 2 ^ 31) : ¬ nI x = -9 := by
  intro z
  have z2 := congrArg Int32.toInt z
  rw [nI_toInt h] at z2
  have : (-9 : Int32).toInt = -9 := by decide
  omega
theorem RelL_row {I A A' : Nat → Nat → Int32} {q n : Nat} {gc gm : Nat → Int32} (hq : q < 6) (hn : n ≤ 40) (h57 : A' 57 = upd (A 57) q (nI n)) (h58 : A' 58 = gm) (hc : A' (21 + 2 * q) = gc) (ho : ∀ p, p < 6 → p ≠ q → A' (21 + 2 * p) = A (21 + 2 * p)) (h1 : ∀ k, k < 40 → gc k = gm (40 * q + k)) (h2 : ∀ x, x < 40 * q ∨ 40 * q + 40 ≤ x → gm x = A 58 x) (hr : RelL I A) : RelL (u2 I (20 + 2 * q) 1 (nI n)) A' := by
  intro p hp
  rw [h57, h58]
  by_cases h : p = q
  · subst h
    rw [u2_eq, pk_us, hc]
    exact ⟨rfl, Or.inr ⟨n, hn, rfl⟩, h1⟩
  · rw [u2_ne (by omega), pk_un h, ho p hp h]
    refine ⟨(hr p hp).1, (hr p hp).2.1, fun k hk => ?_⟩
    rw [h2 _ (by omega)]
    exact (hr p hp).2.2 k hk
theorem wT_wM {q : Nat} {js js' : Nat → Nat} {g0 G0 : Nat → Int32} (h0 : ∀ k, k < 40 → g0 k = G0 (40 * q + k)) (n : Nat) (hj : ∀ k, k < n → js k = js' k) : ∀ k, k < 40 → wT js g0 n k = wM q js' G0 n (40 * q + k) := by
  induction n with
  | zero => exact h0
  | succ n ih =>
    intro k hk
    show upd (wT js g0 n) n (sI 6 (js n)) k = upd (wM q js' G0 n) (40 * q + n) (sI 6 (js' n)) (40 * q + k)
    by_cases e : k = n
    · subst e
      rw [pk_us, pk_us, hj k (by omega)]
    · rw [pk_un e, pk_un (by omega)]
      exact ih (fun k hk => hj k (by omega)) k hk
theorem wM_out {q : Nat} {js : Nat → Nat} {G0 : Nat → Int32} {x : Nat} (n : Nat) (hn : n ≤ 40) (h : x < 40 * q ∨ 40 * q + 40 ≤ x) : wM q js G0 n x = G0 x := by
  induction n with
  | zero => rfl
  | succ n ih =>
    show upd (wM q js G0 n) (40 * q + n) (sI 6 (js n)) x = G0 x
    rw [pk_un (by omega)]
    exact ih (by omega)
theorem c_follow_bb {X : XX} {I A : Nat → Nat → Int32} {J B : Nat → Nat → Int64} {F : Nat → Nat} (x : Int32) (hx : x < 0 ∨ I 0 12 ≤ x) (y : Int32) (hy : y < 0 ∨ 6 ≤ y) (z : Int32)  : x_ev X xT 6 103 [.ref 0, .int x, .int z, .int y] (HX I A J B F) (some (.int (-1))) (HX I A J B F) := by
  refine q_ev (L := [some (.ref 0), some (.int x), some (.int z), some (.int y), none, none, none]) tX8_follow (Nat.le_of_ble_eq_true rfl) rfl ?_
  refine q_aload_n rfl rfl ?_
  refine q_iload_n rfl rfl ?_
  refine q_callV1 rfl hx_0 (Nat.le_of_ble_eq_true rfl) (Nat.le_of_ble_eq_true rfl) (sX8_lightAtN x hx) ?_
  refine q_astoreN (L' := [_, _, _, _, _, _, _]) rfl rfl ?_
  refine q_aload_n rfl rfl ?_
  refine q_getfield rfl hx_0 rfl ?_
  refine q_iload_n rfl rfl ?_
  refine q_callS2 rfl rfl (Nat.le_of_ble_eq_true rfl) (Nat.le_of_ble_eq_true rfl) (sX8_lineAt_rowN y hy) ?_
  refine q_astoreN (L' := [_, _, _, _, _, _, _]) rfl rfl ?_
  refine q_aloadN rfl rfl ?_
  refine q_ifnullN rfl ?_
  refine q_iconst (v := (-1)) rfl rfl ?_
  refine q_iret rfl rfl ?_
  exact ⟨rfl, rfl⟩
theorem c_follow_bo {X : XX} {I A : Nat → Nat → Int32} {J B : Nat → Nat → Int64} {F : Nat → Nat} (x : Int32) (hx : x < 0 ∨ I 0 12 ≤ x) (q : Nat) (hr : q < 6) (z : Int32)  : x_ev X xT 6 103 [.ref 0, .int x, .int z, .int (nI q)] (HX I A J B F) (some (.int (-1))) (HX I A J B F) := by
  refine q_ev (L := [some (.ref 0), some (.int x), some (.int z), some (.int (nI q)), none, none, none]) tX8_follow (Nat.le_of_ble_eq_true rfl) rfl ?_
  refine q_aload_n rfl rfl ?_
  refine q_iload_n rfl rfl ?_
  refine q_callV1 rfl hx_0 (Nat.le_of_ble_eq_true rfl) (Nat.le_of_ble_eq_true rfl) (sX8_lightAtN x hx) ?_
  refine q_astoreN (L' := [_, _, _, _, _, _, _]) rfl rfl ?_
  refine q_aload_n rfl rfl ?_
  refine q_getfield rfl hx_0 rfl ?_
  refine q_iload_n rfl rfl ?_
  refine q_callS2 rfl rfl (Nat.le_of_ble_eq_true rfl) (Nat.le_of_ble_eq_true rfl) (sX8_lineAt_row q hr) ?_
  refine q_astore (L' := [_, _, _, _, _, _, _]) rfl rfl ?_
  refine q_aloadN rfl rfl ?_
  refine q_ifnullN rfl ?_
  refine q_iconst (v := (-1)) rfl rfl ?_
  refine q_iret rfl rfl ?_
  exact ⟨rfl, rfl⟩
theorem c_follow_ob {X : XX} {I A : Nat → Nat → Int32} {J B : Nat → Nat → Int64} {F : Nat → Nat} (ln : Nat) (hln : ln ≤ 5) (eln : I 0 12 = nI ln) (k : Nat) (hk : k < ln) (y : Int32) (hy : y < 0 ∨ 6 ≤ y) (z : Int32)  : x_ev X xT 6 103 [.ref 0, .int (nI k), .int z, .int y] (HX I A J B F) (some (.int (-1))) (HX I A J B F) := by
  refine q_ev (L := [some (.ref 0), some (.int (nI k)), some (.int z), some (.int y), none, none, none]) tX8_follow (Nat.le_of_ble_eq_true rfl) rfl ?_
  refine q_aload_n rfl rfl ?_
  refine q_iload_n rfl rfl ?_
  refine q_callV1 rfl hx_0 (Nat.le_of_ble_eq_true rfl) (Nat.le_of_ble_eq_true rfl) (sX8_lightAt k ln hk hln eln) ?_
  refine q_astore (L' := [_, _, _, _, _, _, _]) rfl rfl ?_
  refine q_aload_n rfl rfl ?_
  refine q_getfield rfl hx_0 rfl ?_
  refine q_iload_n rfl rfl ?_
  refine q_callS2 rfl rfl (Nat.le_of_ble_eq_true rfl) (Nat.le_of_ble_eq_true rfl) (sX8_lineAt_rowN y hy) ?_
  refine q_astoreN (L' := [_, _, _, _, _, _, _]) rfl rfl ?_
  refine q_aload rfl rfl ?_
  refine q_ifnull rfl ?_
  refine q_aloadN rfl rfl ?_
  refine q_ifnullN rfl ?_
  refine q_iconst (v := (-1)) rfl rfl ?_
  refine q_iret rfl rfl ?_
  exact ⟨rfl, rfl⟩
theorem c_follow_n {X : XX} {I A : Nat → Nat → Int32} {J B : Nat → Nat → Int64} {F : Nat → Nat} (ln : Nat) (hln : ln ≤ 5) (eln : I 0 12 = nI ln) (k : Nat) (hk : k < ln) (q : Nat) (hr : q < 6) (y : Int32) (hy : y < nI 1 ∨ nI 8 < y) : x_ev X xT 6 103 [.ref 0, .int (nI k), .int y, .int (nI q)] (HX I A J B F) (some (.int (-1))) (HX I A J B F) := by
  refine q_ev (L := [some (.ref 0), some (.int (nI k)), some (.int y), some (.int (nI q)), none, none, none]) tX8_follow (Nat.le_of_ble_eq_true rfl) rfl ?_
  refine q_aload_n rfl rfl ?_
  refine q_iload_n rfl rfl ?_
  refine q_callV1 rfl hx_0 (Nat.le_of_ble_eq_true rfl) (Nat.le_of_ble_eq_true rfl) (sX8_lightAt k ln hk hln eln) ?_
  refine q_astore (L' := [_, _, _, _, _, _, _]) rfl rfl ?_
  refine q_aload_n rfl rfl ?_
  refine q_getfield rfl hx_0 rfl ?_
  refine q_iload_n rfl rfl ?_
  refine q_callS2 rfl rfl (Nat.le_of_ble_eq_true rfl) (Nat.le_of_ble_eq_true rfl) (sX8_lineAt_row q hr) ?_
  refine q_astore (L' := [_, _, _, _, _, _, _]) rfl rfl ?_
  refine q_aload rfl rfl ?_
  refine q_ifnull rfl ?_
  refine q_aload rfl rfl ?_
  refine q_ifnull rfl ?_
  refine q_iload_n rfl rfl ?_
  refine q_callS1 rfl rfl (Nat.le_of_ble_eq_true rfl) (Nat.le_of_ble_eq_true rfl) (sK_nofX y hy) ?_
  refine q_if_eqN rfl (by omega) (fun hc31 => ?_) (fun hc31 => ?_)
  · exact absurd hc31 (by decide)
  · refine q_iconst (v := (-1)) rfl rfl ?_
    refine q_iret rfl rfl ?_
    exact ⟨rfl, rfl⟩
theorem c_follow_0 {X : XX} {I A : Nat → Nat → Int32} {J B : Nat → Nat → Int64} {F : Nat → Nat} (hS : RelS F) (b : Nat) (hb : b ≤ 5) (eb : I 7 0 = nI b) (m : Nat) (em : I 8 2 = nI m) (hm : m ≤ 40) (s : Nat) (es : I 8 3 = nI s) (hs : s < 24) (st : Nat) (hst : st < 24) (e7 : I 7 1 = nI st) (ln : Nat) (hln : ln ≤ 5) (eln : I 0 12 = nI ln) (lks : ∀ i, i < 5 → lkOK I (40 + i)) (k : Nat) (hk : k < ln) (q : Nat) (hr : q < 6) (n : Nat) (n1 : 1 ≤ n) (n8 : n ≤ 8) (hfin : (dpR 536870912 (fun i f => gnN b (cL I (40 + k)) (nI f) (m + i)) (cN 0 st) n n s) < 536870912)  : ∃ g1 g2, x_ev X xT 6 103 [.ref 0, .int (nI k), .int (nI n), .int (nI q)] (HX I A J B F) (some (.int (nI (dpR 536870912 (fun i f => gnN b (cL I (40 + k)) (nI f) (m + i)) (cN 0 st) n n s)))) (HX (u2 I (20 + 2 * q) 1 (nI n)) (ua (ua (ua A 12 g1) (F 0) g2) (21 + 2 * q) (wT (fun k_ => jT 536870912 (fun i f => gnN b (cL I (40 + k)) (nI f) (m + i)) (cN 0 st) n k_ (sT 536870912 (fun i f => gnN b (cL I (40 + k)) (nI f) (m + i)) (cN 0 st) n s k_)) (f_fill ((ua (ua A 12 g1) (F 0) g2) (21 + 2 * q)) 0 0 (rm q)) n)) J B F) ∧ True := by
  have hF9 := F_lt hS
  obtain ⟨g1, h7, hV⟩ := sX7_fill (X := X) (I := I) (J := J) (B := B) (F := F) (A := A) b hb eb k (by omega) (lks k (by omega)) m n (by omega) n8
  obtain ⟨g2, h8, hG⟩ := sX0_least (X := X) (I := I) (J := J) (B := B) (F := F) (A := ua A 12 g1) hS st hst e7 b m n (cL I (40 + k)) (lks k (by omega)).1.2 hV n8 n1 s 0 hs (by decide)
  obtain ⟨r_, h_, he_, g1, g2, hr_, hh_, hf_⟩ := q_evx (X := X) (d := 5) (as := [.ref 0, .int (nI k), .int (nI n), .int (nI q)]) (h := (HX I A J B F)) (P := fun r_ h_ => ∃ g1 g2, r_ = (some (.int (nI (dpR 536870912 (fun i f => gnN b (cL I (40 + k)) (nI f) (m + i)) (cN 0 st) n n s)))) ∧ h_ = (HX (u2 I (20 + 2 * q) 1 (nI n)) (ua (ua (ua A 12 g1) (F 0) g2) (21 + 2 * q) (wT (fun k_ => jT 536870912 (fun i f => gnN b (cL I (40 + k)) (nI f) (m + i)) (cN 0 st) n k_ (sT 536870912 (fun i f => gnN b (cL I (40 + k)) (nI f) (m + i)) (cN 0 st) n s k_)) (f_fill ((ua (ua A 12 g1) (F 0) g2) (21 + 2 * q)) 0 0 (rm q)) n)) J B F) ∧ True) (L := [some (.ref 0), some (.int (nI k)), some (.int (nI n)), some (.int (nI q)), none, none, none]) tX8_follow (Nat.le_of_ble_eq_true rfl) rfl (by
    refine q_aload_n rfl rfl ?_
    refine q_iload_n rfl rfl ?_
    refine q_callV1 rfl hx_0 (Nat.le_of_ble_eq_true rfl) (Nat.le_of_ble_eq_true rfl) (sX8_lightAt k ln hk hln eln) ?_
    refine q_astore (L' := [_, _, _, _, _, _, _]) rfl rfl ?_
    refine q_aload_n rfl rfl ?_
    refine q_getfield rfl hx_0 rfl ?_
    refine q_iload_n rfl rfl ?_
    refine q_callS2 rfl rfl (Nat.le_of_ble_eq_true rfl) (Nat.le_of_ble_eq_true rfl) (sX8_lineAt_row q hr) ?_
    refine q_astore (L' := [_, _, _, _, _, _, _]) rfl rfl ?_
    refine q_aload rfl rfl ?_
    refine q_ifnull rfl ?_
    refine q_aload rfl rfl ?_
    refine q_ifnull rfl ?_
    refine q_iload_n rfl rfl ?_
    refine q_callS1 rfl rfl (Nat.le_of_ble_eq_true rfl) (Nat.le_of_ble_eq_true rfl) (sK_nof0 n n1 n8) ?_
    refine q_if_eqN rfl (by omega) (fun hc31 => ?_) (fun hc31 => ?_)
    · refine q_aload_n rfl rfl ?_
      refine q_getfield rfl hx_0 rfl ?_
      refine q_aload rfl rfl ?_
      refine q_aload_n rfl rfl ?_
      refine q_getfield rfl hx_0 rfl ?_
      refine q_aload_n rfl rfl ?_
      refine q_getfield rfl hx_0 rfl ?_
      refine q_callV0 rfl hx_8 (Nat.le_of_ble_eq_true rfl) (Nat.le_of_ble_eq_true rfl) (sN_now em) ?_
      refine q_iload_n rfl rfl ?_
      refine q_callV4 rfl hx_11 (Nat.le_of_ble_eq_true rfl) (Nat.le_of_ble_eq_true rfl) (h7) ?_
      refine q_aload_n rfl rfl ?_
      refine q_getfield rfl hx_0 rfl ?_
      refine q_aload_n rfl rfl ?_
      refine q_getfield rfl hx_0 rfl ?_
      refine q_callV0 rfl hx_8 (Nat.le_of_ble_eq_true rfl) (Nat.le_of_ble_eq_true rfl) (sN_first es) ?_
      refine q_iload_n rfl rfl ?_
      refine q_iconst (v := nI 0) rfl rfl ?_
      refine q_callV3 rfl hx_13 (Nat.le_of_ble_eq_true rfl) (Nat.le_of_ble_eq_true rfl) (h8) ?_
      refine q_cn (if_pos hfin) ?_
      refine q_istore (L' := [_, _, _, _, _, _, _]) rfl rfl ?_
      refine q_iload rfl rfl ?_
      refine q_bipush (v := (-9)) rfl rfl ?_
      refine q_icmp_eq rfl (fun hc79 => ?_) (fun hc79 => ?_)
      · exact absurd hc79 (nI_m9 (by omega))
      · refine q_aload_n rfl rfl ?_
        refine q_getfield rfl hx_0 rfl ?_
        refine q_aload_n rfl rfl ?_
        refine q_getfield rfl hx_0 rfl ?_
        refine q_callV0 rfl hx_8 (Nat.le_of_ble_eq_true rfl) (Nat.le_of_ble_eq_true rfl) (sN_first es) ?_
        refine q_iload_n rfl rfl ?_
        refine q_aload rfl rfl ?_
        refine q_callV3 rfl hx_13 (Nat.le_of_ble_eq_true rfl) (Nat.le_of_ble_eq_true rfl) (sX0_writeTurns hS st hst e7 b m n (cL I (40 + k)) (lks k (by omega)).1.2 (GV_ua hF9.2.2.1 hV) n8 n1 s hs q hr (fun i hi f hf => by rw [ua_eq]; exact hG i hi (Nat.zero_le _) f hf) hfin) ?_
        refine q_iload rfl rfl ?_
        refine q_iret rfl rfl ?_
        exact ⟨g1, g2, rfl, rfl, trivial⟩
    · exact absurd hc31 (by decide))
  subst hr_
  subst hh_
  exact ⟨g1, g2, he_, hf_⟩
theorem c_follow_N {X : XX} {I A : Nat → Nat → Int32} {J B : Nat → Nat → Int64} {F : Nat → Nat} (hS : RelS F) (b : Nat) (hb : b ≤ 5) (eb : I 7 0 = nI b) (m : Nat) (em : I 8 2 = nI m) (hm : m ≤ 40) (s : Nat) (es : I 8 3 = nI s) (hs : s < 24) (st : Nat) (hst : st < 24) (e7 : I 7 1 = nI st) (ln : Nat) (hln : ln ≤ 5) (eln : I 0 12 = nI ln) (lks : ∀ i, i < 5 → lkOK I (40 + i)) (k : Nat) (hk : k < ln) (q : Nat) (hr : q < 6) (n : Nat) (n1 : 1 ≤ n) (n8 : n ≤ 8) (hfin : ¬ (dpR 536870912 (fun i f => gnN b (cL I (40 + k)) (nI f) (m + i)) (cN 0 st) n n s) < 536870912)  : ∃ g1 g2, x_ev X xT 6 103 [.ref 0, .int (nI k), .int (nI n), .int (nI q)] (HX I A J B F) (some (.int (-9))) (HX I (ua (ua A 12 g1) (F 0) g2) J B F) ∧ True := by
  have hF9 := F_lt hS
  obtain ⟨g1, h7, hV⟩ := sX7_fill (X := X) (I := I) (J := J) (B := B) (F := F) (A := A) b hb eb k (by omega) (lks k (by omega)) m n (by omega) n8
  obtain ⟨g2, h8, hG⟩ := sX0_least (X := X) (I := I) (J := J) (B := B) (F := F) (A := ua A 12 g1) hS st hst e7 b m n (cL I (40 + k)) (lks k (by omega)).1.2 hV n8 n1 s 0 hs (by decide)
  obtain ⟨r_, h_, he_, g1, g2, hr_, hh_, hf_⟩ := q_evx (X := X) (d := 5) (as := [.ref 0, .int (nI k), .int (nI n), .int (nI q)]) (h := (HX I A J B F)) (P := fun r_ h_ => ∃ g1 g2, r_ = (some (.int (-9))) ∧ h_ = (HX I (ua (ua A 12 g1) (F 0) g2) J B F) ∧ True) (L := [some (.ref 0), some (.int (nI k)), some (.int (nI n)), some (.int (nI q)), none, none, none]) tX8_follow (Nat.le_of_ble_eq_true rfl) rfl (by
    refine q_aload_n rfl rfl ?_
    refine q_iload_n rfl rfl ?_
    refine q_callV1 rfl hx_0 (Nat.le_of_ble_eq_true rfl) (Nat.le_of_ble_eq_true rfl) (sX8_lightAt k ln hk hln eln) ?_
    refine q_astore (L' := [_, _, _, _, _, _, _]) rfl rfl ?_
    refine q_aload_n rfl rfl ?_
    refine q_getfield rfl hx_0 rfl ?_
    refine q_iload_n rfl rfl ?_
    refine q_callS2 rfl rfl (Nat.le_of_ble_eq_true rfl) (Nat.le_of_ble_eq_true rfl) (sX8_lineAt_row q hr) ?_
    refine q_astore (L' := [_, _, _, _, _, _, _]) rfl rfl ?_
    refine q_aload rfl rfl ?_
    refine q_ifnull rfl ?_
    refine q_aload rfl rfl ?_
    refine q_ifnull rfl ?_
    refine q_iload_n rfl rfl ?_
    refine q_callS1 rfl rfl (Nat.le_of_ble_eq_true rfl) (Nat.le_of_ble_eq_true rfl) (sK_nof0 n n1 n8) ?_
    refine q_if_eqN rfl (by omega) (fun hc31 => ?_) (fun hc31 => ?_)
    · refine q_aload_n rfl rfl ?_
      refine q_getfield rfl hx_0 rfl ?_
      refine q_aload rfl rfl ?_
      refine q_aload_n rfl rfl ?_
      refine q_getfield rfl hx_0 rfl ?_
      refine q_aload_n rfl rfl ?_
      refine q_getfield rfl hx_0 rfl ?_
      refine q_callV0 rfl hx_8 (Nat.le_of_ble_eq_true rfl) (Nat.le_of_ble_eq_true rfl) (sN_now em) ?_
      refine q_iload_n rfl rfl ?_
      refine q_callV4 rfl hx_11 (Nat.le_of_ble_eq_true rfl) (Nat.le_of_ble_eq_true rfl) (h7) ?_
      refine q_aload_n rfl rfl ?_
      refine q_getfield rfl hx_0 rfl ?_
      refine q_aload_n rfl rfl ?_
      refine q_getfield rfl hx_0 rfl ?_
      refine q_callV0 rfl hx_8 (Nat.le_of_ble_eq_true rfl) (Nat.le_of_ble_eq_true rfl) (sN_first es) ?_
      refine q_iload_n rfl rfl ?_
      refine q_iconst (v := nI 0) rfl rfl ?_
      refine q_callV3 rfl hx_13 (Nat.le_of_ble_eq_true rfl) (Nat.le_of_ble_eq_true rfl) (h8) ?_
      refine q_cn (if_neg hfin) ?_
      refine q_istore (L' := [_, _, _, _, _, _, _]) rfl rfl ?_
      refine q_iload rfl rfl ?_
      refine q_bipush (v := (-9)) rfl rfl ?_
      refine q_icmp_eq rfl (fun hc79 => ?_) (fun hc79 => ?_)
      · refine q_iload rfl rfl ?_
        refine q_iret rfl rfl ?_
        exact ⟨g1, g2, rfl, rfl, trivial⟩
      · exact absurd rfl hc79
    · exact absurd hc31 (by decide))
  subst hr_
  subst hh_
  exact ⟨g1, g2, he_, hf_⟩
theorem m_follow_b {X : XX} {I A : Nat → Nat → Int32} {J B : Nat → Nat → Int64} {F : Nat → Nat} (ln : Nat) (hln : ln ≤ 5) (eln : I 51 3 = nI ln) (x : Int32) (hx : x < 0 ∨ nI ln ≤ x) (y z : Int32)  : x_ev X xT 6 216 [.ref 51, .int x, .int z, .int y] (HX I A J B F) (some (.int (-1))) (HX I A J B F) := by
  refine q_ev (L := [some (.ref 51), some (.int x), some (.int z), some (.int y), none, none, none, none]) tX9_follow (Nat.le_of_ble_eq_true rfl) rfl ?_
  refine q_aload_n rfl rfl ?_
  refine q_iload_n rfl rfl ?_
  refine q_callV1 rfl hx_51 (Nat.le_of_ble_eq_true rfl) (Nat.le_of_ble_eq_true rfl) (sX9_isLight_0 x ln hln eln hx) ?_
  refine q_if_eqN rfl (by omega) (fun hc5 => ?_) (fun hc5 => ?_)
  · refine q_iconst (v := (-1)) rfl rfl ?_
    refine q_iret rfl rfl ?_
    exact ⟨rfl, rfl⟩
  · exact absurd hc5 (by decide)
theorem m_follow_n {X : XX} {I A : Nat → Nat → Int32} {J B : Nat → Nat → Int64} {F : Nat → Nat} (ln : Nat) (hln : ln ≤ 5) (eln : I 51 3 = nI ln) (k : Nat) (hk : k < ln) (y z : Int32) (hy : z < nI 1 ∨ nI 8 < z) : x_ev X xT 6 216 [.ref 51, .int (nI k), .int z, .int y] (HX I A J B F) (some (.int (-1))) (HX I A J B F) := by
  refine q_ev (L := [some (.ref 51), some (.int (nI k)), some (.int z), some (.int y), none, none, none, none]) tX9_follow (Nat.le_of_ble_eq_true rfl) rfl ?_
  refine q_aload_n rfl rfl ?_
  refine q_iload_n rfl rfl ?_
  refine q_callV1 rfl hx_51 (Nat.le_of_ble_eq_true rfl) (Nat.le_of_ble_eq_true rfl) (sX9_isLight_1 k ln hk hln eln) ?_
  refine q_if_eqN rfl (by omega) (fun hc5 => ?_) (fun hc5 => ?_)
  · exact absurd hc5 (by decide)
  · refine q_iload_n rfl rfl ?_
    refine q_i2l rfl ?_
    refine q_lconst (v := 1) rfl rfl ?_
    refine q_ldc2_w (v := 8) rfl rfl ?_
    refine q_callS3 rfl rfl (Nat.le_of_ble_eq_true rfl) (Nat.le_of_ble_eq_true rfl) (sX9_in _ _ _) ?_
    refine q_cn (f_in_0 (lo := nI 1) (hi := nI 8) rfl rfl hy) ?_
    refine q_if_eqN rfl (by omega) (fun hc17 => ?_) (fun hc17 => ?_)
    · refine q_iconst (v := (-1)) rfl rfl ?_
      refine q_iret rfl rfl ?_
      exact ⟨rfl, rfl⟩
    · exact absurd hc17 (by decide)
theorem m_follow_r {X : XX} {I A : Nat → Nat → Int32} {J B : Nat → Nat → Int64} {F : Nat → Nat} (ln : Nat) (hln : ln ≤ 5) (eln : I 51 3 = nI ln) (k : Nat) (hk : k < ln) (y : Int32) (hy : y < 0 ∨ 6 ≤ y) (n : Nat) (n1 : 1 ≤ n) (n8 : n ≤ 8)  : x_ev X xT 6 216 [.ref 51, .int (nI k), .int (nI n), .int y] (HX I A J B F) (some (.int (-1))) (HX I A J B F) := by
  refine q_ev (L := [some (.ref 51), some (.int (nI k)), some (.int (nI n)), some (.int y), none, none, none, none]) tX9_follow (Nat.le_of_ble_eq_true rfl) rfl ?_
  refine q_aload_n rfl rfl ?_
  refine q_iload_n rfl rfl ?_
  refine q_callV1 rfl hx_51 (Nat.le_of_ble_eq_true rfl) (Nat.le_of_ble_eq_true rfl) (sX9_isLight_1 k ln hk hln eln) ?_
  refine q_if_eqN rfl (by omega) (fun hc5 => ?_) (fun hc5 => ?_)
  · exact absurd hc5 (by decide)
  · refine q_iload_n rfl rfl ?_
    refine q_i2l rfl ?_
    refine q_lconst (v := 1) rfl rfl ?_
    refine q_ldc2_w (v := 8) rfl rfl ?_
    refine q_callS3 rfl rfl (Nat.le_of_ble_eq_true rfl) (Nat.le_of_ble_eq_true rfl) (sX9_in _ _ _) ?_
    refine q_cn (f_in_1 (lo := nI 1) (hi := nI 8) rfl rfl (nI_nlt (by omega) (by omega)) (nI_nlt (by omega) (by omega))) ?_
    refine q_if_eqN rfl (by omega) (fun hc17 => ?_) (fun hc17 => ?_)
    · exact absurd hc17 (by decide)
    · refine q_iload_n rfl rfl ?_
      refine q_callS1 rfl rfl (Nat.le_of_ble_eq_true rfl) (Nat.le_of_ble_eq_true rfl) (sX9_isRow_0 y hy) ?_
      refine q_if_neN rfl (by omega) (fun hc24 => ?_) (fun hc24 => ?_)
      · exact absurd hc24 (by decide)
      · refine q_iconst (v := (-1)) rfl rfl ?_
        refine q_iret rfl rfl ?_
        exact ⟨rfl, rfl⟩
theorem m_follow_N {X : XX} {I A : Nat → Nat → Int32} {J B : Nat → Nat → Int64} {F : Nat → Nat} (b : Nat) (hb : b ≤ 5) (eb : I 51 1 = nI b) (m : Nat) (em : A 52 1 = nI m) (hm : m ≤ 40) (s : Nat) (es : A 52 2 = nI s) (hs : s < 24) (st : Nat) (hst : st < 24) (est : I 51 2 = nI st) (ln : Nat) (hln : ln ≤ 5) (eln : I 51 3 = nI ln) (hl : mLk A) (k : Nat) (hk : k < ln) (n : Nat) (n1 : 1 ≤ n) (n8 : n ≤ 8) (q : Nat) (hr : q < 6) (hfin : ¬ (dpR 100000 (fun i f => gnN b (mL A k) (nI f) (m + i)) (cN 0 st) n n s) < 100000) : ∃ e4 g, x_ev X xT 6 216 [.ref 51, .int (nI k), .int (nI n), .int (nI q)] (HX I A J B F) (some (.int (-9))) (HX I (ua (ua A 64 e4) 63 g) J B F) ∧ True := by
  obtain ⟨e4, g, h8, hE, hG⟩ := sX9_layLeast (X := X) (I := I) (J := J) (B := B) (F := F) (A := A) b hb eb m em hm k (by omega) hl st hst est n 0 n1 n8 (by decide)
  obtain ⟨r_, h_, he_, e4, g, hr_, hh_, hf_⟩ := q_evx (X := X) (d := 5) (as := [.ref 51, .int (nI k), .int (nI n), .int (nI q)]) (h := (HX I A J B F)) (P := fun r_ h_ => ∃ e4 g, r_ = (some (.int (-9))) ∧ h_ = (HX I (ua (ua A 64 e4) 63 g) J B F) ∧ True) (L := [some (.ref 51), some (.int (nI k)), some (.int (nI n)), some (.int (nI q)), none, none, none, none]) tX9_follow (Nat.le_of_ble_eq_true rfl) rfl (by
    refine q_aload_n rfl rfl ?_
    refine q_iload_n rfl rfl ?_
    refine q_callV1 rfl hx_51 (Nat.le_of_ble_eq_true rfl) (Nat.le_of_ble_eq_true rfl) (sX9_isLight_1 k ln hk hln eln) ?_
    refine q_if_eqN rfl (by omega) (fun hc5 => ?_) (fun hc5 => ?_)
    · exact absurd hc5 (by decide)
    · refine q_iload_n rfl rfl ?_
      refine q_i2l rfl ?_
      refine q_lconst (v := 1) rfl rfl ?_
      refine q_ldc2_w (v := 8) rfl rfl ?_
      refine q_callS3 rfl rfl (Nat.le_of_ble_eq_true rfl) (Nat.le_of_ble_eq_true rfl) (sX9_in _ _ _) ?_
      refine q_cn (f_in_1 (lo := nI 1) (hi := nI 8) rfl rfl (nI_nlt (by omega) (by omega)) (nI_nlt (by omega) (by omega))) ?_
      refine q_if_eqN rfl (by omega) (fun hc17 => ?_) (fun hc17 => ?_)
      · exact absurd hc17 (by decide)
      · refine q_iload_n rfl rfl ?_
        refine q_callS1 rfl rfl (Nat.le_of_ble_eq_true rfl) (Nat.le_of_ble_eq_true rfl) (sX9_isRow_1 q hr) ?_
        refine q_if_neN rfl (by omega) (fun hc24 => ?_) (fun hc24 => ?_)
        · refine q_aload_n rfl rfl ?_
          refine q_iload_n rfl rfl ?_
          refine q_iload_n rfl rfl ?_
          refine q_iconst (v := nI 0) rfl rfl ?_
          refine q_callV3 rfl hx_51 (Nat.le_of_ble_eq_true rfl) (Nat.le_of_ble_eq_true rfl) (h8) ?_
          refine q_aload_n rfl rfl ?_
          refine q_getfield rfl hx_51 rfl ?_
          refine q_iconst (v := nI 2) rfl rfl ?_
          refine q_iald rfl (by decide) hx_52 (by decide) (by decide) ((show ua (ua A 64 e4) 63 g 52 2 = nI s from es)) ?_
          refine q_istore (L' := [_, _, _, _, _, _, _, _]) rfl rfl ?_
          refine q_aload_n rfl rfl ?_
          refine q_getfield rfl hx_51 rfl ?_
          refine q_iload rfl rfl ?_
          refine q_iald rfl (by decide) hx_63 (by omega) (by decide) ((show ua (ua A 64 e4) 63 g 63 s = nI (dpR 100000 (fun i f => gnN b (mL A k) (nI f) (m + i)) (cN 0 st) n n s) from by rw [ua_eq]; have h7 := hG n (Nat.le_refl _) (by omega) s hs; rw [Nat.sub_self, Nat.mul_zero, Nat.zero_add] at h7; exact h7)) ?_
          refine q_istore (L' := [_, _, _, _, _, _, _, _]) rfl rfl ?_
          refine q_iload rfl rfl ?_
          refine q_ldc (v := nI 100000) rfl rfl ?_
          refine q_icmp_ltN rfl (by have := dpR_le (N := 100000) (g := (fun i f => gnN b (mL A k) (nI f) (m + i))) (c := cN 0 st) (n := n) n s; omega) (by omega) (fun hc57 => ?_) (fun hc57 => ?_)
          · exact absurd hc57 hfin
          · refine q_bipush (v := (-9)) rfl rfl ?_
            refine q_iret rfl rfl ?_
            exact ⟨e4, g, rfl, rfl, trivial⟩
        · exact absurd hc24 (by decide))
  subst hr_
  subst hh_
  exact ⟨e4, g, he_, hf_⟩
set_option maxHeartbeats 4000000 in
theorem op_23 {X : XX} : Op_23 X RelR := by
  intro a1 z a3 I A J B F hr
  obtain ⟨ln, b, st, hL, hT, hK, hD, hN, hQ, hF, hU, hJ, hS⟩ := id hr
  obtain ⟨hln, hb, hst, eln, eln', eb, eb', e7, e7', hb1⟩ := id hD
  obtain ⟨d, hd, n1, q0, n2, n3, n9, q1, q2, q3, hp⟩ := id hN
  have hm : (rp st (A 9) d).1 ≤ 40 := Nat.le_trans (rp_1 st (A 9) d) hd
  have hs := rp_2 st (A 9) d
  have lks := RelK_lks hK
  have hl := RelK_hl hK
  have cLe := RelK_cL hK
  rcases ix3 a1 ln (by first | decide | omega) with hk | hk | ⟨k, hk, rfl⟩
  · rcases ix3 a3 6 (by first | decide | omega) with hq | hq | ⟨q, hq, rfl⟩
    · exact opI_mk (by decide) (by decide) (c_follow_bb a1 (Or.inl (by first | exact hk | (rw [eln]; exact hk))) a3 (Or.inl hq) z) (m_follow_b ln hln (by exact eln') a1 (Or.inl hk) a3 z) (hr)
    · exact opI_mk (by decide) (by decide) (c_follow_bb a1 (Or.inl (by first | exact hk | (rw [eln]; exact hk))) a3 (Or.inr hq) z) (m_follow_b ln hln (by exact eln') a1 (Or.inl hk) a3 z) (hr)
    · exact opI_mk (by decide) (by decide) (c_follow_bo a1 (Or.inl (by first | exact hk | (rw [eln]; exact hk))) q hq z) (m_follow_b ln hln (by exact eln') a1 (Or.inl hk) (nI q) z) (hr)
  · rcases ix3 a3 6 (by first | decide | omega) with hq | hq | ⟨q, hq, rfl⟩
    · exact opI_mk (by decide) (by decide) (c_follow_bb a1 (Or.inr (by first | exact hk | (rw [eln]; exact hk))) a3 (Or.inl hq) z) (m_follow_b ln hln (by exact eln') a1 (Or.inr hk) a3 z) (hr)
    · exact opI_mk (by decide) (by decide) (c_follow_bb a1 (Or.inr (by first | exact hk | (rw [eln]; exact hk))) a3 (Or.inr hq) z) (m_follow_b ln hln (by exact eln') a1 (Or.inr hk) a3 z) (hr)
    · exact opI_mk (by decide) (by decide) (c_follow_bo a1 (Or.inr (by first | exact hk | (rw [eln]; exact hk))) q hq z) (m_follow_b ln hln (by exact eln') a1 (Or.inr hk) (nI q) z) (hr)
  · rcases ix3 a3 6 (by first | decide | omega) with hq | hq | ⟨q, hq, rfl⟩
    · by_cases y1 : z < nI 1
      · exact opI_mk (by decide) (by decide) (c_follow_ob ln hln eln k hk a3 (Or.inl hq) z) (m_follow_n ln hln (by exact eln') k hk a3 z (Or.inl y1)) (hr)
      by_cases y8 : nI 8 < z
      · exact opI_mk (by decide) (by decide) (c_follow_ob ln hln eln k hk a3 (Or.inl hq) z) (m_follow_n ln hln (by exact eln') k hk a3 z (Or.inr y8)) (hr)
      obtain ⟨n, hn8, rfl⟩ := nI_of2 (M := nI 8) (n := 8) rfl (fun w => y1 (Int32.lt_trans w (by decide))) (Int32.not_lt.mp y8)
      have hn1 : 1 ≤ n := by
        rw [nI_ltI (by omega) (by omega)] at y1
        omega
      exact opI_mk (by decide) (by decide) (c_follow_ob ln hln eln k hk a3 (Or.inl hq) (nI n)) (m_follow_r ln hln (by exact eln') k hk a3 (Or.inl hq) n hn1 hn8) (hr)
    · by_cases y1 : z < nI 1
      · exact opI_mk (by decide) (by decide) (c_follow_ob ln hln eln k hk a3 (Or.inr hq) z) (m_follow_n ln hln (by exact eln') k hk a3 z (Or.inl y1)) (hr)
      by_cases y8 : nI 8 < z
      · exact opI_mk (by decide) (by decide) (c_follow_ob ln hln eln k hk a3 (Or.inr hq) z) (m_follow_n ln hln (by exact eln') k hk a3 z (Or.inr y8)) (hr)
      obtain ⟨n, hn8, rfl⟩ := nI_of2 (M := nI 8) (n := 8) rfl (fun w => y1 (Int32.lt_trans w (by decide))) (Int32.not_lt.mp y8)
      have hn1 : 1 ≤ n := by
        rw [nI_ltI (by omega) (by omega)] at y1
        omega
      exact opI_mk (by decide) (by decide) (c_follow_ob ln hln eln k hk a3 (Or.inr hq) (nI n)) (m_follow_r ln hln (by exact eln') k hk a3 (Or.inr hq) n hn1 hn8) (hr)
    · by_cases y1 : z < nI 1
      · exact opI_mk (by decide) (by decide) (c_follow_n ln hln eln k hk q hq z (Or.inl y1)) (m_follow_n ln hln (by exact eln') k hk (nI q) z (Or.inl y1)) (hr)
      by_cases y8 : nI 8 < z
      · exact opI_mk (by decide) (by decide) (c_follow_n ln hln eln k hk q hq z (Or.inr y8)) (m_follow_n ln hln (by exact eln') k hk (nI q) z (Or.inr y8)) (hr)
      obtain ⟨n, hn8, rfl⟩ := nI_of2 (M := nI 8) (n := 8) rfl (fun w => y1 (Int32.lt_trans w (by decide))) (Int32.not_lt.mp y8)
      have hn1 : 1 ≤ n := by
        rw [nI_ltI (by omega) (by omega)] at y1
        omega
      have hF9 := F_lt hS
      have hcap := dpR_cap (N := 536870912) (N' := 100000) (g := (fun i f => gnN b (mL A k) (nI f) ((rp st (A 9) d).1 + i))) (c := cN 0 st) (n := n) (fun s j hj => cN_le 0 st s j hj) (by decide) (by decide) n hn8 (rp st (A 9) d).2.1
      by_cases hfin : dpR 100000 (fun i f => gnN b (mL A k) (nI f) ((rp st (A 9) d).1 + i)) (cN 0 st) n n (rp st (A 9) d).2.1 < 100000
      · have hfin2 : dpR 536870912 (fun i f => gnN b (mL A k) (nI f) ((rp st (A 9) d).1 + i)) (cN 0 st) n n (rp st (A 9) d).2.1 < 536870912 := by omega
        have he0 : dpR 536870912 (fun i f => gnN b (mL A k) (nI f) ((rp st (A 9) d).1 + i)) (cN 0 st) n n (rp st (A 9) d).2.1 = dpR 100000 (fun i f => gnN b (mL A k) (nI f) ((rp st (A 9) d).1 + i)) (cN 0 st) n n (rp st (A 9) d).2.1 := by omega
        have hsc : ∀ k_, k_ < n → jT 536870912 (fun i f => gnN b (mL A k) (nI f) ((rp st (A 9) d).1 + i)) (cN 0 st) n k_ (sT 536870912 (fun i f => gnN b (mL A k) (nI f) ((rp st (A 9) d).1 + i)) (cN 0 st) n (rp st (A 9) d).2.1 k_) = jT 100000 (fun i f => gnN b (mL A k) (nI f) ((rp st (A 9) d).1 + i)) (cN 0 st) n k_ (sT 100000 (fun i f => gnN b (mL A k) (nI f) ((rp st (A 9) d).1 + i)) (cN 0 st) n (rp st (A 9) d).2.1 k_) := fun k_ hk_ => (sT_cap (N := 536870912) (N' := 100000) (g := (fun i f => gnN b (mL A k) (nI f) ((rp st (A 9) d).1 + i))) (c := cN 0 st) (n := n) (s0 := (rp st (A 9) d).2.1) (fun s j hj => cN_le 0 st s j hj) (by decide) (by decide) hn8 hfin2 k_ (by omega)).2 hk_
        obtain ⟨g1, g2, h9, _⟩ := c_follow_0 (X := X) (A := A) (J := J) (B := B) (F := F) hS b hb eb (rp st (A 9) d).1 n2 hm (rp st (A 9) d).2.1 n3 hs st hst e7 ln hln eln lks k hk q hq n hn1 hn8 (by rw [cLe k (by omega)]; exact hfin2)
        rw [cLe k (by omega), he0] at h9
        obtain ⟨X1, hX1⟩ : ∃ X1, X1 = ua (ua A 12 g1) (F 0) g2 := ⟨_, rfl⟩
        rw [← hX1] at h9
        obtain ⟨gc, hgc⟩ : ∃ gc, gc = wT (fun k_ => jT 536870912 (fun i f => gnN b (mL A k) (nI f) ((rp st (A 9) d).1 + i)) (cN 0 st) n k_ (sT 536870912 (fun i f => gnN b (mL A k) (nI f) ((rp st (A 9) d).1 + i)) (cN 0 st) n (rp st (A 9) d).2.1 k_)) (f_fill (X1 (21 + 2 * q)) 0 0 (rm q)) n := ⟨_, rfl⟩
        rw [← hgc] at h9
        have hml : mL (ua X1 (21 + 2 * q) gc) k = mL A k := by
          rw [hX1]
          unfold mL
          repeat rw [ua_ne (x := 53) (by omega)]
          repeat rw [ua_ne (x := 54) (by omega)]
          repeat rw [ua_ne (x := 55) (by omega)]
          repeat rw [ua_ne (x := 56) (by omega)]
        have hem : (ua X1 (21 + 2 * q) gc) 52 = A 52 := by
          rw [hX1]
          repeat rw [ua_ne (x := 52) (by omega)]
        have hlk : mLk (ua X1 (21 + 2 * q) gc) := by
          rw [hX1]
          unfold mLk
          unfold mL
          repeat rw [ua_ne (x := 53) (by omega)]
          repeat rw [ua_ne (x := 54) (by omega)]
          repeat rw [ua_ne (x := 55) (by omega)]
          repeat rw [ua_ne (x := 56) (by omega)]
          exact hl
        obtain ⟨e4, g, h10, _⟩ := m_follow_0 (X := X) (I := u2 I (20 + 2 * q) 1 (nI n)) (A := ua X1 (21 + 2 * q) gc) (J := J) (B := B) (F := F) b hb (by rw [u2_ne (by omega)]; exact eb') (rp st (A 9) d).1 (by rw [hem]; exact q1) hm (rp st (A 9) d).2.1 (by rw [hem]; exact q2) hs st hst (by rw [u2_ne (by omega)]; exact e7') ln hln (by rw [u2_ne (by omega)]; exact eln') hlk k hk n hn1 hn8 q hq (by rw [hml]; exact hfin)
        rw [hml] at h10
        subst hX1
        refine opI_mk (by decide) (by decide) h9 h10 ⟨ln, b, st, (by
          refine RelL_row (q := q) (n := n) (gc := gc) hq (by omega) ?_ ua_eq ?_ (fun p hp hpq => ?_) (fun x hx => ?_) (fun x hx => ?_) hL
          · rw [ua_ne (x := 57) (by omega), ua_eq]
            repeat rw [ua_ne (x := 57) (by omega)]
          · rw [ua_ne (x := 21 + 2 * q) (by omega), ua_ne (x := 21 + 2 * q) (by omega), ua_ne (x := 21 + 2 * q) (by omega), ua_ne (x := 21 + 2 * q) (by omega), ua_eq]
          · rw [ua_ne (x := 21 + 2 * p) (by omega), ua_ne (x := 21 + 2 * p) (by omega), ua_ne (x := 21 + 2 * p) (by omega), ua_ne (x := 21 + 2 * p) (by omega), ua_ne (x := 21 + 2 * p) (by omega), ua_ne (x := 21 + 2 * p) (by omega), ua_ne (x := 21 + 2 * p) (by omega)]
          · rw [hgc]
            refine wT_wM (fun k hk => ?_) n hsc x hx
            rw [rm_row hq]
            unfold f_fill
            rw [if_pos (by omega), if_pos (by omega)]
          · rw [wM_out n (by omega) hx]
            unfold f_fill
            rw [if_neg (by omega)]
            repeat rw [ua_ne (x := 58) (by omega)]), (by repeat first | exact hT | refine RelT_n4 ?_ | refine RelT_u2 (by omega) ?_ | refine RelT_ua (by omega) ?_), (by repeat first | exact hK | refine RelK_n4 ?_ | refine RelK_u2 (by omega) ?_ | refine RelK_ua (by omega) ?_), (by repeat first | exact hD | refine RelD_n4 ?_ | refine RelD_u2 (by omega) ?_), (by repeat first | exact hN | refine RelN_u2 (by omega) ?_ | refine RelN_ua (by omega) ?_), (by repeat first | exact hQ | refine RelQ_n4 ?_ | refine RelQ_u2 (by omega) ?_ | refine RelQ_ua (by omega) ?_), (by repeat first | exact hF | refine RelF_n4 ?_ | refine RelF_u2 (by omega) ?_ | refine RelF_ua (by omega) ?_), (by repeat first | exact hU | refine RelU_n4 ?_ | refine RelU_u2 (by omega) ?_), hJ, hS⟩
      · have hnf : ¬ dpR 536870912 (fun i f => gnN b (mL A k) (nI f) ((rp st (A 9) d).1 + i)) (cN 0 st) n n (rp st (A 9) d).2.1 < 536870912 := by omega
        obtain ⟨g1, g2, h9, _⟩ := c_follow_N (X := X) (A := A) (J := J) (B := B) (F := F) hS b hb eb (rp st (A 9) d).1 n2 hm (rp st (A 9) d).2.1 n3 hs st hst e7 ln hln eln lks k hk q hq n hn1 hn8 (by rw [cLe k (by omega)]; exact hnf)
        have hml : mL (ua (ua A 12 g1) (F 0) g2) k = mL A k := by
          unfold mL
          repeat rw [ua_ne (x := 53) (by omega)]
          repeat rw [ua_ne (x := 54) (by omega)]
          repeat rw [ua_ne (x := 55) (by omega)]
          repeat rw [ua_ne (x := 56) (by omega)]
        have hlk : mLk (ua (ua A 12 g1) (F 0) g2) := by
          unfold mLk
          unfold mL
          repeat rw [ua_ne (x := 53) (by omega)]
          repeat rw [ua_ne (x := 54) (by omega)]
          repeat rw [ua_ne (x := 55) (by omega)]
          repeat rw [ua_ne (x := 56) (by omega)]
          exact hl
        obtain ⟨e4, g, h10, _⟩ := m_follow_N (X := X) (I := I) (A := ua (ua A 12 g1) (F 0) g2) (J := J) (B := B) (F := F) b hb eb' (rp st (A 9) d).1 (by rw [ua_ne (by omega), ua_ne (by omega)]; exact q1) hm (rp st (A 9) d).2.1 (by rw [ua_ne (by omega), ua_ne (by omega)]; exact q2) hs st hst e7' ln hln eln' hlk k hk n hn1 hn8 q hq (by rw [hml]; exact hfin)
        exact opI_mk (by decide) (by decide) (h9) (h10) (⟨ln, b, st, (by repeat first | exact hL | refine RelL_n4 ?_ | refine RelL_u2 (by omega) ?_ | refine RelL_ua (by omega) ?_), (by repeat first | exact hT | refine RelT_n4 ?_ | refine RelT_u2 (by omega) ?_ | refine RelT_ua (by omega) ?_), (by repeat first | exact hK | refine RelK_n4 ?_ | refine RelK_u2 (by omega) ?_ | refine RelK_ua (by omega) ?_), (by repeat first | exact hD | refine RelD_n4 ?_ | refine RelD_u2 (by omega) ?_), (by repeat first | exact hN | refine RelN_u2 (by omega) ?_ | refine RelN_ua (by omega) ?_), (by repeat first | exact hQ | refine RelQ_n4 ?_ | refine RelQ_u2 (by omega) ?_ | refine RelQ_ua (by omega) ?_), (by repeat first | exact hF | refine RelF_n4 ?_ | refine RelF_u2 (by omega) ?_ | refine RelF_ua (by omega) ?_), (by repeat first | exact hU | refine RelU_n4 ?_ | refine RelU_u2 (by omega) ?_), hJ, hS⟩)
