/-! the order of lights: the class's search -/
theorem od_i_le {g : Nat → Nat → Nat → Nat} {c : Nat → Nat → Nat} {T : Nat → Nat → Nat} {m k r s : Nat} (i : Nat) : od_i g c T m k r s i ≤ 536870912 := by
  induction i with
  | zero => exact Nat.le_refl _
  | succ i ih =>
    show (if od_b m i = 0 then od_j g c _ i _ _ s _ 13 else _) ≤ _
    split
    · exact Nat.le_trans (od_j_le 13) ih
    · exact ih
theorem od_w_le {g : Nat → Nat → Nat → Nat} {c : Nat → Nat → Nat} {n : Nat} (r m s : Nat) : od_w g c n r m s ≤ 536870912 := by
  cases r with
  | zero => exact Nat.zero_le _
  | succ r => exact od_i_le n
theorem od_w_row {g : Nat → Nat → Nat → Nat} {c : Nat → Nat → Nat} {n p m s : Nat} (h : p + 1 ≤ n) : od_w g c n (n - p) m s = od_i g c (fun m' s' => od_w g c n (n - 1 - p) m' s') m p (n - 1 - p) s n := by
  rw [show n - p = (n - 1 - p) + 1 by omega]
  show od_i g c _ m (n - (n - 1 - p + 1)) (n - 1 - p) s n = _
  rw [show n - (n - 1 - p + 1) = p by omega]
section OI
variable {g : Nat → Nat → Nat → Nat} {c : Nat → Nat → Nat} {T : Nat → Nat → Nat} {m k r i : Nat} {f f3 : Nat → Int32} {q : Nat}
theorem oi_n (h : ∀ s, s < 24 → f (q * 24 + s) = nI (od_i g c T m k r s i)) (hb : ¬ sv_t m i = 0) : ∀ s, s < 24 → f (q * 24 + s) = nI (od_i g c T m k r s (i + 1)) := by
  intro s hs
  rw [show od_i g c T m k r s (i + 1) = od_i g c T m k r s i from if_neg hb]
  exact h s hs
theorem oi_z (h : ∀ s, s < 24 → f (q * 24 + s) = nI (od_i g c T m k r s i)) (hb : sv_t m i = 0) (hg : ∀ f, g i k f = 0) : ∀ s, s < 24 → f (q * 24 + s) = nI (od_i g c T m k r s (i + 1)) := by
  intro s hs
  rw [show od_i g c T m k r s (i + 1) = od_j g c (T (m + 2 ^ i)) i k (i * 8 ^ r) s (od_i g c T m k r s i) 13 from if_pos hb, od_j_0 hg]
  exact h s hs
theorem oi_y (h : ∀ s, s < 24 → f3 (q * 24 + s) = nI (od_j g c (T (m + 2 ^ i)) i k (i * 8 ^ r) s (od_i g c T m k r s i) 13)) (hb : sv_t m i = 0) : ∀ s, s < 24 → f3 (q * 24 + s) = nI (od_i g c T m k r s (i + 1)) := by
  intro s hs
  rw [show od_i g c T m k r s (i + 1) = od_j g c (T (m + 2 ^ i)) i k (i * 8 ^ r) s (od_i g c T m k r s i) 13 from if_pos hb]
  exact h s hs
end OI
def oN (dg : Nat → Nat) (g0 : Nat → Int32) : Nat → (Nat → Int32)
  | 0 => g0
  | k + 1 => upd (oN dg g0 k) k (nI (dg k))
theorem od_fig2 {r i : Nat} (hr : r < 5) (hi : i < 5) : i * 8 ^ r < 65536 := by
  have h : 8 ^ r ≤ 8 ^ 4 := Nat.pow_le_pow_right (by decide) (by omega)
  have h2 : i * 8 ^ r ≤ 4 * 8 ^ 4 := Nat.mul_le_mul (by omega) h
  omega
theorem od_dig {E x d : Nat} (hx : x < 32768) (h : d ≤ 4) : (E * 32768 + x) / 2 ^ (3 * d) % 2 ^ 3 = x / 2 ^ (3 * d) % 8 := by
  rcases (show d = 0 ∨ d = 1 ∨ d = 2 ∨ d = 3 ∨ d = 4 by omega) with rfl | rfl | rfl | rfl | rfl <;> omega
set_option maxHeartbeats 2000000 in
theorem lo_N {X : XX} {I A : Nat → Nat → Int32} {J B : Nat → Nat → Int64} {F : Nat → Nat} (hS : RelS F) (b : Nat) (hb : b ≤ 5) (eb : I 7 0 = nI b) (m0 : Nat) (em : I 8 2 = nI m0) (hm : m0 ≤ 40) (s : Nat) (es : I 8 3 = nI s) (hs : s < 24) (st : Nat) (hst : st < 24) (e7 : I 7 1 = nI st) (lks : ∀ i, i < 5 → lkOK I (40 + i)) (ln : Nat) (l1 : 1 ≤ ln) (l5 : ln ≤ 5) (N : Nat) (hN : 2 ^ ln = N) (q : Nat) (hq : q < 6) (hW : od_w (fun i k f => gnN b (cL I (40 + i)) (nI f) (m0 + k)) (fun s j => eN st s j) ln ln 0 s = 536870912) : ∃ f, x_ev X xT 5 8 [.ref 13, .ref 5, .int (nI ln), .ref 8, .ref (20 + 2 * q)] (HX I A J B F) (some (.int (-9))) (HX I (ua A (F 0) f) J B F) ∧ True := by
  have hN2 : 2 ≤ N ∧ N ≤ 32 := by
    rcases (show ln = 1 ∨ ln = 2 ∨ ln = 3 ∨ ln = 4 ∨ ln = 5 by omega) with rfl | rfl | rfl | rfl | rfl <;> omega
  have hpn := od_pn ln l5
  rw [hN] at hpn
  obtain ⟨r_, h_, he_, f, hr_, hh_, hf_⟩ := q_evx (X := X) (d := 4) (as := [.ref 13, .ref 5, .int (nI ln), .ref 8, .ref (20 + 2 * q)]) (h := (HX I A J B F)) (P := fun r_ h_ => ∃ f, r_ = (some (.int (-9))) ∧ h_ = (HX I (ua A (F 0) f) J B F) ∧ True) (L := [some (.ref 13), some (.ref 5), some (.int (nI ln)), some (.ref 8), some (.ref (20 + 2 * q)), none, none, none, none, none]) tX0_leastOrder (Nat.le_of_ble_eq_true rfl) rfl (by
    refine q_iconst (v := nI 1) rfl rfl ?_
    refine q_iload_n rfl rfl ?_
    refine q_iconst (v := nI 5) rfl rfl ?_
    refine q_callS2 rfl rfl (Nat.le_of_ble_eq_true rfl) (Nat.le_of_ble_eq_true rfl) (sJ9_min_7cf53 _ _) ?_
    refine q_cn (show _ = nI ln from by rw [f_min_nI (by omega) (by decide), Nat.min_eq_left (by omega)]) ?_
    refine q_ishl rfl ?_
    refine q_cn ((sv_shl ln (by omega)).trans (congrArg nI hN)) ?_
    refine q_iconst (v := nI 1) rfl rfl ?_
    refine q_isubN rfl (by omega) ?_
    refine q_istore (L' := [_, _, _, _, _, _, _, _, _, _]) rfl rfl ?_
    refine q_aload_n rfl rfl ?_
    refine q_getfield rfl hx_13 rfl ?_
    refine q_iconst (v := 0) rfl rfl ?_
    refine q_iload rfl rfl ?_
    refine q_bipush (v := nI 24) rfl rfl ?_
    refine q_imulN rfl ?_
    refine q_ldc (v := nI 536870912) rfl rfl ?_
    refine q_callS4 rfl rfl (Nat.le_of_ble_eq_true rfl) (Nat.le_of_ble_eq_true rfl) (sJ7_fill_fda19 hS 0 ((N - 1) * 24) _ (by omega) (by omega)) ?_
    refine q_aload_n rfl rfl ?_
    refine q_getfield rfl hx_13 rfl ?_
    refine q_iload rfl rfl ?_
    refine q_bipush (v := nI 24) rfl rfl ?_
    refine q_imulN rfl ?_
    refine q_iload rfl rfl ?_
    refine q_iconst (v := nI 1) rfl rfl ?_
    refine q_iaddN rfl ?_
    refine q_bipush (v := nI 24) rfl rfl ?_
    refine q_imulN rfl ?_
    refine q_iconst (v := 0) rfl rfl ?_
    refine q_callS4 rfl rfl (Nat.le_of_ble_eq_true rfl) (Nat.le_of_ble_eq_true rfl) (sJ7_fill_fda19 hS ((N - 1) * 24) ((N - 1 + 1) * 24) _ (by omega) (by omega)) ?_
    refine q_iload rfl rfl ?_
    refine q_iconst (v := nI 1) rfl rfl ?_
    refine q_isub rfl ?_
    refine q_istore (L' := [_, _, _, _, _, _, _, _, _, _]) rfl rfl ?_
    refine q_dn (Inv := fun k L h => ∃ f z7 z8 z9, L = [some (.ref 13), some (.ref 5), some (.int (nI ln)), some (.ref 8), some (.ref (20 + 2 * q)), some (.int (nI (N - 1))), some (.int (dI k)), z7, z8, z9] ∧ h = HX I (ua A (F 0) f) J B F ∧ (∀ m, k ≤ m → m < N → ∀ s, s < 24 → f (m * 24 + s) = nI (od_w (fun i k f => gnN b (cL I (40 + i)) (nI f) (m0 + k)) (fun s j => eN st s j) ln (ln - od_p m) m s)) ∧ (∀ m, m < k → ∀ s, s < 24 → f (m * 24 + s) = nI 536870912)) (N - 1) (fun k L h hk_k hi_k ih_k => ?_) (fun L h hi_k => ?_) (N - 1) _ _ (by omega) (⟨_, _, _, _, rfl, by rw [ua_ua, ua_eq], fun m h1 h2 s hs => by
          have e9 : m = N - 1 := by omega
          subst e9
          unfold f_fill
          rw [if_pos (by omega), hpn.1, Nat.sub_self]
          rfl, fun m h1 s hs => by
          unfold f_fill
          rw [if_neg (by omega), if_pos (by omega)]⟩)
    · obtain ⟨f, z7, z8, z9, rfl, rfl, hg1, hg2⟩ := hi_k
      rw [dI_s]
      refine q_iload rfl rfl ?_
      refine q_if_ltN rfl (by omega) (fun hcks54 => ?_) (fun hcks54 => ?_)
      · omega
      · refine q_aload_n rfl rfl ?_
        refine q_callV0 rfl hx_8 (Nat.le_of_ble_eq_true rfl) (Nat.le_of_ble_eq_true rfl) (sN_now em) ?_
        refine q_iload rfl rfl ?_
        refine q_callS1 rfl rfl (Nat.le_of_ble_eq_true rfl) (Nat.le_of_ble_eq_true rfl) (sJ6_bitCount_0f7a4 k (by omega)) ?_
        refine q_iaddN rfl ?_
        refine q_istore (L' := [_, _, _, _, _, _, _, _, _, _]) rfl rfl ?_
        refine q_iconst (v := nI 3) rfl rfl ?_
        refine q_iload_n rfl rfl ?_
        refine q_iconst (v := nI 1) rfl rfl ?_
        refine q_isubN rfl (l1) ?_
        refine q_iload rfl rfl ?_
        refine q_callS1 rfl rfl (Nat.le_of_ble_eq_true rfl) (Nat.le_of_ble_eq_true rfl) (sJ6_bitCount_0f7a4 k (by omega)) ?_
        refine q_isubN rfl (by have := hpn.2 k hk_k; omega) ?_
        refine q_imulN rfl ?_
        refine q_istore (L' := [_, _, _, _, _, _, _, _, _, _]) rfl rfl ?_
        refine q_iconst (v := nI 0) rfl rfl ?_
        refine q_istore (L' := [_, _, _, _, _, _, _, _, _, _]) rfl rfl ?_
        refine q_up (Inv := fun i L h => ∃ f, L = [some (.ref 13), some (.ref 5), some (.int (nI ln)), some (.ref 8), some (.ref (20 + 2 * q)), some (.int (nI (N - 1))), some (.int (nI k)), some (.int (nI (m0 + od_p k))), some (.int (nI (3 * (ln - 1 - od_p k)))), some (.int (nI i))] ∧ h = HX I (ua A (F 0) f) J B F ∧ (∀ m, k < m → m < N → ∀ s, s < 24 → f (m * 24 + s) = nI (od_w (fun i k f => gnN b (cL I (40 + i)) (nI f) (m0 + k)) (fun s j => eN st s j) ln (ln - od_p m) m s)) ∧ (∀ m, m < k → ∀ s, s < 24 → f (m * 24 + s) = nI 536870912) ∧ ∀ s, s < 24 → f (k * 24 + s) = nI (od_i (fun i k f => gnN b (cL I (40 + i)) (nI f) (m0 + k)) (fun s j => eN st s j) (fun m' s' => od_w (fun i k f => gnN b (cL I (40 + i)) (nI f) (m0 + k)) (fun s j => eN st s j) ln (ln - 1 - od_p k) m' s') k (od_p k) (ln - 1 - od_p k) s i)) (ln) (fun i L h hk_i hi_i ih_i => ?_) (fun L h hi_i => ?_) (0) _ _ (by omega) (⟨f, rfl, rfl, fun m h1 h2 => hg1 m (by omega) h2, fun m h1 => hg2 m (by omega), fun s hs => hg2 k (by omega) s hs⟩)
        · obtain ⟨f, rfl, rfl, hg1, hg2, hg3⟩ := hi_i
          refine q_iload rfl rfl ?_
          refine q_iload_n rfl rfl ?_
          refine q_icmp_geN rfl (by omega) (by omega) (fun hcis88 => ?_) (fun hcis88 => ?_)
          · omega
          · refine q_iload rfl rfl ?_
            refine q_aload_n rfl rfl ?_
            refine q_alen rfl (by decide) hx_5 (by decide) (v := nI _) rfl ?_
            refine q_icmp_geN rfl (by omega) (by omega) (fun hcis95 => ?_) (fun hcis95 => ?_)
            · omega
            · refine q_iload rfl rfl ?_
              refine q_iload rfl rfl ?_
              refine q_ishr rfl ?_
              refine q_iconst (v := nI 1) rfl rfl ?_
              refine q_iand rfl ?_
              refine q_cn (sv_has k (by omega) i (by omega)) ?_
              refine q_if_neN rfl (by have := sv_t_lt k i; omega) (fun hcis105 => ?_) (fun hcis105 => ?_)
              · refine q_iincN (c := 1) (L' := [_, _, _, _, _, _, _, _, _, _]) rfl rfl rfl rfl ?_
                refine q_goto rfl ?_
                exact ih_i _ _ (⟨f, rfl, rfl, hg1, hg2, oi_n hg3 hcis105⟩)
              · refine q_aload_n rfl rfl ?_
                refine q_iload rfl rfl ?_
                refine q_aald rfl hx_5 (by omega) (by decide) rfl (xr5_at i (by omega)) ?_
                refine q_iload rfl rfl ?_
                refine q_callV1 rfl (hx_light i (by omega)) (Nat.le_of_ble_eq_true rfl) (Nat.le_of_ble_eq_true rfl) (sK_bright (hx_light i (by omega)) (lks i (by omega)) _ (by have := od_ple k; omega)) ?_
                refine q_if_leN rfl (by have := brN_le (cL I (40 + i)) (m0 + od_p k); have := (lks i (by omega)).1.2; omega) (fun hcis117 => ?_) (fun hcis117 => ?_)
                · refine q_iincN (c := 1) (L' := [_, _, _, _, _, _, _, _, _, _]) rfl rfl rfl rfl ?_
                  refine q_goto rfl ?_
                  exact ih_i _ _ (⟨f, rfl, rfl, hg1, hg2, oi_z hg3 hcis105 (fun f => gn_b0 hcis117 f)⟩)
                · refine q_aload_n rfl rfl ?_
                  refine q_iload rfl rfl ?_
                  refine q_iload rfl rfl ?_
                  refine q_iconst (v := nI 1) rfl rfl ?_
                  refine q_iload rfl rfl ?_
                  refine q_ishl rfl ?_
                  refine q_cn (sv_shl i (by omega)) ?_
                  refine q_ior rfl ?_
                  refine q_cn (od_or i (by omega) k (by omega) hcis105) ?_
                  refine q_aload_n rfl rfl ?_
                  refine q_iload rfl rfl ?_
                  refine q_aald rfl hx_5 (by omega) (by decide) rfl (xr5_at i (by omega)) ?_
                  refine q_iload rfl rfl ?_
                  refine q_callV1 rfl (hx_light i (by omega)) (Nat.le_of_ble_eq_true rfl) (Nat.le_of_ble_eq_true rfl) (sK_place (hx_light i (by omega)) (lks i (by omega)) _) ?_
                  refine q_iload rfl rfl ?_
                  refine q_iload rfl rfl ?_
                  refine q_ishl rfl ?_
                  refine q_cn (od_fig (ln - 1 - od_p k) (by omega) i (by omega)) ?_
                  have hadd := od_add ln l5 k (by omega) i hk_i hcis105
                  rw [hN] at hadd
                  have hpk := hpn.2 k hk_k
                  have h2i : 0 < 2 ^ i := Nat.two_pow_pos i
                  obtain ⟨f3, hlo, hf3a, hf3b⟩ := sX0_lowerOrders (X := X) (I := I) (A := ua A (F 0) f) (J := J) (B := B) (F := F) hS st hst e7 b hb eb i (od_p k) k (k + 2 ^ i) (i * 8 ^ (ln - 1 - od_p k)) (by omega) (by omega) (by omega) (od_fig2 (by omega) (by omega)) (fun i => cL I (40 + i)) m0 hcis117 (fun s => od_w (fun i k f => gnN b (cL I (40 + i)) (nI f) (m0 + k)) (fun s j => eN st s j) ln (ln - 1 - od_p k) (k + 2 ^ i) s) (fun s => od_i (fun i k f => gnN b (cL I (40 + i)) (nI f) (m0 + k)) (fun s j => eN st s j) (fun m' s' => od_w (fun i k f => gnN b (cL I (40 + i)) (nI f) (m0 + k)) (fun s j => eN st s j) ln (ln - 1 - od_p k) m' s') k (od_p k) (ln - 1 - od_p k) s i) (fun s hs => by rw [ua_eq]; have h7 := hg1 (k + 2 ^ i) (by omega) (by omega) s hs; rw [hadd.1, show ln - (od_p k + 1) = (ln - 1 - od_p k) by omega] at h7; exact h7) (fun s => od_w_le _ _ _) (fun s hs => by rw [ua_eq]; exact hg3 s hs) (fun s => od_i_le i)
                  refine q_callV4 rfl hx_13 (Nat.le_of_ble_eq_true rfl) (Nat.le_of_ble_eq_true rfl) (hlo) ?_
                  refine q_iincN (c := 1) (L' := [_, _, _, _, _, _, _, _, _, _]) rfl rfl rfl rfl ?_
                  refine q_goto rfl ?_
                  exact ih_i _ _ (⟨f3, rfl, by rw [ua_ua], fun m h1 h2 s hs => by rw [hf3b _ (by omega), ua_eq]; exact hg1 m h1 h2 s hs, fun m h1 s hs => by rw [hf3b _ (by omega), ua_eq]; exact hg2 m h1 s hs, oi_y hf3a hcis105⟩)
        · obtain ⟨f, rfl, rfl, hg1, hg2, hg3⟩ := hi_i
          refine q_iload rfl rfl ?_
          refine q_iload_n rfl rfl ?_
          refine q_icmp_geN rfl (by omega) (by omega) (fun hcif88 => ?_) (fun hcif88 => ?_)
          · refine q_iinc (v := dI k) (L' := [_, _, _, _, _, _, _, _, _, _]) rfl rfl (dI_m k) rfl ?_
            refine q_goto rfl ?_
            exact ih_k _ _ (⟨_, _, _, _, rfl, rfl, fun m h1 h2 s hs => by
                  by_cases e9 : m = k
                  · subst e9
                    rw [od_w_row (hpn.2 m hk_k)]
                    exact hg3 s hs
                  · exact hg1 m (by omega) h2 s hs, fun m h1 s hs => hg2 m (by omega) s hs⟩)
          · omega
    · obtain ⟨f, z7, z8, z9, rfl, rfl, hg1, hg2⟩ := hi_k
      refine q_iload rfl rfl ?_
      refine q_if_lt rfl (fun hckf54 => ?_) (fun hckf54 => ?_)
      · refine q_aload_n rfl rfl ?_
        refine q_getfield rfl hx_13 rfl ?_
        refine q_aload_n rfl rfl ?_
        refine q_callV0 rfl hx_8 (Nat.le_of_ble_eq_true rfl) (Nat.le_of_ble_eq_true rfl) (sN_first es) ?_
        refine q_callS1 rfl rfl (Nat.le_of_ble_eq_true rfl) (Nat.le_of_ble_eq_true rfl) (sK_round _) ?_
        refine q_cn (rdN_s hs) ?_
        refine q_iald rfl ((F_lt hS).1) (hx_T hS) (by omega) (by decide) ((show ua A (F 0) f (F 0) s = nI (od_w (fun i k f => gnN b (cL I (40 + i)) (nI f) (m0 + k)) (fun s j => eN st s j) ln ln 0 s) from by rw [ua_eq]; have h7 := hg1 0 (Nat.le_refl _) (by omega) s hs; rw [Nat.zero_mul, Nat.zero_add] at h7; exact h7)) ?_
        refine q_istore (L' := [_, _, _, _, _, _, _, _, _, _]) rfl rfl ?_
        refine q_iload rfl rfl ?_
        refine q_ldc (v := nI 536870912) rfl rfl ?_
        refine q_icmp_ltN rfl (by have := od_w_le (g := (fun i k f => gnN b (cL I (40 + i)) (nI f) (m0 + k))) (c := (fun s j => eN st s j)) (n := ln) ln 0 s; omega) (by omega) (fun hckf177 => ?_) (fun hckf177 => ?_)
        · omega
        · refine q_bipush (v := (-9)) rfl rfl ?_
          refine q_iret rfl rfl ?_
          exact ⟨f, rfl, rfl, trivial⟩
      · exact absurd (by decide) hckf54)
  subst hr_
  subst hh_
  exact ⟨f, he_, hf_⟩
set_option maxHeartbeats 2000000 in
theorem lo_0 {X : XX} {I A : Nat → Nat → Int32} {J B : Nat → Nat → Int64} {F : Nat → Nat} (hS : RelS F) (b : Nat) (hb : b ≤ 5) (eb : I 7 0 = nI b) (m0 : Nat) (em : I 8 2 = nI m0) (hm : m0 ≤ 40) (s : Nat) (es : I 8 3 = nI s) (hs : s < 24) (st : Nat) (hst : st < 24) (e7 : I 7 1 = nI st) (lks : ∀ i, i < 5 → lkOK I (40 + i)) (ln : Nat) (l1 : 1 ≤ ln) (l5 : ln ≤ 5) (N : Nat) (hN : 2 ^ ln = N) (q : Nat) (hq : q < 6) (E : Nat) (hE : E ≤ 80) (p : List Nat) (hp : od_n p < 32768) (hW : od_w (fun i k f => gnN b (cL I (40 + i)) (nI f) (m0 + k)) (fun s j => eN st s j) ln ln 0 s = E * 32768 + od_n p) (dg : Nat → Nat) (hdg : ∀ k, k < ln → od_n p / 2 ^ (3 * (ln - 1 - k)) % 8 = dg k) : ∃ f, x_ev X xT 5 8 [.ref 13, .ref 5, .int (nI ln), .ref 8, .ref (20 + 2 * q)] (HX I A J B F) (some (.int (nI E))) (HX (u2 I (20 + 2 * q) 1 (nI ln)) (ua (ua A (F 0) f) (21 + 2 * q) (oN dg (f_fill ((ua A (F 0) f) (21 + 2 * q)) 0 0 (rm q)) ln)) J B F) ∧ True := by
  have hN2 : 2 ≤ N ∧ N ≤ 32 := by
    rcases (show ln = 1 ∨ ln = 2 ∨ ln = 3 ∨ ln = 4 ∨ ln = 5 by omega) with rfl | rfl | rfl | rfl | rfl <;> omega
  have hpn := od_pn ln l5
  rw [hN] at hpn
  obtain ⟨r_, h_, he_, f, hr_, hh_, hf_⟩ := q_evx (X := X) (d := 4) (as := [.ref 13, .ref 5, .int (nI ln), .ref 8, .ref (20 + 2 * q)]) (h := (HX I A J B F)) (P := fun r_ h_ => ∃ f, r_ = (some (.int (nI E))) ∧ h_ = (HX (u2 I (20 + 2 * q) 1 (nI ln)) (ua (ua A (F 0) f) (21 + 2 * q) (oN dg (f_fill ((ua A (F 0) f) (21 + 2 * q)) 0 0 (rm q)) ln)) J B F) ∧ True) (L := [some (.ref 13), some (.ref 5), some (.int (nI ln)), some (.ref 8), some (.ref (20 + 2 * q)), none, none, none, none, none]) tX0_leastOrder (Nat.le_of_ble_eq_true rfl) rfl (by
    refine q_iconst (v := nI 1) rfl rfl ?_
    refine q_iload_n rfl rfl ?_
    refine q_iconst (v := nI 5) rfl rfl ?_
    refine q_callS2 rfl rfl (Nat.le_of_ble_eq_true rfl) (Nat.le_of_ble_eq_true rfl) (sJ9_min_7cf53 _ _) ?_
    refine q_cn (show _ = nI ln from by rw [f_min_nI (by omega) (by decide), Nat.min_eq_left (by omega)]) ?_
    refine q_ishl rfl ?_
    refine q_cn ((sv_shl ln (by omega)).trans (congrArg nI hN)) ?_
    refine q_iconst (v := nI 1) rfl rfl ?_
    refine q_isubN rfl (by omega) ?_
    refine q_istore (L' := [_, _, _, _, _, _, _, _, _, _]) rfl rfl ?_
    refine q_aload_n rfl rfl ?_
    refine q_getfield rfl hx_13 rfl ?_
    refine q_iconst (v := 0) rfl rfl ?_
    refine q_iload rfl rfl ?_
    refine q_bipush (v := nI 24) rfl rfl ?_
    refine q_imulN rfl ?_
    refine q_ldc (v := nI 536870912) rfl rfl ?_
    refine q_callS4 rfl rfl (Nat.le_of_ble_eq_true rfl) (Nat.le_of_ble_eq_true rfl) (sJ7_fill_fda19 hS 0 ((N - 1) * 24) _ (by omega) (by omega)) ?_
    refine q_aload_n rfl rfl ?_
    refine q_getfield rfl hx_13 rfl ?_
    refine q_iload rfl rfl ?_
    refine q_bipush (v := nI 24) rfl rfl ?_
    refine q_imulN rfl ?_
    refine q_iload rfl rfl ?_
    refine q_iconst (v := nI 1) rfl rfl ?_
    refine q_iaddN rfl ?_
    refine q_bipush (v := nI 24) rfl rfl ?_
    refine q_imulN rfl ?_
    refine q_iconst (v := 0) rfl rfl ?_
    refine q_callS4 rfl rfl (Nat.le_of_ble_eq_true rfl) (Nat.le_of_ble_eq_true rfl) (sJ7_fill_fda19 hS ((N - 1) * 24) ((N - 1 + 1) * 24) _ (by omega) (by omega)) ?_
    refine q_iload rfl rfl ?_
    refine q_iconst (v := nI 1) rfl rfl ?_
    refine q_isub rfl ?_
    refine q_istore (L' := [_, _, _, _, _, _, _, _, _, _]) rfl rfl ?_
    refine q_dn (Inv := fun k L h => ∃ f z7 z8 z9, L = [some (.ref 13), some (.ref 5), some (.int (nI ln)), some (.ref 8), some (.ref (20 + 2 * q)), some (.int (nI (N - 1))), some (.int (dI k)), z7, z8, z9] ∧ h = HX I (ua A (F 0) f) J B F ∧ (∀ m, k ≤ m → m < N → ∀ s, s < 24 → f (m * 24 + s) = nI (od_w (fun i k f => gnN b (cL I (40 + i)) (nI f) (m0 + k)) (fun s j => eN st s j) ln (ln - od_p m) m s)) ∧ (∀ m, m < k → ∀ s, s < 24 → f (m * 24 + s) = nI 536870912)) (N - 1) (fun k L h hk_k hi_k ih_k => ?_) (fun L h hi_k => ?_) (N - 1) _ _ (by omega) (⟨_, _, _, _, rfl, by rw [ua_ua, ua_eq], fun m h1 h2 s hs => by
          have e9 : m = N - 1 := by omega
          subst e9
          unfold f_fill
          rw [if_pos (by omega), hpn.1, Nat.sub_self]
          rfl, fun m h1 s hs => by
          unfold f_fill
          rw [if_neg (by omega), if_pos (by omega)]⟩)
    · obtain ⟨f, z7, z8, z9, rfl, rfl, hg1, hg2⟩ := hi_k
      rw [dI_s]
      refine q_iload rfl rfl ?_
      refine q_if_ltN rfl (by omega) (fun hcks54 => ?_) (fun hcks54 => ?_)
      · omega
      · refine q_aload_n rfl rfl ?_
        refine q_callV0 rfl hx_8 (Nat.le_of_ble_eq_true rfl) (Nat.le_of_ble_eq_true rfl) (sN_now em) ?_
        refine q_iload rfl rfl ?_
        refine q_callS1 rfl rfl (Nat.le_of_ble_eq_true rfl) (Nat.le_of_ble_eq_true rfl) (sJ6_bitCount_0f7a4 k (by omega)) ?_
        refine q_iaddN rfl ?_
        refine q_istore (L' := [_, _, _, _, _, _, _, _, _, _]) rfl rfl ?_
        refine q_iconst (v := nI 3) rfl rfl ?_
        refine q_iload_n rfl rfl ?_
        refine q_iconst (v := nI 1) rfl rfl ?_
        refine q_isubN rfl (l1) ?_
        refine q_iload rfl rfl ?_
        refine q_callS1 rfl rfl (Nat.le_of_ble_eq_true rfl) (Nat.le_of_ble_eq_true rfl) (sJ6_bitCount_0f7a4 k (by omega)) ?_
        refine q_isubN rfl (by have := hpn.2 k hk_k; omega) ?_
        refine q_imulN rfl ?_
        refine q_istore (L' := [_, _, _, _, _, _, _, _, _, _]) rfl rfl ?_
        refine q_iconst (v := nI 0) rfl rfl ?_
        refine q_istore (L' := [_, _, _, _, _, _, _, _, _, _]) rfl rfl ?_
        refine q_up (Inv := fun i L h => ∃ f, L = [some (.ref 13), some (.ref 5), some (.int (nI ln)), some (.ref 8), some (.ref (20 + 2 * q)), some (.int (nI (N - 1))), some (.int (nI k)), some (.int (nI (m0 + od_p k))), some (.int (nI (3 * (ln - 1 - od_p k)))), some (.int (nI i))] ∧ h = HX I (ua A (F 0) f) J B F ∧ (∀ m, k < m → m < N → ∀ s, s < 24 → f (m * 24 + s) = nI (od_w (fun i k f => gnN b (cL I (40 + i)) (nI f) (m0 + k)) (fun s j => eN st s j) ln (ln - od_p m) m s)) ∧ (∀ m, m < k → ∀ s, s < 24 → f (m * 24 + s) = nI 536870912) ∧ ∀ s, s < 24 → f (k * 24 + s) = nI (od_i (fun i k f => gnN b (cL I (40 + i)) (nI f) (m0 + k)) (fun s j => eN st s j) (fun m' s' => od_w (fun i k f => gnN b (cL I (40 + i)) (nI f) (m0 + k)) (fun s j => eN st s j) ln (ln - 1 - od_p k) m' s') k (od_p k) (ln - 1 - od_p k) s i)) (ln) (fun i L h hk_i hi_i ih_i => ?_) (fun L h hi_i => ?_) (0) _ _ (by omega) (⟨f, rfl, rfl, fun m h1 h2 => hg1 m (by omega) h2, fun m h1 => hg2 m (by omega), fun s hs => hg2 k (by omega) s hs⟩)
        · obtain ⟨f, rfl, rfl, hg1, hg2, hg3⟩ := hi_i
          refine q_iload rfl rfl ?_
          refine q_iload_n rfl rfl ?_
          refine q_icmp_geN rfl (by omega) (by omega) (fun hcis88 => ?_) (fun hcis88 => ?_)
          · omega
          · refine q_iload rfl rfl ?_
            refine q_aload_n rfl rfl ?_
            refine q_alen rfl (by decide) hx_5 (by decide) (v := nI _) rfl ?_
            refine q_icmp_geN rfl (by omega) (by omega) (fun hcis95 => ?_) (fun hcis95 => ?_)
            · omega
            · refine q_iload rfl rfl ?_
              refine q_iload rfl rfl ?_
              refine q_ishr rfl ?_
              refine q_iconst (v := nI 1) rfl rfl ?_
              refine q_iand rfl ?_
              refine q_cn (sv_has k (by omega) i (by omega)) ?_
              refine q_if_neN rfl (by have := sv_t_lt k i; omega) (fun hcis105 => ?_) (fun hcis105 => ?_)
              · refine q_iincN (c := 1) (L' := [_, _, _, _, _, _, _, _, _, _]) rfl rfl rfl rfl ?_
                refine q_goto rfl ?_
                exact ih_i _ _ (⟨f, rfl, rfl, hg1, hg2, oi_n hg3 hcis105⟩)
              · refine q_aload_n rfl rfl ?_
                refine q_iload rfl rfl ?_
                refine q_aald rfl hx_5 (by omega) (by decide) rfl (xr5_at i (by omega)) ?_
                refine q_iload rfl rfl ?_
                refine q_callV1 rfl (hx_light i (by omega)) (Nat.le_of_ble_eq_true rfl) (Nat.le_of_ble_eq_true rfl) (sK_bright (hx_light i (by omega)) (lks i (by omega)) _ (by have := od_ple k; omega)) ?_
                refine q_if_leN rfl (by have := brN_le (cL I (40 + i)) (m0 + od_p k); have := (lks i (by omega)).1.2; omega) (fun hcis117 => ?_) (fun hcis117 => ?_)
                · refine q_iincN (c := 1) (L' := [_, _, _, _, _, _, _, _, _, _]) rfl rfl rfl rfl ?_
                  refine q_goto rfl ?_
                  exact ih_i _ _ (⟨f, rfl, rfl, hg1, hg2, oi_z hg3 hcis105 (fun f => gn_b0 hcis117 f)⟩)
                · refine q_aload_n rfl rfl ?_
                  refine q_iload rfl rfl ?_
                  refine q_iload rfl rfl ?_
                  refine q_iconst (v := nI 1) rfl rfl ?_
                  refine q_iload rfl rfl ?_
                  refine q_ishl rfl ?_
                  refine q_cn (sv_shl i (by omega)) ?_
                  refine q_ior rfl ?_
                  refine q_cn (od_or i (by omega) k (by omega) hcis105) ?_
                  refine q_aload_n rfl rfl ?_
                  refine q_iload rfl rfl ?_
                  refine q_aald rfl hx_5 (by omega) (by decide) rfl (xr5_at i (by omega)) ?_
                  refine q_iload rfl rfl ?_
                  refine q_callV1 rfl (hx_light i (by omega)) (Nat.le_of_ble_eq_true rfl) (Nat.le_of_ble_eq_true rfl) (sK_place (hx_light i (by omega)) (lks i (by omega)) _) ?_
                  refine q_iload rfl rfl ?_
                  refine q_iload rfl rfl ?_
                  refine q_ishl rfl ?_
                  refine q_cn (od_fig (ln - 1 - od_p k) (by omega) i (by omega)) ?_
                  have hadd := od_add ln l5 k (by omega) i hk_i hcis105
                  rw [hN] at hadd
                  have hpk := hpn.2 k hk_k
                  have h2i : 0 < 2 ^ i := Nat.two_pow_pos i
                  obtain ⟨f3, hlo, hf3a, hf3b⟩ := sX0_lowerOrders (X := X) (I := I) (A := ua A (F 0) f) (J := J) (B := B) (F := F) hS st hst e7 b hb eb i (od_p k) k (k + 2 ^ i) (i * 8 ^ (ln - 1 - od_p k)) (by omega) (by omega) (by omega) (od_fig2 (by omega) (by omega)) (fun i => cL I (40 + i)) m0 hcis117 (fun s => od_w (fun i k f => gnN b (cL I (40 + i)) (nI f) (m0 + k)) (fun s j => eN st s j) ln (ln - 1 - od_p k) (k + 2 ^ i) s) (fun s => od_i (fun i k f => gnN b (cL I (40 + i)) (nI f) (m0 + k)) (fun s j => eN st s j) (fun m' s' => od_w (fun i k f => gnN b (cL I (40 + i)) (nI f) (m0 + k)) (fun s j => eN st s j) ln (ln - 1 - od_p k) m' s') k (od_p k) (ln - 1 - od_p k) s i) (fun s hs => by rw [ua_eq]; have h7 := hg1 (k + 2 ^ i) (by omega) (by omega) s hs; rw [hadd.1, show ln - (od_p k + 1) = (ln - 1 - od_p k) by omega] at h7; exact h7) (fun s => od_w_le _ _ _) (fun s hs => by rw [ua_eq]; exact hg3 s hs) (fun s => od_i_le i)
                  refine q_callV4 rfl hx_13 (Nat.le_of_ble_eq_true rfl) (Nat.le_of_ble_eq_true rfl) (hlo) ?_
                  refine q_iincN (c := 1) (L' := [_, _, _, _, _, _, _, _, _, _]) rfl rfl rfl rfl ?_
                  refine q_goto rfl ?_
                  exact ih_i _ _ (⟨f3, rfl, by rw [ua_ua], fun m h1 h2 s hs => by rw [hf3b _ (by omega), ua_eq]; exact hg1 m h1 h2 s hs, fun m h1 s hs => by rw [hf3b _ (by omega), ua_eq]; exact hg2 m h1 s hs, oi_y hf3a hcis105⟩)
        · obtain ⟨f, rfl, rfl, hg1, hg2, hg3⟩ := hi_i
          refine q_iload rfl rfl ?_
          refine q_iload_n rfl rfl ?_
          refine q_icmp_geN rfl (by omega) (by omega) (fun hcif88 => ?_) (fun hcif88 => ?_)
          · refine q_iinc (v := dI k) (L' := [_, _, _, _, _, _, _, _, _, _]) rfl rfl (dI_m k) rfl ?_
            refine q_goto rfl ?_
            exact ih_k _ _ (⟨_, _, _, _, rfl, rfl, fun m h1 h2 s hs => by
                  by_cases e9 : m = k
                  · subst e9
                    rw [od_w_row (hpn.2 m hk_k)]
                    exact hg3 s hs
                  · exact hg1 m (by omega) h2 s hs, fun m h1 s hs => hg2 m (by omega) s hs⟩)
          · omega
    · obtain ⟨f, z7, z8, z9, rfl, rfl, hg1, hg2⟩ := hi_k
      refine q_iload rfl rfl ?_
      refine q_if_lt rfl (fun hckf54 => ?_) (fun hckf54 => ?_)
      · refine q_aload_n rfl rfl ?_
        refine q_getfield rfl hx_13 rfl ?_
        refine q_aload_n rfl rfl ?_
        refine q_callV0 rfl hx_8 (Nat.le_of_ble_eq_true rfl) (Nat.le_of_ble_eq_true rfl) (sN_first es) ?_
        refine q_callS1 rfl rfl (Nat.le_of_ble_eq_true rfl) (Nat.le_of_ble_eq_true rfl) (sK_round _) ?_
        refine q_cn (rdN_s hs) ?_
        refine q_iald rfl ((F_lt hS).1) (hx_T hS) (by omega) (by decide) (((show ua A (F 0) f (F 0) s = nI (od_w (fun i k f => gnN b (cL I (40 + i)) (nI f) (m0 + k)) (fun s j => eN st s j) ln ln 0 s) from by rw [ua_eq]; have h7 := hg1 0 (Nat.le_refl _) (by omega) s hs; rw [Nat.zero_mul, Nat.zero_add] at h7; exact h7)).trans (congrArg nI hW)) ?_
        refine q_istore (L' := [_, _, _, _, _, _, _, _, _, _]) rfl rfl ?_
        refine q_iload rfl rfl ?_
        refine q_ldc (v := nI 536870912) rfl rfl ?_
        refine q_icmp_ltN rfl (by omega) (by omega) (fun hckf177 => ?_) (fun hckf177 => ?_)
        · refine q_aload rfl rfl ?_
          refine q_iload_n rfl rfl ?_
          refine q_iconst (v := nI 0) rfl rfl ?_
          refine q_callV2 rfl (hx_line q (by omega)) (Nat.le_of_ble_eq_true rfl) (Nat.le_of_ble_eq_true rfl) (sL_renew q (by omega) ln (by rw [rm_row hq]; omega) 0) ?_
          refine q_iconst (v := nI 0) rfl rfl ?_
          refine q_istore (L' := [_, _, _, _, _, _, _, _, _, _]) rfl rfl ?_
          refine q_up (Inv := fun k L h => L = [some (.ref 13), some (.ref 5), some (.int (nI ln)), some (.ref 8), some (.ref (20 + 2 * q)), some (.int (nI (N - 1))), some (.int (nI (E * 32768 + od_n p))), some (.int (nI k)), z8, z9] ∧ h = HX (u2 I (20 + 2 * q) 1 (nI ln)) (ua (ua A (F 0) f) (21 + 2 * q) (oN dg (f_fill ((ua A (F 0) f) (21 + 2 * q)) 0 0 (rm q)) k)) J B F) (ln) (fun k L h hk_k hi_k ih_k => ?_) (fun L h hi_k => ?_) (0) _ _ (by omega) (⟨rfl, rfl⟩)
          · obtain ⟨rfl, rfl⟩ := hi_k
            refine q_iload rfl rfl ?_
            refine q_iload_n rfl rfl ?_
            refine q_icmp_geN rfl (by omega) (by omega) (fun hcks196 => ?_) (fun hcks196 => ?_)
            · omega
            · refine q_aload rfl rfl ?_
              refine q_iload rfl rfl ?_
              refine q_iload rfl rfl ?_
              refine q_iconst (v := nI 3) rfl rfl ?_
              refine q_iload_n rfl rfl ?_
              refine q_iconst (v := nI 1) rfl rfl ?_
              refine q_isubN rfl (l1) ?_
              refine q_iload rfl rfl ?_
              refine q_isubN rfl (by omega) ?_
              refine q_imulN rfl ?_
              refine q_ishr rfl ?_
              refine q_cn (od_shr (by omega) (by omega)) ?_
              refine q_bipush (v := nI 7) rfl rfl ?_
              refine q_iand rfl ?_
              refine q_cn ((pk_andN (Nat.lt_of_le_of_lt (Nat.div_le_self _ _) (by omega)) 3 (by decide)).trans (congrArg nI ((od_dig (by omega) (by omega)).trans (hdg k hk_k)))) ?_
              refine q_callV2 rfl (hx_line q (by omega)) (Nat.le_of_ble_eq_true rfl) (Nat.le_of_ble_eq_true rfl) (sL_write q (by omega) ln (by rw [rm_row hq]; omega) u2_eq k hk_k _) ?_
              refine q_iincN (c := 1) (L' := [_, _, _, _, _, _, _, _, _, _]) rfl rfl rfl rfl ?_
              refine q_goto rfl ?_
              exact ih_k _ _ (⟨rfl, by rw [ua_ua, ua_eq]; rfl⟩)
          · obtain ⟨rfl, rfl⟩ := hi_k
            refine q_iload rfl rfl ?_
            refine q_iload_n rfl rfl ?_
            refine q_icmp_geN rfl (by omega) (by omega) (fun hckf196 => ?_) (fun hckf196 => ?_)
            · refine q_iload rfl rfl ?_
              refine q_bipush (v := nI 15) rfl rfl ?_
              refine q_ishr rfl ?_
              refine q_cn ((od_shr (d := 15) (by omega) (by decide)).trans (congrArg nI (show _ = E from by omega))) ?_
              refine q_iret rfl rfl ?_
              exact ⟨f, rfl, rfl, trivial⟩
            · omega
        · omega
      · exact absurd (by decide) hckf54)
  subst hr_
  subst hh_
  exact ⟨f, he_, hf_⟩
