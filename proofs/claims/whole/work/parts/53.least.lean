/-! the least by turns: the class's side -/
theorem f_min_nI {x y : Nat} (hx : x < 2 ^ 31) (hy : y < 2 ^ 31) : f_min (nI x) (nI y) = nI (min x y) := by
  unfold f_min
  by_cases h : y < x
  · rw [if_pos (nI_lt h hx), Nat.min_eq_right (by omega)]
  · rw [if_neg (nI_nlt (by omega) hy), Nat.min_eq_left (by omega)]
theorem f_max_nI {x y : Nat} (hx : x < 2 ^ 31) (hy : y < 2 ^ 31) : f_max (nI x) (nI y) = nI (max x y) := by
  unfold f_max
  by_cases h : x < y
  · rw [if_pos (nI_lt h hy), Nat.max_eq_right (by omega)]
  · rw [if_neg (nI_nlt (by omega) hx), Nat.max_eq_left (by omega)]
theorem ab1 : ∀ j, j < 13 → f_min (f_abs (sI 6 j)) (nI 1) = nI (if j = 6 then 0 else 1) := by decide +kernel
/-- what a turn costs: its effort, or 1 -/
def cN (bt st s j : Nat) : Nat := if bt = 0 then eN st s j else if j = 6 then 0 else 1
theorem cN_le (bt st s j : Nat) (hj : j < 13) : cN bt st s j ≤ 10 := by
  unfold cN
  split
  · exact eN_le st s j hj
  · split <;> omega
def lBk (N : Nat) (g c : Nat → Nat → Nat) (D : Nat → Nat) (k s j : Nat) : Nat := if g k (tN s j) = 0 then N else c s j + D (tN s j)
def lMn (N : Nat) (g c : Nat → Nat → Nat) (D : Nat → Nat) (k s : Nat) : Nat → Nat
  | 0 => N
  | j + 1 => min (lMn N g c D k s j) (lBk N g c D k s j)
theorem lMn_le {N : Nat} {g c : Nat → Nat → Nat} {D : Nat → Nat} {k s : Nat} (j : Nat) : lMn N g c D k s j ≤ N := by
  induction j with
  | zero => exact Nat.le_refl _
  | succ j ih => exact Nat.le_trans (Nat.min_le_left _ _) ih
def dpR (N : Nat) (g c : Nat → Nat → Nat) (n : Nat) : Nat → Nat → Nat
  | 0, _ => 0
  | i + 1, s => lMn N g c (dpR N g c n i) (n - (i + 1)) s 13
theorem dpR_le {N : Nat} {g c : Nat → Nat → Nat} {n : Nat} (i s : Nat) : dpR N g c n i s ≤ N := by
  cases i with
  | zero => exact Nat.zero_le _
  | succ i => exact lMn_le 13
theorem sJ7_rangeCheck_23922 {X : XX} {h : XH} (l a e : Nat) (h1 : a ≤ e) (h2 : e ≤ l) (hl : l < 2 ^ 31) : x_ev X xT 1 255 [.int (nI l), .int (nI a), .int (nI e)] h none h := by
  refine q_ev (L := [some (.int (nI l)), some (.int (nI a)), some (.int (nI e))]) tJ7_rangeCheck_23922 (Nat.le_of_ble_eq_true rfl) rfl ?_
  refine q_iload_n rfl rfl ?_
  refine q_iload_n rfl rfl ?_
  refine q_icmp_leN rfl (by omega) (by omega) (fun hc2 => ?_) (fun hc2 => ?_)
  · refine q_iload_n rfl rfl ?_
    refine q_if_geN rfl (by omega) (fun hc47 => ?_) (fun hc47 => ?_)
    · refine q_iload_n rfl rfl ?_
      refine q_iload_n rfl rfl ?_
      refine q_icmp_leN rfl (by omega) (by omega) (fun hc61 => ?_) (fun hc61 => ?_)
      · refine q_vret rfl rfl ?_
        exact ⟨rfl, rfl⟩
      · omega
    · omega
  · omega
theorem sJ7_fill_fda19 {X : XX} {I A : Nat → Nat → Int32} {J B : Nat → Nat → Int64} {F : Nat → Nat} (hS : RelS F) (a e : Nat) (v : Int32) (h1 : a ≤ e) (h2 : e ≤ 984) : x_ev X xT 2 258 [.ref (F 0), .int (nI a), .int (nI e), .int v] (HX I A J B F) none (HX I (ua A (F 0) (f_fill (A (F 0)) v a (e - a))) J B F) := by
  refine q_ev (L := [some (.ref (F 0)), some (.int (nI a)), some (.int (nI e)), some (.int v), none]) tJ7_fill_fda19 (Nat.le_of_ble_eq_true rfl) rfl ?_
  refine q_aload_n rfl rfl ?_
  refine q_alen rfl ((F_lt hS).1) (hx_T hS) (by decide) (v := nI _) rfl ?_
  refine q_iload_n rfl rfl ?_
  refine q_iload_n rfl rfl ?_
  refine q_callS3 rfl rfl (Nat.le_of_ble_eq_true rfl) (Nat.le_of_ble_eq_true rfl) (sJ7_rangeCheck_23922 984 a e h1 h2 (by decide)) ?_
  refine q_iload_n rfl rfl ?_
  refine q_istore (L' := [_, _, _, _, _]) rfl rfl ?_
  refine q_up (Inv := fun k L h => L = [some (.ref (F 0)), some (.int (nI a)), some (.int (nI e)), some (.int v), some (.int (nI k))] ∧ h = HX I (ua A (F 0) (f_fill (A (F 0)) v a (k - a))) J B F ∧ a ≤ k) (e) (fun k L h hk_k hi_k ih_k => ?_) (fun L h hi_k => ?_) (a) _ _ (by omega) (⟨rfl, by rw [Nat.sub_self, f_fill_0, ua_self rfl], Nat.le_refl _⟩)
  · obtain ⟨rfl, rfl, hak⟩ := hi_k
    refine q_iload rfl rfl ?_
    refine q_iload_n rfl rfl ?_
    refine q_icmp_geN rfl (by omega) (by omega) (fun hcks13 => ?_) (fun hcks13 => ?_)
    · omega
    · refine q_aload_n rfl rfl ?_
      refine q_iload rfl rfl ?_
      refine q_iload_n rfl rfl ?_
      refine q_iastN rfl (hx_T hS) (by omega) (by decide) ?_
      refine q_heap (ha_T hS _) ?_
      refine q_iincN (c := 1) (L' := [_, _, _, _, _]) rfl rfl rfl rfl ?_
      refine q_goto rfl ?_
      exact ih_k _ _ (⟨rfl, by rw [ua_ua, ua_eq, show upd (f_fill (A (F 0)) v a (k - a)) k v = f_fill (A (F 0)) v a (k + 1 - a) from by have h9 := f_fill_u (A (F 0)) v a (k - a); rw [show a + (k - a) = k by omega, show k - a + 1 = k + 1 - a by omega] at h9; exact h9], by omega⟩)
  · obtain ⟨rfl, rfl, hak⟩ := hi_k
    refine q_iload rfl rfl ?_
    refine q_iload_n rfl rfl ?_
    refine q_icmp_geN rfl (by omega) (by omega) (fun hckf13 => ?_) (fun hckf13 => ?_)
    · refine q_vret rfl rfl ?_
      exact ⟨rfl, rfl⟩
    · omega
set_option maxHeartbeats 1000000 in
theorem sX0_leastBehind {X : XX} {I A : Nat → Nat → Int32} {J B : Nat → Nat → Int64} {F : Nat → Nat} (hS : RelS F) (st : Nat) (hst : st < 24) (e7 : I 7 1 = nI st) (b m n : Nat) (l : LT) (hl9 : l.2.2.2 ≤ 9) (hV : GV b l m n A) (n8 : n ≤ 8) (k s j bt d0 : Nat) (hk : k < n) (hs : s < 24) (hj : j < 13) (hb1 : bt ≤ 1) (hD : A (F 0) ((k + 1) * 24 + tN s j) = nI d0) (d0N : d0 ≤ 536870912) : x_ev X xT 4 3 [.ref 13, .int (nI k), .int (nI s), .int (sI 6 j), .int (nI bt)] (HX I A J B F) (some (.int (nI (min 536870912 (lBk 536870912 (fun k f => gnN b l (nI f) (m + k)) (cN bt st) (fun _ => d0) k s j))))) (HX I A J B F) := by
  have ht := tN_lt s j
  have hg9 := gnN_le (b := b) (l := l) (fi := nI (tN s j)) (m := m + k) hl9
  have hc9 := cN_le bt st s j hj
  refine q_ev (L := [some (.ref 13), some (.int (nI k)), some (.int (nI s)), some (.int (sI 6 j)), some (.int (nI bt)), none, none]) tX0_leastBehind (Nat.le_of_ble_eq_true rfl) rfl ?_
  refine q_iload_n rfl rfl ?_
  refine q_iload_n rfl rfl ?_
  refine q_iadd rfl ?_
  refine q_callS1 rfl rfl (Nat.le_of_ble_eq_true rfl) (Nat.le_of_ble_eq_true rfl) (sK_round _) ?_
  refine q_cn (show _ = nI (tN s j) by rw [rdN_t hs hj]) ?_
  refine q_istore (L' := [_, _, _, _, _, _, _]) rfl rfl ?_
  refine q_aload_n rfl rfl ?_
  refine q_getfield rfl hx_13 rfl ?_
  refine q_iload_n rfl rfl ?_
  refine q_iload rfl rfl ?_
  refine q_callV2 rfl hx_11 (Nat.le_of_ble_eq_true rfl) (Nat.le_of_ble_eq_true rfl) (sX7_gain k (tN s j) _ (by omega) ht (hV k hk _ ht)) ?_
  refine q_if_neN rfl (by omega) (fun hc18 => ?_) (fun hc18 => ?_)
  · refine q_iload rfl rfl ?_
    refine q_if_eqN rfl (by omega) (fun hc26 => ?_) (fun hc26 => ?_)
    · refine q_aload_n rfl rfl ?_
      refine q_getfield rfl hx_13 rfl ?_
      refine q_iload_n rfl rfl ?_
      refine q_iload_n rfl rfl ?_
      refine q_callV2 rfl hx_7 (Nat.le_of_ble_eq_true rfl) (Nat.le_of_ble_eq_true rfl) (sK_eff e7 _ _) ?_
      refine q_cn (ef_eq hst hs hj) ?_
      refine q_cn (show _ = nI (cN bt st s j) from by unfold cN; first | rw [if_pos hc26] | rw [if_neg hc26]) ?_
      refine q_istore (L' := [_, _, _, _, _, _, _]) rfl rfl ?_
      refine q_ldc (v := nI 536870912) rfl rfl ?_
      refine q_iload rfl rfl ?_
      refine q_aload_n rfl rfl ?_
      refine q_getfield rfl hx_13 rfl ?_
      refine q_iload_n rfl rfl ?_
      refine q_iconst (v := nI 1) rfl rfl ?_
      refine q_iaddN rfl ?_
      refine q_bipush (v := nI 24) rfl rfl ?_
      refine q_imulN rfl ?_
      refine q_iload rfl rfl ?_
      refine q_iaddN rfl ?_
      refine q_iald rfl ((F_lt hS).1) (hx_T hS) (by omega) (by decide) (hD) ?_
      refine q_iaddN rfl ?_
      refine q_callS2 rfl rfl (Nat.le_of_ble_eq_true rfl) (Nat.le_of_ble_eq_true rfl) (sJ9_min_7cf53 _ _) ?_
      refine q_cn (f_min_nI (by omega) (by omega)) ?_
      refine q_iret rfl rfl ?_
      exact ⟨vI (by unfold lBk; rw [if_neg hc18]), rfl⟩
    · refine q_iload_n rfl rfl ?_
      refine q_callS1 rfl rfl (Nat.le_of_ble_eq_true rfl) (Nat.le_of_ble_eq_true rfl) (sJ9_abs_0f7a4 _) ?_
      refine q_iconst (v := nI 1) rfl rfl ?_
      refine q_callS2 rfl rfl (Nat.le_of_ble_eq_true rfl) (Nat.le_of_ble_eq_true rfl) (sJ9_min_7cf53 _ _) ?_
      refine q_cn (ab1 j hj) ?_
      refine q_goto rfl ?_
      refine q_cn (show _ = nI (cN bt st s j) from by unfold cN; first | rw [if_pos hc26] | rw [if_neg hc26]) ?_
      refine q_istore (L' := [_, _, _, _, _, _, _]) rfl rfl ?_
      refine q_ldc (v := nI 536870912) rfl rfl ?_
      refine q_iload rfl rfl ?_
      refine q_aload_n rfl rfl ?_
      refine q_getfield rfl hx_13 rfl ?_
      refine q_iload_n rfl rfl ?_
      refine q_iconst (v := nI 1) rfl rfl ?_
      refine q_iaddN rfl ?_
      refine q_bipush (v := nI 24) rfl rfl ?_
      refine q_imulN rfl ?_
      refine q_iload rfl rfl ?_
      refine q_iaddN rfl ?_
      refine q_iald rfl ((F_lt hS).1) (hx_T hS) (by omega) (by decide) (hD) ?_
      refine q_iaddN rfl ?_
      refine q_callS2 rfl rfl (Nat.le_of_ble_eq_true rfl) (Nat.le_of_ble_eq_true rfl) (sJ9_min_7cf53 _ _) ?_
      refine q_cn (f_min_nI (by omega) (by omega)) ?_
      refine q_iret rfl rfl ?_
      exact ⟨vI (by unfold lBk; rw [if_neg hc18]), rfl⟩
  · refine q_ldc (v := nI 536870912) rfl rfl ?_
    refine q_iret rfl rfl ?_
    exact ⟨vI (by unfold lBk; rw [if_pos (by omega), Nat.min_self]), rfl⟩
theorem dpR_row {N : Nat} {g c : Nat → Nat → Nat} {n k s : Nat} (hk : k < n) : dpR N g c n (n - k) s = lMn N g c (dpR N g c n (n - (k + 1))) k s 13 := by
  rw [show n - k = (n - (k + 1)) + 1 by omega]
  show lMn N g c (dpR N g c n (n - (k + 1))) (n - (n - (k + 1) + 1)) s 13 = _
  rw [show n - (n - (k + 1) + 1) = k by omega]
theorem lBk_c {N : Nat} {g c : Nat → Nat → Nat} {D : Nat → Nat} {k s j : Nat} : lBk N g c (fun _ => D (tN s j)) k s j = lBk N g c D k s j := rfl
set_option maxHeartbeats 2000000 in
theorem sX0_least {X : XX} {I A : Nat → Nat → Int32} {J B : Nat → Nat → Int64} {F : Nat → Nat} (hS : RelS F) (st : Nat) (hst : st < 24) (e7 : I 7 1 = nI st) (b m n : Nat) (l : LT) (hl9 : l.2.2.2 ≤ 9) (hV : GV b l m n A) (n8 : n ≤ 8) (n1 : 1 ≤ n) (s0 bt : Nat) (hs0 : s0 < 24) (hb1 : bt ≤ 1) : ∃ g, x_ev X xT 5 1 [.ref 13, .int (nI s0), .int (nI n), .int (nI bt)] (HX I A J B F) (some (.int (if (dpR 536870912 (fun k f => gnN b l (nI f) (m + k)) (cN bt st) n n s0) < 536870912 then nI ((dpR 536870912 (fun k f => gnN b l (nI f) (m + k)) (cN bt st) n n s0)) else -9))) (HX I (ua A (F 0) g) J B F) ∧ (∀ i, i ≤ n → 0 ≤ n - i → ∀ f, f < 24 → g ((n - i) * 24 + f) = nI (dpR 536870912 (fun k f => gnN b l (nI f) (m + k)) (cN bt st) n i f)) := by
  obtain ⟨r_, h_, he_, g, hr_, hh_, hf_⟩ := q_evx (X := X) (d := 4) (as := [.ref 13, .int (nI s0), .int (nI n), .int (nI bt)]) (h := (HX I A J B F)) (P := fun r_ h_ => ∃ g, r_ = (some (.int (if (dpR 536870912 (fun k f => gnN b l (nI f) (m + k)) (cN bt st) n n s0) < 536870912 then nI ((dpR 536870912 (fun k f => gnN b l (nI f) (m + k)) (cN bt st) n n s0)) else -9))) ∧ h_ = (HX I (ua A (F 0) g) J B F) ∧ (∀ i, i ≤ n → 0 ≤ n - i → ∀ f, f < 24 → g ((n - i) * 24 + f) = nI (dpR 536870912 (fun k f => gnN b l (nI f) (m + k)) (cN bt st) n i f))) (L := [some (.ref 13), some (.int (nI s0)), some (.int (nI n)), some (.int (nI bt)), none, none, none, none]) tX0_least (Nat.le_of_ble_eq_true rfl) rfl (by
    refine q_aload_n rfl rfl ?_
    refine q_getfield rfl hx_13 rfl ?_
    refine q_iload_n rfl rfl ?_
    refine q_bipush (v := nI 24) rfl rfl ?_
    refine q_imulN rfl ?_
    refine q_iload_n rfl rfl ?_
    refine q_iconst (v := nI 1) rfl rfl ?_
    refine q_iaddN rfl ?_
    refine q_bipush (v := nI 24) rfl rfl ?_
    refine q_imulN rfl ?_
    refine q_iconst (v := 0) rfl rfl ?_
    refine q_callS4 rfl rfl (Nat.le_of_ble_eq_true rfl) (Nat.le_of_ble_eq_true rfl) (sJ7_fill_fda19 hS (n * 24) ((n + 1) * 24) _ (by omega) (by omega)) ?_
    refine q_iload_n rfl rfl ?_
    refine q_iconst (v := nI 1) rfl rfl ?_
    refine q_isubN rfl (n1) ?_
    refine q_istore (L' := [_, _, _, _, _, _, _, _]) rfl rfl ?_
    refine q_dn (Inv := fun k L h => ∃ g z5 z6 z7, L = [some (.ref 13), some (.int (nI s0)), some (.int (nI n)), some (.int (nI bt)), some (.int (dI k)), z5, z6, z7] ∧ h = HX I (ua A (F 0) g) J B F ∧ (∀ i, i ≤ n → k ≤ n - i → ∀ f, f < 24 → g ((n - i) * 24 + f) = nI (dpR 536870912 (fun k f => gnN b l (nI f) (m + k)) (cN bt st) n i f))) (n) (fun k L h hk_k hi_k ih_k => ?_) (fun L h hi_k => ?_) (n) _ _ (by omega) (⟨_, _, _, _, by rw [show nI (n - 1) = dI n from (by rw [← dI_s, show n - 1 + 1 = n by omega])], rfl, fun i hi hk f hf => by have e0 : i = 0 := (by omega); subst e0; show f_fill _ _ _ _ ((n - 0) * 24 + f) = nI 0; unfold f_fill; rw [if_pos (by omega)]; rfl⟩)
    · obtain ⟨g, z5, z6, z7, rfl, rfl, hg⟩ := hi_k
      rw [dI_s]
      refine q_iload rfl rfl ?_
      refine q_if_ltN rfl (by omega) (fun hcks25 => ?_) (fun hcks25 => ?_)
      · omega
      · refine q_iconst (v := nI 0) rfl rfl ?_
        refine q_istore (L' := [_, _, _, _, _, _, _, _]) rfl rfl ?_
        refine q_up (Inv := fun x L h => ∃ g z6 z7, L = [some (.ref 13), some (.int (nI s0)), some (.int (nI n)), some (.int (nI bt)), some (.int (nI k)), some (.int (nI x)), z6, z7] ∧ h = HX I (ua A (F 0) g) J B F ∧ (∀ i, i ≤ n → k + 1 ≤ n - i → ∀ f, f < 24 → g ((n - i) * 24 + f) = nI (dpR 536870912 (fun k f => gnN b l (nI f) (m + k)) (cN bt st) n i f)) ∧ ∀ f, f < x → g (k * 24 + f) = nI (lMn 536870912 (fun k f => gnN b l (nI f) (m + k)) (cN bt st) (dpR 536870912 (fun k f => gnN b l (nI f) (m + k)) (cN bt st) n (n - (k + 1))) k f 13)) (24) (fun x L h hk_x hi_x ih_x => ?_) (fun L h hi_x => ?_) (0) _ _ (by omega) (⟨g, _, _, rfl, rfl, hg, fun f hf => absurd hf (Nat.not_lt_zero f)⟩)
        · obtain ⟨g, z6, z7, rfl, rfl, hg, hg2⟩ := hi_x
          refine q_iload rfl rfl ?_
          refine q_bipush (v := nI 24) rfl rfl ?_
          refine q_icmp_geN rfl (by omega) (by omega) (fun hcxs35 => ?_) (fun hcxs35 => ?_)
          · omega
          · refine q_ldc (v := nI 536870912) rfl rfl ?_
            refine q_istore (L' := [_, _, _, _, _, _, _, _]) rfl rfl ?_
            refine q_bipush (v := (-6)) rfl rfl ?_
            refine q_istore (L' := [_, _, _, _, _, _, _, _]) rfl rfl ?_
            refine q_up (Inv := fun j L h => L = [some (.ref 13), some (.int (nI s0)), some (.int (nI n)), some (.int (nI bt)), some (.int (nI k)), some (.int (nI x)), some (.int (nI (lMn 536870912 (fun k f => gnN b l (nI f) (m + k)) (cN bt st) (dpR 536870912 (fun k f => gnN b l (nI f) (m + k)) (cN bt st) n (n - (k + 1))) k x j))), some (.int (sI 6 j))] ∧ h = HX I (ua A (F 0) g) J B F) (13) (fun j L h hk_j hi_j ih_j => ?_) (fun L h hi_j => ?_) (0) _ _ (by omega) (⟨rfl, rfl⟩)
            · obtain ⟨rfl, rfl⟩ := hi_j
              refine q_iload rfl rfl ?_
              refine q_bipush (v := nI 6) rfl rfl ?_
              refine q_icmp_gt rfl (fun hcjs50 => ?_) (fun hcjs50 => ?_)
              · exact absurd ((sI_le (c := 6) (m := 6) (by omega) (by omega) (by omega)).mpr (by omega)) (Int32.not_le.mpr hcjs50)
              · refine q_iload rfl rfl ?_
                refine q_aload_n rfl rfl ?_
                refine q_iload rfl rfl ?_
                refine q_iload rfl rfl ?_
                refine q_iload rfl rfl ?_
                refine q_iload_n rfl rfl ?_
                refine q_callV4 rfl hx_13 (Nat.le_of_ble_eq_true rfl) (Nat.le_of_ble_eq_true rfl) (sX0_leastBehind hS st hst e7 b m n l hl9 (GV_ua (F_lt hS).2.2.1 hV) n8 k x j bt ((dpR 536870912 (fun k f => gnN b l (nI f) (m + k)) (cN bt st) n (n - (k + 1)) (tN x j))) hk_k hk_x (by omega) hb1 (by rw [ua_eq]; have h7 := hg (n - (k + 1)) (by omega) (by omega) (tN x j) (tN_lt x j); rw [show n - (n - (k + 1)) = k + 1 by omega] at h7; exact h7) (dpR_le _ _)) ?_
                refine q_callS2 rfl rfl (Nat.le_of_ble_eq_true rfl) (Nat.le_of_ble_eq_true rfl) (sJ9_min_7cf53 _ _) ?_
                refine q_cn (f_min_nI (by have := lMn_le (N := 536870912) (g := (fun k f => gnN b l (nI f) (m + k))) (c := cN bt st) (D := (dpR 536870912 (fun k f => gnN b l (nI f) (m + k)) (cN bt st) n (n - (k + 1)))) (k := k) (s := x) j; omega) (by omega)) ?_
                refine q_istore (L' := [_, _, _, _, _, _, _, _]) rfl rfl ?_
                refine q_iinc (v := sI 6 (j + 1)) (L' := [_, _, _, _, _, _, _, _]) rfl rfl (sI_inc 6 j) rfl ?_
                refine q_goto rfl ?_
                exact ih_j _ _ (⟨by rw [show (lMn 536870912 (fun k f => gnN b l (nI f) (m + k)) (cN bt st) (dpR 536870912 (fun k f => gnN b l (nI f) (m + k)) (cN bt st) n (n - (k + 1))) k x (j + 1)) = min (lMn 536870912 (fun k f => gnN b l (nI f) (m + k)) (cN bt st) (dpR 536870912 (fun k f => gnN b l (nI f) (m + k)) (cN bt st) n (n - (k + 1))) k x j) (lBk 536870912 (fun k f => gnN b l (nI f) (m + k)) (cN bt st) (dpR 536870912 (fun k f => gnN b l (nI f) (m + k)) (cN bt st) n (n - (k + 1))) k x j) from rfl]; congr 5; rw [← Nat.min_assoc, Nat.min_eq_left (lMn_le j)]; rfl, rfl⟩)
            · obtain ⟨rfl, rfl⟩ := hi_j
              refine q_iload rfl rfl ?_
              refine q_bipush (v := nI 6) rfl rfl ?_
              refine q_icmp_gt rfl (fun hcjf50 => ?_) (fun hcjf50 => ?_)
              · refine q_aload_n rfl rfl ?_
                refine q_getfield rfl hx_13 rfl ?_
                refine q_iload rfl rfl ?_
                refine q_bipush (v := nI 24) rfl rfl ?_
                refine q_imulN rfl ?_
                refine q_iload rfl rfl ?_
                refine q_iaddN rfl ?_
                refine q_iload rfl rfl ?_
                refine q_iastN rfl (hx_T hS) (by omega) (by decide) ?_
                refine q_heap (ha_T hS _) ?_
                refine q_iincN (c := 1) (L' := [_, _, _, _, _, _, _, _]) rfl rfl rfl rfl ?_
                refine q_goto rfl ?_
                exact ih_x _ _ (⟨_, _, _, rfl, by rw [ua_ua, ua_eq], fun i hi hki f hf => by rw [pk_un (by omega)]; exact hg i hi hki f hf, fun f hf => by by_cases e : f = x; subst e; exact pk_us; rw [pk_un (by omega)]; exact hg2 f (by omega)⟩)
              · exact absurd hcjf50 (by decide)
        · obtain ⟨g, z6, z7, rfl, rfl, hg, hg2⟩ := hi_x
          refine q_iload rfl rfl ?_
          refine q_bipush (v := nI 24) rfl rfl ?_
          refine q_icmp_geN rfl (by omega) (by omega) (fun hcxf35 => ?_) (fun hcxf35 => ?_)
          · refine q_iinc (v := dI k) (L' := [_, _, _, _, _, _, _, _]) rfl rfl (dI_m k) rfl ?_
            refine q_goto rfl ?_
            exact ih_k _ _ (⟨_, _, _, _, rfl, rfl, fun i hi hki f hf => by by_cases e : i = n - k; subst e; rw [show n - (n - k) = k by omega, dpR_row hk_k]; exact hg2 f hf; exact hg i hi (by omega) f hf⟩)
          · omega
    · obtain ⟨g, z5, z6, z7, rfl, rfl, hg⟩ := hi_k
      refine q_iload rfl rfl ?_
      refine q_if_lt rfl (fun hckf25 => ?_) (fun hckf25 => ?_)
      · refine q_aload_n rfl rfl ?_
        refine q_getfield rfl hx_13 rfl ?_
        refine q_iload_n rfl rfl ?_
        refine q_callS1 rfl rfl (Nat.le_of_ble_eq_true rfl) (Nat.le_of_ble_eq_true rfl) (sK_round _) ?_
        refine q_cn (rdN_s hs0) ?_
        refine q_iald rfl ((F_lt hS).1) (hx_T hS) (by omega) (by decide) ((show ua A (F 0) g (F 0) s0 = nI ((dpR 536870912 (fun k f => gnN b l (nI f) (m + k)) (cN bt st) n n s0)) from by rw [ua_eq]; have h7 := hg n (Nat.le_refl _) (by omega) s0 hs0; rw [Nat.sub_self, Nat.zero_mul, Nat.zero_add] at h7; exact h7)) ?_
        refine q_istore (L' := [_, _, _, _, _, _, _, _]) rfl rfl ?_
        refine q_iload rfl rfl ?_
        refine q_ldc (v := nI 536870912) rfl rfl ?_
        refine q_icmp_geN rfl (by have := dpR_le (N := 536870912) (g := (fun k f => gnN b l (nI f) (m + k))) (c := cN bt st) (n := n) n s0; omega) (by omega) (fun hckf119 => ?_) (fun hckf119 => ?_)
        · refine q_bipush (v := (-9)) rfl rfl ?_
          refine q_iret rfl rfl ?_
          exact ⟨g, by first | rw [if_neg (by omega)] | rw [if_pos (by omega)], rfl, hg⟩
        · refine q_iload rfl rfl ?_
          refine q_goto rfl ?_
          refine q_iret rfl rfl ?_
          exact ⟨g, by first | rw [if_neg (by omega)] | rw [if_pos (by omega)], rfl, hg⟩
      · exact absurd (by decide) hckf25)
  subst hr_
  subst hh_
  exact ⟨g, he_, hf_⟩
