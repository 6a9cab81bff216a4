/-! a cloud by turns: both sides -/
section TB
variable {A : Nat → Nat → Int32} {a b : Nat} {f g f2 : Nat → Int32}
theorem tb_l0 (h : a ≠ b) : (ua (ua A a f) b g) a = f := by rw [ua_ne h, ua_eq]
theorem tb_s0 (h : a ≠ b) : ua (ua (ua A a f) b g) a f2 = ua (ua A a f2) b g := by rw [ua_comm (c := a) (d := b) h, ua_ua, ua_comm (c := b) (d := a) (fun z => h z.symm)]
end TB
theorem RelS_sw {F : Nat → Nat} (h : RelS F) : RelS (uf (uf F 0 (F 1)) 1 (F 0)) := by
  refine ⟨?_, h.2⟩
  rcases h.1 with ⟨e0, e1⟩ | ⟨e0, e1⟩
  · exact Or.inr ⟨e1, e0⟩
  · exact Or.inl ⟨e1, e0⟩
def cW (v : Nat) (D : Nat → Nat → Nat) (c t : Nat) : Nat := if c = 0 then v + D c t else min (v + D c t) (D (c - 1) t)
def cLt (g D : Nat → Nat → Nat) (k c s j : Nat) : Nat := cW (g k (tN s (j + 4))) D c (tN s (j + 4))
def cMx (g D : Nat → Nat → Nat) (k c s : Nat) : Nat → Nat
  | 0 => 0
  | j + 1 => max (cMx g D k c s j) (cLt g D k c s j)
def cdp (g : Nat → Nat → Nat) (n : Nat) : Nat → Nat → Nat → Nat
  | 0, _, _ => 0
  | i + 1, c, s => cMx g (cdp g n i) (n - (i + 1)) c s 5
theorem cLt_le {g D : Nat → Nat → Nat} {B k c s j : Nat} (hg : ∀ k s, g k s ≤ 24) (hD : ∀ c s, D c s ≤ B) : cLt g D k c s j ≤ B + 24 := by
  have h1 := hg k (tN s (j + 4))
  have h2 := hD c (tN s (j + 4))
  unfold cLt cW
  split <;> omega
theorem cMx_le {g D : Nat → Nat → Nat} {B k c s : Nat} (hg : ∀ k s, g k s ≤ 24) (hD : ∀ c s, D c s ≤ B) (j : Nat) : cMx g D k c s j ≤ B + 24 := by
  induction j with
  | zero => exact Nat.zero_le _
  | succ j ih =>
    have h := cLt_le (k := k) (c := c) (s := s) (j := j) hg hD
    show max _ _ ≤ _
    omega
theorem cdp_le {g : Nat → Nat → Nat} {n : Nat} (hg : ∀ k s, g k s ≤ 24) (i : Nat) : ∀ c s, cdp g n i c s ≤ 24 * i := by
  induction i with
  | zero => exact fun c s => Nat.le_refl _
  | succ i ih => exact fun c s => cMx_le hg ih 5
theorem cdp_row {g : Nat → Nat → Nat} {n k c s : Nat} (hk : k < n) : cdp g n (n - k) c s = cMx g (cdp g n (n - (k + 1))) k c s 5 := by
  rw [show n - k = (n - (k + 1)) + 1 by omega]
  show cMx g (cdp g n (n - (k + 1))) (n - (n - (k + 1) + 1)) c s 5 = _
  rw [show n - (n - (k + 1) + 1) = k by omega]
theorem sX0_swapTables {X : XX} {I A : Nat → Nat → Int32} {J B : Nat → Nat → Int64} {F : Nat → Nat} (hS : RelS F) : x_ev X xT 1 10 [.ref 13] (HX I A J B F) none (HX I A J B (uf (uf F 0 (F 1)) 1 (F 0))) := by
  refine q_ev (L := [some (.ref 13), none]) tX0_swapTables (Nat.le_of_ble_eq_true rfl) rfl ?_
  refine q_aload_n rfl rfl ?_
  refine q_getfield rfl hx_13 rfl ?_
  refine q_astore_n (L' := [_, _]) rfl rfl ?_
  refine q_aload_n rfl rfl ?_
  refine q_aload_n rfl rfl ?_
  refine q_getfield rfl hx_13 rfl ?_
  refine q_putfield rfl hx_13 rfl (Nat.le_of_ble_eq_true rfl) (rfl) (by decide +kernel) ?_
  refine q_heap (hs_13_2 _) ?_
  refine q_aload_n rfl rfl ?_
  refine q_aload_n rfl rfl ?_
  refine q_putfield rfl hx_13 rfl (Nat.le_of_ble_eq_true rfl) (rfl) (by decide +kernel) ?_
  refine q_heap (hs_13_3 _) ?_
  refine q_vret rfl rfl ?_
  exact ⟨rfl, rfl⟩
set_option maxHeartbeats 1000000 in
theorem sX0_mostBehindClouds {X : XX} {I A : Nat → Nat → Int32} {J B : Nat → Nat → Int64} {F : Nat → Nat} (hS : RelS F) (b m n : Nat) (l : LT) (hl9 : l.2.2.2 ≤ 9) (hV : GV b l m n A) (n8 : n ≤ 8) (k s c : Nat) (D : Nat → Nat → Nat) (hk : k < n) (hs : s < 24) (hc3 : c < 3) (hD : ∀ c, c < 3 → ∀ s, s < 24 → A (F 1) (s * 3 + c) = nI (D c s)) (hB : ∀ c s, D c s ≤ 1000) : x_ev X xT 4 7 [.ref 13, .int (nI k), .int (nI s), .int (nI c)] (HX I A J B F) (some (.int (nI (cMx (fun k f => gnN b l (nI f) (m + k)) D k c s 5)))) (HX I A J B F) := by
  refine q_ev (L := [some (.ref 13), some (.int (nI k)), some (.int (nI s)), some (.int (nI c)), none, none, none, none]) tX0_mostBehindClouds (Nat.le_of_ble_eq_true rfl) rfl ?_
  refine q_iconst (v := nI 0) rfl rfl ?_
  refine q_istore (L' := [_, _, _, _, _, _, _, _]) rfl rfl ?_
  refine q_bipush (v := (-2)) rfl rfl ?_
  refine q_istore (L' := [_, _, _, _, _, _, _, _]) rfl rfl ?_
  refine q_up (Inv := fun j L h => ∃ z6 z7, L = [some (.ref 13), some (.int (nI k)), some (.int (nI s)), some (.int (nI c)), some (.int (nI (cMx (fun k f => gnN b l (nI f) (m + k)) D k c s j))), some (.int (sI 2 j)), z6, z7] ∧ h = HX I A J B F) (5) (fun j L h hk_j hi_j ih_j => ?_) (fun L h hi_j => ?_) (0) _ _ (by omega) (⟨_, _, rfl, rfl⟩)
  · obtain ⟨z6, z7, rfl, rfl⟩ := hi_j
    refine q_iload rfl rfl ?_
    refine q_iconst (v := nI 2) rfl rfl ?_
    refine q_icmp_gt rfl (fun hcjs10 => ?_) (fun hcjs10 => ?_)
    · exact absurd ((sI_le (c := 2) (m := 2) (by omega) (by omega) (by omega)).mpr (by omega)) (Int32.not_le.mpr hcjs10)
    · refine q_iload_n rfl rfl ?_
      refine q_iload rfl rfl ?_
      refine q_iadd rfl ?_
      refine q_callS1 rfl rfl (Nat.le_of_ble_eq_true rfl) (Nat.le_of_ble_eq_true rfl) (sK_round _) ?_
      refine q_cn (show _ = nI (tN s (j + 4)) by rw [rdN_t2 hs hk_j]) ?_
      have ht := tN_lt s (j + 4)
      have hg9 := gnN_le (b := b) (l := l) (fi := nI (tN s (j + 4))) (m := m + k) hl9
      have hd9 := hB c (tN s (j + 4))
      have hd8 := hB (c - 1) (tN s (j + 4))
      have hm9 : cMx (fun k f => gnN b l (nI f) (m + k)) D k c s j ≤ 1024 := cMx_le (g := (fun k f => gnN b l (nI f) (m + k))) (fun k s => gnN_le hl9) hB j
      refine q_istore (L' := [_, _, _, _, _, _, _, _]) rfl rfl ?_
      refine q_aload_n rfl rfl ?_
      refine q_getfield rfl hx_13 rfl ?_
      refine q_iload_n rfl rfl ?_
      refine q_iload rfl rfl ?_
      refine q_callV2 rfl hx_11 (Nat.le_of_ble_eq_true rfl) (Nat.le_of_ble_eq_true rfl) (sX7_gain k (tN s (j + 4)) _ (by omega) (tN_lt _ _) (hV k hk _ (tN_lt _ _))) ?_
      refine q_aload_n rfl rfl ?_
      refine q_getfield rfl hx_13 rfl ?_
      refine q_iload rfl rfl ?_
      refine q_iconst (v := nI 3) rfl rfl ?_
      refine q_imulN rfl ?_
      refine q_iload_n rfl rfl ?_
      refine q_iaddN rfl ?_
      refine q_iald rfl ((F_lt hS).2.1) (hx_U hS) (by omega) (by decide) ((hD c hc3 _ (tN_lt _ _))) ?_
      refine q_iaddN rfl ?_
      refine q_istore (L' := [_, _, _, _, _, _, _, _]) rfl rfl ?_
      refine q_iload_n rfl rfl ?_
      refine q_if_leN rfl (by omega) (fun hcjs47 => ?_) (fun hcjs47 => ?_)
      · refine q_iload rfl rfl ?_
        refine q_iload rfl rfl ?_
        refine q_callS2 rfl rfl (Nat.le_of_ble_eq_true rfl) (Nat.le_of_ble_eq_true rfl) (sJ9_max_7cf53 _ _) ?_
        refine q_cn (show _ = nI (cMx (fun k f => gnN b l (nI f) (m + k)) D k c s (j + 1)) from by rw [f_max_nI (by omega) (by omega)]; refine congrArg nI (congrArg (max _) (show _ = cW (gnN b l (nI (tN s (j + 4))) (m + k)) D c (tN s (j + 4)) from ?_)); unfold cW; first | rw [if_pos (by omega)] | rw [if_neg (by omega)]) ?_
        refine q_istore (L' := [_, _, _, _, _, _, _, _]) rfl rfl ?_
        refine q_iinc (v := sI 2 (j + 1)) (L' := [_, _, _, _, _, _, _, _]) rfl rfl (sI_inc 2 j) rfl ?_
        refine q_goto rfl ?_
        exact ih_j _ _ (⟨_, _, rfl, rfl⟩)
      · refine q_iload rfl rfl ?_
        refine q_aload_n rfl rfl ?_
        refine q_getfield rfl hx_13 rfl ?_
        refine q_iload rfl rfl ?_
        refine q_iconst (v := nI 3) rfl rfl ?_
        refine q_imulN rfl ?_
        refine q_iload_n rfl rfl ?_
        refine q_iaddN rfl ?_
        refine q_iconst (v := nI 1) rfl rfl ?_
        refine q_isubN rfl (by omega) ?_
        refine q_iald rfl ((F_lt hS).2.1) (hx_U hS) (by omega) (by decide) ((show A (F 1) (tN s (j + 4) * 3 + c - 1) = nI _ from by rw [show tN s (j + 4) * 3 + c - 1 = tN s (j + 4) * 3 + (c - 1) by omega]; exact hD (c - 1) (by omega) _ (tN_lt _ _))) ?_
        refine q_callS2 rfl rfl (Nat.le_of_ble_eq_true rfl) (Nat.le_of_ble_eq_true rfl) (sJ9_min_7cf53 _ _) ?_
        refine q_cn (f_min_nI (by omega) (by omega)) ?_
        refine q_istore (L' := [_, _, _, _, _, _, _, _]) rfl rfl ?_
        refine q_iload rfl rfl ?_
        refine q_iload rfl rfl ?_
        refine q_callS2 rfl rfl (Nat.le_of_ble_eq_true rfl) (Nat.le_of_ble_eq_true rfl) (sJ9_max_7cf53 _ _) ?_
        refine q_cn (show _ = nI (cMx (fun k f => gnN b l (nI f) (m + k)) D k c s (j + 1)) from by rw [f_max_nI (by omega) (by omega)]; refine congrArg nI (congrArg (max _) (show _ = cW (gnN b l (nI (tN s (j + 4))) (m + k)) D c (tN s (j + 4)) from ?_)); unfold cW; first | rw [if_pos (by omega)] | rw [if_neg (by omega)]) ?_
        refine q_istore (L' := [_, _, _, _, _, _, _, _]) rfl rfl ?_
        refine q_iinc (v := sI 2 (j + 1)) (L' := [_, _, _, _, _, _, _, _]) rfl rfl (sI_inc 2 j) rfl ?_
        refine q_goto rfl ?_
        exact ih_j _ _ (⟨_, _, rfl, rfl⟩)
  · obtain ⟨z6, z7, rfl, rfl⟩ := hi_j
    refine q_iload rfl rfl ?_
    refine q_iconst (v := nI 2) rfl rfl ?_
    refine q_icmp_gt rfl (fun hcjf10 => ?_) (fun hcjf10 => ?_)
    · refine q_iload rfl rfl ?_
      refine q_iret rfl rfl ?_
      exact ⟨rfl, rfl⟩
    · exact absurd (show nI 2 < sI 2 5 by decide) hcjf10
set_option maxHeartbeats 1000000 in
theorem sX0_mostByCloud {X : XX} {I A : Nat → Nat → Int32} {J B : Nat → Nat → Int64} {F : Nat → Nat} (hS : RelS F) (b m n : Nat) (l : LT) (hl9 : l.2.2.2 ≤ 9) (hV : GV b l m n A) (n8 : n ≤ 8) (n4 : n ≤ 4) (s0 : Nat) (hs0 : s0 < 24) : ∃ G f g, x_ev X xT 5 6 [.ref 13, .int (nI s0), .int (nI n)] (HX I A J B F) (some (.int (nI (cdp (fun k f => gnN b l (nI f) (m + k)) n n (n / 2) s0)))) (HX I (ua (ua A (G 0) f) (G 1) g) J B G) ∧ RelS G := by
  obtain ⟨r_, h_, he_, G, f, g, hr_, hh_, hf_⟩ := q_evx (X := X) (d := 4) (as := [.ref 13, .int (nI s0), .int (nI n)]) (h := (HX I A J B F)) (P := fun r_ h_ => ∃ G f g, r_ = (some (.int (nI (cdp (fun k f => gnN b l (nI f) (m + k)) n n (n / 2) s0)))) ∧ h_ = (HX I (ua (ua A (G 0) f) (G 1) g) J B G) ∧ RelS G) (L := [some (.ref 13), some (.int (nI s0)), some (.int (nI n)), none, none, none]) tX0_mostByCloud (Nat.le_of_ble_eq_true rfl) rfl (by
    refine q_aload_n rfl rfl ?_
    refine q_getfield rfl hx_13 rfl ?_
    refine q_iconst (v := 0) rfl rfl ?_
    refine q_callS2 rfl rfl (Nat.le_of_ble_eq_true rfl) (Nat.le_of_ble_eq_true rfl) (sJ7_fill_53178 (hx_U hS) (F_lt hS).2.1 (by decide) _) ?_
    refine q_heap (ha_U hS _) ?_
    refine q_iload_n rfl rfl ?_
    refine q_iconst (v := nI 1) rfl rfl ?_
    refine q_isub rfl ?_
    refine q_istore_n (L' := [_, _, _, _, _, _]) rfl rfl ?_
    refine q_dn (Inv := fun k L h => ∃ G f g z4 z5, L = [some (.ref 13), some (.int (nI s0)), some (.int (nI n)), some (.int (dI k)), z4, z5] ∧ h = HX I (ua (ua A (G 0) f) (G 1) g) J B G ∧ RelS G ∧ ∀ c, c < 3 → ∀ s, s < 24 → g (s * 3 + c) = nI ((cdp (fun k f => gnN b l (nI f) (m + k)) n (n - k) c s))) (n) (fun k L h hk_k hi_k ih_k => ?_) (fun L h hi_k => ?_) (n) _ _ (by omega) (⟨F, A (F 0), _, _, _, rfl, by rw [ua_self (A := A) (c := F 0) rfl], hS, fun c hc s hs => by rw [Nat.sub_self]; show f_fill _ _ _ _ (s * 3 + c) = nI 0; unfold f_fill; rw [if_pos (by omega)]; rfl⟩)
    · obtain ⟨G, f, g, z4, z5, rfl, rfl, hS, hD⟩ := hi_k
      rw [dI_s]
      refine q_iload_n rfl rfl ?_
      refine q_if_ltN rfl (by omega) (fun hcks13 => ?_) (fun hcks13 => ?_)
      · omega
      · refine q_iconst (v := nI 0) rfl rfl ?_
        refine q_istore (L' := [_, _, _, _, _, _]) rfl rfl ?_
        refine q_up (Inv := fun x L h => ∃ f z5, L = [some (.ref 13), some (.int (nI s0)), some (.int (nI n)), some (.int (nI k)), some (.int (nI x)), z5] ∧ h = HX I (ua (ua A (G 0) f) (G 1) g) J B G ∧ ∀ s, s < x → ∀ c, c < 3 → f (s * 3 + c) = nI ((cdp (fun k f => gnN b l (nI f) (m + k)) n (n - k) c s))) (24) (fun x L h hk_x hi_x ih_x => ?_) (fun L h hi_x => ?_) (0) _ _ (by omega) (⟨f, _, rfl, rfl, fun s hs => absurd hs (Nat.not_lt_zero s)⟩)
        · obtain ⟨f, z5, rfl, rfl, hf⟩ := hi_x
          refine q_iload rfl rfl ?_
          refine q_bipush (v := nI 24) rfl rfl ?_
          refine q_icmp_geN rfl (by omega) (by omega) (fun hcxs23 => ?_) (fun hcxs23 => ?_)
          · omega
          · refine q_iconst (v := nI 0) rfl rfl ?_
            refine q_istore (L' := [_, _, _, _, _, _]) rfl rfl ?_
            refine q_up (Inv := fun c L h => ∃ f, L = [some (.ref 13), some (.int (nI s0)), some (.int (nI n)), some (.int (nI k)), some (.int (nI x)), some (.int (nI c))] ∧ h = HX I (ua (ua A (G 0) f) (G 1) g) J B G ∧ (∀ s, s < x → ∀ c, c < 3 → f (s * 3 + c) = nI ((cdp (fun k f => gnN b l (nI f) (m + k)) n (n - k) c s))) ∧ ∀ y, y < c → f (x * 3 + y) = nI ((cdp (fun k f => gnN b l (nI f) (m + k)) n (n - k) y x))) (3) (fun c L h hk_c hi_c ih_c => ?_) (fun L h hi_c => ?_) (0) _ _ (by omega) (⟨f, rfl, rfl, hf, fun y hy => absurd hy (Nat.not_lt_zero y)⟩)
            · obtain ⟨f, rfl, rfl, hf, hf2⟩ := hi_c
              refine q_iload rfl rfl ?_
              refine q_iconst (v := nI 3) rfl rfl ?_
              refine q_icmp_geN rfl (by omega) (by omega) (fun hccs32 => ?_) (fun hccs32 => ?_)
              · omega
              · refine q_aload_n rfl rfl ?_
                refine q_getfield rfl hx_13 rfl ?_
                refine q_iload rfl rfl ?_
                refine q_iconst (v := nI 3) rfl rfl ?_
                refine q_imulN rfl ?_
                refine q_iload rfl rfl ?_
                refine q_iaddN rfl ?_
                refine q_aload_n rfl rfl ?_
                refine q_iload_n rfl rfl ?_
                refine q_iload rfl rfl ?_
                refine q_iload rfl rfl ?_
                refine q_callV3 rfl hx_13 (Nat.le_of_ble_eq_true rfl) (Nat.le_of_ble_eq_true rfl) (sX0_mostBehindClouds hS b m n l hl9 (GV_ua (F_lt hS).2.2.2.1 (GV_ua (F_lt hS).2.2.1 hV)) n8 k x c (cdp (fun k f => gnN b l (nI f) (m + k)) n (n - (k + 1))) hk_k hk_x hk_c (fun c hc s hs => by rw [ua_eq]; exact hD c hc s hs) (fun c s => Nat.le_trans (cdp_le (g := (fun k f => gnN b l (nI f) (m + k))) (fun k s => gnN_le hl9) _ c s) (by omega))) ?_
                refine q_iastN rfl (hx_T hS) (by omega) (by decide) ?_
                refine q_heap (ha_T hS _) ?_
                refine q_iincN (c := 1) (L' := [_, _, _, _, _, _]) rfl rfl rfl rfl ?_
                refine q_goto rfl ?_
                exact ih_c _ _ (⟨_, rfl, by rw [tb_s0 (F_lt hS).2.2.2.2.1, tb_l0 (F_lt hS).2.2.2.2.1], fun s hs c2 hc2 => by rw [pk_un (by omega)]; exact hf s hs c2 hc2, fun y hy => by by_cases e : y = c; subst e; rw [pk_us, cdp_row hk_k]; rw [pk_un (by omega)]; exact hf2 y (by omega)⟩)
            · obtain ⟨f, rfl, rfl, hf, hf2⟩ := hi_c
              refine q_iload rfl rfl ?_
              refine q_iconst (v := nI 3) rfl rfl ?_
              refine q_icmp_geN rfl (by omega) (by omega) (fun hccf32 => ?_) (fun hccf32 => ?_)
              · refine q_iincN (c := 1) (L' := [_, _, _, _, _, _]) rfl rfl rfl rfl ?_
                refine q_goto rfl ?_
                exact ih_x _ _ (⟨f, _, rfl, rfl, fun s hs c hc => by by_cases e : s = x; subst e; exact hf2 c hc; exact hf s (by omega) c hc⟩)
              · omega
        · obtain ⟨f, z5, rfl, rfl, hf⟩ := hi_x
          refine q_iload rfl rfl ?_
          refine q_bipush (v := nI 24) rfl rfl ?_
          refine q_icmp_geN rfl (by omega) (by omega) (fun hcxf23 => ?_) (fun hcxf23 => ?_)
          · refine q_aload_n rfl rfl ?_
            refine q_callV0 rfl hx_13 (Nat.le_of_ble_eq_true rfl) (Nat.le_of_ble_eq_true rfl) (sX0_swapTables hS) ?_
            refine q_iinc (v := dI k) (L' := [_, _, _, _, _, _]) rfl rfl (dI_m k) rfl ?_
            refine q_goto rfl ?_
            exact ih_k _ _ (⟨uf (uf G 0 (G 1)) 1 (G 0), g, f, _, _, rfl, by rw [ua_comm (c := G 0) (d := G 1) (F_lt hS).2.2.2.2.1]; rfl, RelS_sw hS, fun c hc s hs => by rw [hf s hs c hc]⟩)
          · omega
    · obtain ⟨G, f, g, z4, z5, rfl, rfl, hS, hD⟩ := hi_k
      refine q_iload_n rfl rfl ?_
      refine q_if_lt rfl (fun hckf13 => ?_) (fun hckf13 => ?_)
      · refine q_aload_n rfl rfl ?_
        refine q_getfield rfl hx_13 rfl ?_
        refine q_iload_n rfl rfl ?_
        refine q_callS1 rfl rfl (Nat.le_of_ble_eq_true rfl) (Nat.le_of_ble_eq_true rfl) (sK_round _) ?_
        refine q_cn (rdN_s hs0) ?_
        refine q_iconst (v := nI 3) rfl rfl ?_
        refine q_imulN rfl ?_
        refine q_iload_n rfl rfl ?_
        refine q_iconst (v := nI 2) rfl rfl ?_
        refine q_idivN rfl (by omega) (by decide) (by decide) ?_
        refine q_iconst (v := nI 2) rfl rfl ?_
        refine q_callS2 rfl rfl (Nat.le_of_ble_eq_true rfl) (Nat.le_of_ble_eq_true rfl) (sJ9_min_7cf53 _ _) ?_
        refine q_cn (show _ = nI (n / 2) from by rw [f_min_nI (by omega) (by omega), Nat.min_eq_left (by omega)]) ?_
        refine q_iaddN rfl ?_
        refine q_iald rfl ((F_lt hS).2.1) (hx_U hS) (by omega) (by decide) ((show (ua (ua A (G 0) f) (G 1) g) (G 1) (s0 * 3 + n / 2) = nI _ from by rw [ua_eq]; exact hD _ (by omega) s0 hs0)) ?_
        refine q_iret rfl rfl ?_
        exact ⟨G, f, g, rfl, rfl, hS⟩
      · exact absurd (by decide) hckf13)
  subst hr_
  subst hh_
  exact ⟨G, f, g, he_, hf_⟩
theorem c_cloud_b {X : XX} {I A : Nat → Nat → Int32} {J B : Nat → Nat → Int64} {F : Nat → Nat} (x : Int32) (hx : x < 0 ∨ I 0 12 ≤ x) (y : Int32) : x_ev X xT 6 112 [.ref 0, .int x, .int y] (HX I A J B F) (some (.int (-1))) (HX I A J B F) := by
  refine q_ev (L := [some (.ref 0), some (.int x), some (.int y), none]) tX8_cloud (Nat.le_of_ble_eq_true rfl) rfl ?_
  refine q_aload_n rfl rfl ?_
  refine q_iload_n rfl rfl ?_
  refine q_callV1 rfl hx_0 (Nat.le_of_ble_eq_true rfl) (Nat.le_of_ble_eq_true rfl) (sX8_lightAtN x hx) ?_
  refine q_astore_nN (L' := [_, _, _, _]) rfl rfl ?_
  refine q_aload_nN rfl rfl ?_
  refine q_ifnullN rfl ?_
  refine q_iconst (v := (-1)) rfl rfl ?_
  refine q_iret rfl rfl ?_
  exact ⟨rfl, rfl⟩
theorem c_cloud_n {X : XX} {I A : Nat → Nat → Int32} {J B : Nat → Nat → Int64} {F : Nat → Nat} (ln : Nat) (hln : ln ≤ 5) (eln : I 0 12 = nI ln) (k : Nat) (hk : k < ln) (y : Int32) (hy : y < 0 ∨ nI 4 < y) : x_ev X xT 6 112 [.ref 0, .int (nI k), .int y] (HX I A J B F) (some (.int (-1))) (HX I A J B F) := by
  refine q_ev (L := [some (.ref 0), some (.int (nI k)), some (.int y), none]) tX8_cloud (Nat.le_of_ble_eq_true rfl) rfl ?_
  refine q_aload_n rfl rfl ?_
  refine q_iload_n rfl rfl ?_
  refine q_callV1 rfl hx_0 (Nat.le_of_ble_eq_true rfl) (Nat.le_of_ble_eq_true rfl) (sX8_lightAt k ln hk hln eln) ?_
  refine q_astore_n (L' := [_, _, _, _]) rfl rfl ?_
  refine q_aload_n rfl rfl ?_
  refine q_ifnull rfl ?_
  refine q_iload_n rfl rfl ?_
  refine q_if_lt rfl (fun hc11 => ?_) (fun hc11 => ?_)
  · refine q_iconst (v := (-1)) rfl rfl ?_
    refine q_iret rfl rfl ?_
    exact ⟨rfl, rfl⟩
  · refine q_iload_n rfl rfl ?_
    refine q_iconst (v := nI 4) rfl rfl ?_
    refine q_icmp_le rfl (fun hc16 => ?_) (fun hc16 => ?_)
    · rcases hy with h | h
      · exact absurd h hc11
      · exact absurd hc16 (Int32.not_le.mpr h)
    · refine q_iconst (v := (-1)) rfl rfl ?_
      refine q_iret rfl rfl ?_
      exact ⟨rfl, rfl⟩
theorem c_cloud_0 {X : XX} {I A : Nat → Nat → Int32} {J B : Nat → Nat → Int64} {F : Nat → Nat} (hS : RelS F) (b : Nat) (hb : b ≤ 5) (eb : I 7 0 = nI b) (m : Nat) (em : I 8 2 = nI m) (hm : m ≤ 40) (s : Nat) (es : I 8 3 = nI s) (hs : s < 24) (ln : Nat) (hln : ln ≤ 5) (eln : I 0 12 = nI ln) (lks : ∀ i, i < 5 → lkOK I (40 + i)) (k : Nat) (hk : k < ln) (n : Nat) (n4 : n ≤ 4)  : ∃ g1 G f g, x_ev X xT 6 112 [.ref 0, .int (nI k), .int (nI n)] (HX I A J B F) (some (.int (nI (cdp (fun i f => gnN b (cL I (40 + k)) (nI f) (m + i)) n n (n / 2) s)))) (HX I (ua (ua (ua A 12 g1) (G 0) f) (G 1) g) J B G) ∧ RelS G := by
  obtain ⟨g1, h7, hV⟩ := sX7_fill (X := X) (I := I) (J := J) (B := B) (F := F) (A := A) b hb eb k (by omega) (lks k (by omega)) m n (by omega) (by omega)
  obtain ⟨G, f, g, h8, hG⟩ := sX0_mostByCloud (X := X) (I := I) (J := J) (B := B) (F := F) (A := ua A 12 g1) hS b m n (cL I (40 + k)) (lks k (by omega)).1.2 hV (by omega) n4 s hs
  obtain ⟨r_, h_, he_, g1, G, f, g, hr_, hh_, hf_⟩ := q_evx (X := X) (d := 5) (as := [.ref 0, .int (nI k), .int (nI n)]) (h := (HX I A J B F)) (P := fun r_ h_ => ∃ g1 G f g, r_ = (some (.int (nI (cdp (fun i f => gnN b (cL I (40 + k)) (nI f) (m + i)) n n (n / 2) s)))) ∧ h_ = (HX I (ua (ua (ua A 12 g1) (G 0) f) (G 1) g) J B G) ∧ RelS G) (L := [some (.ref 0), some (.int (nI k)), some (.int (nI n)), none]) tX8_cloud (Nat.le_of_ble_eq_true rfl) rfl (by
    refine q_aload_n rfl rfl ?_
    refine q_iload_n rfl rfl ?_
    refine q_callV1 rfl hx_0 (Nat.le_of_ble_eq_true rfl) (Nat.le_of_ble_eq_true rfl) (sX8_lightAt k ln hk hln eln) ?_
    refine q_astore_n (L' := [_, _, _, _]) rfl rfl ?_
    refine q_aload_n rfl rfl ?_
    refine q_ifnull rfl ?_
    refine q_iload_n rfl rfl ?_
    refine q_if_ltN rfl (by omega) (fun hc11 => ?_) (fun hc11 => ?_)
    · omega
    · refine q_iload_n rfl rfl ?_
      refine q_iconst (v := nI 4) rfl rfl ?_
      refine q_icmp_leN rfl (by omega) (by omega) (fun hc16 => ?_) (fun hc16 => ?_)
      · refine q_aload_n rfl rfl ?_
        refine q_getfield rfl hx_0 rfl ?_
        refine q_aload_n rfl rfl ?_
        refine q_aload_n rfl rfl ?_
        refine q_getfield rfl hx_0 rfl ?_
        refine q_aload_n rfl rfl ?_
        refine q_getfield rfl hx_0 rfl ?_
        refine q_callV0 rfl hx_8 (Nat.le_of_ble_eq_true rfl) (Nat.le_of_ble_eq_true rfl) (sN_now em) ?_
        refine q_iload_n rfl rfl ?_
        refine q_callV4 rfl hx_11 (Nat.le_of_ble_eq_true rfl) (Nat.le_of_ble_eq_true rfl) (h7) ?_
        refine q_aload_n rfl rfl ?_
        refine q_getfield rfl hx_0 rfl ?_
        refine q_aload_n rfl rfl ?_
        refine q_getfield rfl hx_0 rfl ?_
        refine q_callV0 rfl hx_8 (Nat.le_of_ble_eq_true rfl) (Nat.le_of_ble_eq_true rfl) (sN_first es) ?_
        refine q_iload_n rfl rfl ?_
        refine q_callV2 rfl hx_13 (Nat.le_of_ble_eq_true rfl) (Nat.le_of_ble_eq_true rfl) (h8) ?_
        refine q_iret rfl rfl ?_
        exact ⟨g1, G, f, g, rfl, rfl, hG⟩
      · omega)
  subst hr_
  subst hh_
  exact ⟨g1, G, f, g, he_, hf_⟩
theorem sX9_worseOf {X : XX} {I A : Nat → Nat → Int32} {J B : Nat → Nat → Int64} {F : Nat → Nat} (b : Nat) (hb : b ≤ 5) (eb : I 51 1 = nI b) (i : Nat) (hi : i < 5) (hl : mLk A) (mo : Nat) (hmo : mo < 2 ^ 30) (c t : Nat) (hc3 : c < 3) (ht : t < 24) (D : Nat → Nat → Nat) (hD : ∀ c, c < 3 → ∀ s, s < 24 → A 68 (24 * c + s) = nI (D c s)) (hB : ∀ c s, D c s ≤ 1000) : x_ev X xT 4 231 [.ref 51, .int (nI i), .int (nI mo), .int (nI c), .int (nI t)] (HX I A J B F) (some (.int (nI (cW (gnN b (mL A i) (nI t) mo) D c t)))) (HX I A J B F) := by
  have hg9 := gnN_le (b := b) (l := mL A i) (fi := nI t) (m := mo) (hl i hi).1.2
  have hd9 := hB c t
  have hd8 := hB (c - 1) t
  refine q_ev (L := [some (.ref 51), some (.int (nI i)), some (.int (nI mo)), some (.int (nI c)), some (.int (nI t)), none, none]) tX9_worseOf (Nat.le_of_ble_eq_true rfl) rfl ?_
  refine q_aload_n rfl rfl ?_
  refine q_getfield rfl hx_51 rfl ?_
  refine q_bipush (v := nI 24) rfl rfl ?_
  refine q_iload_n rfl rfl ?_
  refine q_imulN rfl ?_
  refine q_iload rfl rfl ?_
  refine q_iaddN rfl ?_
  refine q_iald rfl (by decide) hx_68 (by omega) (by decide) ((hD c hc3 t ht)) ?_
  refine q_aload_n rfl rfl ?_
  refine q_iload_n rfl rfl ?_
  refine q_iload rfl rfl ?_
  refine q_iload_n rfl rfl ?_
  refine q_callV3 rfl hx_51 (Nat.le_of_ble_eq_true rfl) (Nat.le_of_ble_eq_true rfl) (sX9_got i hi hl b hb eb _ _ hmo) ?_
  refine q_iaddN rfl ?_
  refine q_istore (L' := [_, _, _, _, _, _, _]) rfl rfl ?_
  refine q_iload_n rfl rfl ?_
  refine q_if_neN rfl (by omega) (fun hc24 => ?_) (fun hc24 => ?_)
  · refine q_aload_n rfl rfl ?_
    refine q_getfield rfl hx_51 rfl ?_
    refine q_bipush (v := nI 24) rfl rfl ?_
    refine q_iload_n rfl rfl ?_
    refine q_iconst (v := nI 1) rfl rfl ?_
    refine q_isubN rfl (by omega) ?_
    refine q_imulN rfl ?_
    refine q_iload rfl rfl ?_
    refine q_iaddN rfl ?_
    refine q_iald rfl (by decide) hx_68 (by omega) (by decide) ((hD (c - 1) (by omega) t ht)) ?_
    refine q_istore (L' := [_, _, _, _, _, _, _]) rfl rfl ?_
    refine q_iload rfl rfl ?_
    refine q_iload rfl rfl ?_
    refine q_icmp_geN rfl (by omega) (by omega) (fun hc52 => ?_) (fun hc52 => ?_)
    · refine q_iload rfl rfl ?_
      refine q_iret rfl rfl ?_
      exact ⟨vI (congrArg nI (show _ = cW _ _ _ _ from by unfold cW; split <;> omega)), rfl⟩
    · refine q_iload rfl rfl ?_
      refine q_goto rfl ?_
      refine q_iret rfl rfl ?_
      exact ⟨vI (congrArg nI (show _ = cW _ _ _ _ from by unfold cW; split <;> omega)), rfl⟩
  · refine q_iload rfl rfl ?_
    refine q_goto rfl ?_
    refine q_istore (L' := [_, _, _, _, _, _, _]) rfl rfl ?_
    refine q_iload rfl rfl ?_
    refine q_iload rfl rfl ?_
    refine q_icmp_geN rfl (by omega) (by omega) (fun hc52 => ?_) (fun hc52 => ?_)
    · refine q_iload rfl rfl ?_
      refine q_iret rfl rfl ?_
      exact ⟨vI (congrArg nI (show _ = cW _ _ _ _ from by unfold cW; split <;> omega)), rfl⟩
    · refine q_iload rfl rfl ?_
      refine q_goto rfl ?_
      refine q_iret rfl rfl ?_
      exact ⟨vI (congrArg nI (show _ = cW _ _ _ _ from by unfold cW; split <;> omega)), rfl⟩
theorem m_cloud_b {X : XX} {I A : Nat → Nat → Int32} {J B : Nat → Nat → Int64} {F : Nat → Nat} (ln : Nat) (hln : ln ≤ 5) (eln : I 51 3 = nI ln) (x : Int32) (hx : x < 0 ∨ nI ln ≤ x) (y : Int32) : x_ev X xT 5 232 [.ref 51, .int x, .int y] (HX I A J B F) (some (.int (-1))) (HX I A J B F) := by
  refine q_ev (L := [some (.ref 51), some (.int x), some (.int y), none, none, none, none]) tX9_cloud (Nat.le_of_ble_eq_true rfl) rfl ?_
  refine q_aload_n rfl rfl ?_
  refine q_iload_n rfl rfl ?_
  refine q_callV1 rfl hx_51 (Nat.le_of_ble_eq_true rfl) (Nat.le_of_ble_eq_true rfl) (sX9_isLight_0 x ln hln eln hx) ?_
  refine q_if_eqN rfl (by omega) (fun hc5 => ?_) (fun hc5 => ?_)
  · refine q_iconst (v := (-1)) rfl rfl ?_
    refine q_iret rfl rfl ?_
    exact ⟨rfl, rfl⟩
  · exact absurd hc5 (by decide)
theorem m_cloud_n {X : XX} {I A : Nat → Nat → Int32} {J B : Nat → Nat → Int64} {F : Nat → Nat} (ln : Nat) (hln : ln ≤ 5) (eln : I 51 3 = nI ln) (k : Nat) (hk : k < ln) (y : Int32) (hy : y < nI 0 ∨ nI 4 < y) : x_ev X xT 5 232 [.ref 51, .int (nI k), .int y] (HX I A J B F) (some (.int (-1))) (HX I A J B F) := by
  refine q_ev (L := [some (.ref 51), some (.int (nI k)), some (.int y), none, none, none, none]) tX9_cloud (Nat.le_of_ble_eq_true rfl) rfl ?_
  refine q_aload_n rfl rfl ?_
  refine q_iload_n rfl rfl ?_
  refine q_callV1 rfl hx_51 (Nat.le_of_ble_eq_true rfl) (Nat.le_of_ble_eq_true rfl) (sX9_isLight_1 k ln hk hln eln) ?_
  refine q_if_eqN rfl (by omega) (fun hc5 => ?_) (fun hc5 => ?_)
  · exact absurd hc5 (by decide)
  · refine q_iload_n rfl rfl ?_
    refine q_i2l rfl ?_
    refine q_lconst (v := 0) rfl rfl ?_
    refine q_ldc2_w (v := 4) rfl rfl ?_
    refine q_callS3 rfl rfl (Nat.le_of_ble_eq_true rfl) (Nat.le_of_ble_eq_true rfl) (sX9_in _ _ _) ?_
    refine q_cn (f_in_0 (lo := nI 0) (hi := nI 4) rfl rfl hy) ?_
    refine q_if_neN rfl (by omega) (fun hc17 => ?_) (fun hc17 => ?_)
    · exact absurd hc17 (by decide)
    · refine q_iconst (v := (-1)) rfl rfl ?_
      refine q_iret rfl rfl ?_
      exact ⟨rfl, rfl⟩
set_option maxHeartbeats 2000000 in
theorem m_cloud_0 {X : XX} {I A : Nat → Nat → Int32} {J B : Nat → Nat → Int64} {F : Nat → Nat} (b : Nat) (hb : b ≤ 5) (eb : I 51 1 = nI b) (m : Nat) (em : A 52 1 = nI m) (hm : m ≤ 40) (s : Nat) (es : A 52 2 = nI s) (hs : s < 24) (ln : Nat) (hln : ln ≤ 5) (eln : I 51 3 = nI ln) (hl : mLk A) (i : Nat) (hk : i < ln) (n : Nat) (n4 : n ≤ 4)  : ∃ g w, x_ev X xT 5 232 [.ref 51, .int (nI i), .int (nI n)] (HX I A J B F) (some (.int (nI (cdp (fun r f => gnN b (mL A i) (nI f) (m + r)) n n (n / 2) s)))) (HX I (ua (ua A 68 g) 69 w) J B F) ∧ True := by
  obtain ⟨r_, h_, he_, g, w, hr_, hh_, hf_⟩ := q_evx (X := X) (d := 4) (as := [.ref 51, .int (nI i), .int (nI n)]) (h := (HX I A J B F)) (P := fun r_ h_ => ∃ g w, r_ = (some (.int (nI (cdp (fun r f => gnN b (mL A i) (nI f) (m + r)) n n (n / 2) s)))) ∧ h_ = (HX I (ua (ua A 68 g) 69 w) J B F) ∧ True) (L := [some (.ref 51), some (.int (nI i)), some (.int (nI n)), none, none, none, none]) tX9_cloud (Nat.le_of_ble_eq_true rfl) rfl (by
    refine q_aload_n rfl rfl ?_
    refine q_iload_n rfl rfl ?_
    refine q_callV1 rfl hx_51 (Nat.le_of_ble_eq_true rfl) (Nat.le_of_ble_eq_true rfl) (sX9_isLight_1 i ln hk hln eln) ?_
    refine q_if_eqN rfl (by omega) (fun hc5 => ?_) (fun hc5 => ?_)
    · exact absurd hc5 (by decide)
    · refine q_iload_n rfl rfl ?_
      refine q_i2l rfl ?_
      refine q_lconst (v := 0) rfl rfl ?_
      refine q_ldc2_w (v := 4) rfl rfl ?_
      refine q_callS3 rfl rfl (Nat.le_of_ble_eq_true rfl) (Nat.le_of_ble_eq_true rfl) (sX9_in _ _ _) ?_
      refine q_cn (f_in_1 (lo := nI 0) (hi := nI 4) rfl rfl (nI_nlt (by omega) (by omega)) (nI_nlt (by omega) (by omega))) ?_
      refine q_if_neN rfl (by omega) (fun hc17 => ?_) (fun hc17 => ?_)
      · refine q_iconst (v := nI 0) rfl rfl ?_
        refine q_istore_n (L' := [_, _, _, _, _, _, _]) rfl rfl ?_
        refine q_up (Inv := fun k L h => ∃ g, L = [some (.ref 51), some (.int (nI i)), some (.int (nI n)), some (.int (nI k)), none, none, none] ∧ h = HX I (ua A 68 g) J B F ∧ ∀ y, y < k → g y = nI 0) (72) (fun k L h hk_k hi_k ih_k => ?_) (fun L h hi_k => ?_) (0) _ _ (by omega) (⟨A 68, rfl, by rw [ua_self rfl], fun y hy => absurd hy (Nat.not_lt_zero y)⟩)
        · obtain ⟨g, rfl, rfl, hg⟩ := hi_k
          refine q_iload_n rfl rfl ?_
          refine q_bipush (v := nI 72) rfl rfl ?_
          refine q_icmp_geN rfl (by omega) (by omega) (fun hcks27 => ?_) (fun hcks27 => ?_)
          · omega
          · refine q_aload_n rfl rfl ?_
            refine q_getfield rfl hx_51 rfl ?_
            refine q_iload_n rfl rfl ?_
            refine q_iconst (v := nI 0) rfl rfl ?_
            refine q_iastN rfl hx_68 (by omega) (by decide) ?_
            refine q_heap (ha_68 _) ?_
            refine q_iincN (c := 1) (L' := [_, _, _, _, _, _, _]) rfl rfl rfl rfl ?_
            refine q_goto rfl ?_
            exact ih_k _ _ (⟨_, rfl, by rw [ua_ua, ua_eq], fun y hy => by by_cases e : y = k; subst e; exact pk_us; rw [pk_un (by omega)]; exact hg y (by omega)⟩)
        · obtain ⟨g, rfl, rfl, hg⟩ := hi_k
          refine q_iload_n rfl rfl ?_
          refine q_bipush (v := nI 72) rfl rfl ?_
          refine q_icmp_geN rfl (by omega) (by omega) (fun hckf27 => ?_) (fun hckf27 => ?_)
          · refine q_iload_n rfl rfl ?_
            refine q_iconst (v := nI 1) rfl rfl ?_
            refine q_isub rfl ?_
            refine q_istore_n (L' := [_, _, _, _, _, _, _]) rfl rfl ?_
            refine q_dn (Inv := fun k L h => ∃ g w z4 z5 z6, L = [some (.ref 51), some (.int (nI i)), some (.int (nI n)), some (.int (dI k)), z4, z5, z6] ∧ h = HX I (ua (ua A 68 g) 69 w) J B F ∧ ∀ c, c < 3 → ∀ s, s < 24 → g (24 * c + s) = nI ((cdp (fun r f => gnN b (mL A i) (nI f) (m + r)) n (n - k) c s))) (n) (fun k L h hk_k hi_k ih_k => ?_) (fun L h hi_k => ?_) (n) _ _ (by omega) (⟨g, A 69, _, _, _, rfl, by rw [ua_self (A := ua A 68 g) (c := 69) (f := A 69) rfl], fun c hc s hs => by rw [hg _ (by omega), Nat.sub_self]; rfl⟩)
            · obtain ⟨g, w, z4, z5, z6, rfl, rfl, hg⟩ := hi_k
              rw [dI_s]
              refine q_iload_n rfl rfl ?_
              refine q_if_ltN rfl (by omega) (fun hcks48 => ?_) (fun hcks48 => ?_)
              · omega
              · refine q_iconst (v := nI 0) rfl rfl ?_
                refine q_istore (L' := [_, _, _, _, _, _, _]) rfl rfl ?_
                refine q_up (Inv := fun x L h => ∃ w z5 z6, L = [some (.ref 51), some (.int (nI i)), some (.int (nI n)), some (.int (nI k)), some (.int (nI x)), z5, z6] ∧ h = HX I (ua (ua A 68 g) 69 w) J B F ∧ ∀ y, y < x → w y = nI (cMx (fun r f => gnN b (mL A i) (nI f) (m + r)) (cdp (fun r f => gnN b (mL A i) (nI f) (m + r)) n (n - (k + 1))) k (y / 24) (y % 24) 5)) (72) (fun x L h hk_x hi_x ih_x => ?_) (fun L h hi_x => ?_) (0) _ _ (by omega) (⟨w, _, _, rfl, rfl, fun y hy => absurd hy (Nat.not_lt_zero y)⟩)
                · obtain ⟨w, z5, z6, rfl, rfl, hg2⟩ := hi_x
                  refine q_iload rfl rfl ?_
                  refine q_bipush (v := nI 72) rfl rfl ?_
                  refine q_icmp_geN rfl (by omega) (by omega) (fun hcxs58 => ?_) (fun hcxs58 => ?_)
                  · omega
                  · refine q_aload_n rfl rfl ?_
                    refine q_getfield rfl hx_51 rfl ?_
                    refine q_iload rfl rfl ?_
                    refine q_iconst (v := nI 0) rfl rfl ?_
                    refine q_iastN rfl hx_69 (by omega) (by decide) ?_
                    refine q_heap (ha_69 _) ?_
                    refine q_bipush (v := (-2)) rfl rfl ?_
                    refine q_istore (L' := [_, _, _, _, _, _, _]) rfl rfl ?_
                    refine q_up (Inv := fun j L h => ∃ w z6, L = [some (.ref 51), some (.int (nI i)), some (.int (nI n)), some (.int (nI k)), some (.int (nI x)), some (.int (sI 2 j)), z6] ∧ h = HX I (ua (ua A 68 g) 69 w) J B F ∧ (∀ y, y < x → w y = nI (cMx (fun r f => gnN b (mL A i) (nI f) (m + r)) (cdp (fun r f => gnN b (mL A i) (nI f) (m + r)) n (n - (k + 1))) k (y / 24) (y % 24) 5)) ∧ w x = nI (cMx (fun r f => gnN b (mL A i) (nI f) (m + r)) (cdp (fun r f => gnN b (mL A i) (nI f) (m + r)) n (n - (k + 1))) k (x / 24) (x % 24) j)) (5) (fun j L h hk_j hi_j ih_j => ?_) (fun L h hi_j => ?_) (0) _ _ (by omega) (⟨upd w x (nI 0), _, rfl, by rw [ua_ua, ua_eq], fun y hy => by rw [pk_un (by omega)]; exact hg2 y hy, pk_us⟩)
                    · obtain ⟨w, z6, rfl, rfl, hg2, hg3⟩ := hi_j
                      refine q_iload rfl rfl ?_
                      refine q_iconst (v := nI 3) rfl rfl ?_
                      refine q_icmp_ge rfl (fun hcjs76 => ?_) (fun hcjs76 => ?_)
                      · exact absurd ((sI_lt (c := 2) (m := 3) (by omega) (by omega) (by omega)).mpr (by omega)) (Int32.not_lt.mpr hcjs76)
                      · refine q_aload_n rfl rfl ?_
                        refine q_iload_n rfl rfl ?_
                        refine q_aload_n rfl rfl ?_
                        refine q_getfield rfl hx_51 rfl ?_
                        refine q_iconst (v := nI 1) rfl rfl ?_
                        refine q_iald rfl (by decide) hx_52 (by decide) (by decide) ((by exact em)) ?_
                        refine q_iload_n rfl rfl ?_
                        refine q_iaddN rfl ?_
                        refine q_iload rfl rfl ?_
                        refine q_bipush (v := nI 24) rfl rfl ?_
                        refine q_idivN rfl (by omega) (by decide) (by decide) ?_
                        refine q_iload rfl rfl ?_
                        refine q_bipush (v := nI 24) rfl rfl ?_
                        refine q_iremN rfl (by omega) (by decide) (by decide) ?_
                        refine q_iload rfl rfl ?_
                        refine q_iadd rfl ?_
                        refine q_callS1 rfl rfl (Nat.le_of_ble_eq_true rfl) (Nat.le_of_ble_eq_true rfl) (sX9_ring _) ?_
                        refine q_cn (show _ = nI (tN (x % 24) (j + 4)) by rw [rdN_t2 (by omega) hk_j]) ?_
                        refine q_callV4 rfl hx_51 (Nat.le_of_ble_eq_true rfl) (Nat.le_of_ble_eq_true rfl) (sX9_worseOf b hb (by exact eb) i (by omega) (by exact hl) (m + k) (by omega) (x / 24) (tN (x % 24) (j + 4)) (by omega) (tN_lt _ _) (cdp (fun r f => gnN b (mL A i) (nI f) (m + r)) n (n - (k + 1))) (by exact hg) (fun c s => Nat.le_trans (cdp_le (g := (fun r f => gnN b (mL A i) (nI f) (m + r))) (fun k s => gnN_le (hl i (by omega)).1.2) _ c s) (show 24 * (n - (k + 1)) ≤ 1000 by omega))) ?_
                        refine q_cn (show _ = nI (cLt (fun r f => gnN b (mL A i) (nI f) (m + r)) (cdp (fun r f => gnN b (mL A i) (nI f) (m + r)) n (n - (k + 1))) k (x / 24) (x % 24) j) from rfl) ?_
                        refine q_istore (L' := [_, _, _, _, _, _, _]) rfl rfl ?_
                        refine q_aload_n rfl rfl ?_
                        refine q_getfield rfl hx_51 rfl ?_
                        refine q_iload rfl rfl ?_
                        refine q_iload rfl rfl ?_
                        refine q_aload_n rfl rfl ?_
                        refine q_getfield rfl hx_51 rfl ?_
                        refine q_iload rfl rfl ?_
                        refine q_iald rfl (by decide) hx_69 (by omega) (by decide) ((show (ua (ua A 68 g) 69 w) 69 x = _ from hg3)) ?_
                        refine q_icmp_leN rfl (by have h1 := cLt_le (g := (fun r f => gnN b (mL A i) (nI f) (m + r))) (k := k) (c := x / 24) (s := x % 24) (j := j) (fun k s => gnN_le (hl i (by omega)).1.2) (cdp_le (g := (fun r f => gnN b (mL A i) (nI f) (m + r))) (fun k s => gnN_le (hl i (by omega)).1.2) (n := n) (n - (k + 1))); have h2 := cMx_le (g := (fun r f => gnN b (mL A i) (nI f) (m + r))) (k := k) (c := x / 24) (s := x % 24) (fun k s => gnN_le (hl i (by omega)).1.2) (cdp_le (g := (fun r f => gnN b (mL A i) (nI f) (m + r))) (fun k s => gnN_le (hl i (by omega)).1.2) (n := n) (n - (k + 1))) j; show cLt (fun r f => gnN b (mL A i) (nI f) (m + r)) (cdp (fun r f => gnN b (mL A i) (nI f) (m + r)) n (n - (k + 1))) k (x / 24) (x % 24) j < 2 ^ 31; omega) (by have h1 := cLt_le (g := (fun r f => gnN b (mL A i) (nI f) (m + r))) (k := k) (c := x / 24) (s := x % 24) (j := j) (fun k s => gnN_le (hl i (by omega)).1.2) (cdp_le (g := (fun r f => gnN b (mL A i) (nI f) (m + r))) (fun k s => gnN_le (hl i (by omega)).1.2) (n := n) (n - (k + 1))); have h2 := cMx_le (g := (fun r f => gnN b (mL A i) (nI f) (m + r))) (k := k) (c := x / 24) (s := x % 24) (fun k s => gnN_le (hl i (by omega)).1.2) (cdp_le (g := (fun r f => gnN b (mL A i) (nI f) (m + r))) (fun k s => gnN_le (hl i (by omega)).1.2) (n := n) (n - (k + 1))) j; show cMx (fun r f => gnN b (mL A i) (nI f) (m + r)) (cdp (fun r f => gnN b (mL A i) (nI f) (m + r)) n (n - (k + 1))) k (x / 24) (x % 24) j < 2 ^ 31; omega) (fun hcjs125 => ?_) (fun hcjs125 => ?_)
                        · refine q_aload_n rfl rfl ?_
                          refine q_getfield rfl hx_51 rfl ?_
                          refine q_iload rfl rfl ?_
                          refine q_iald rfl (by decide) hx_69 (by omega) (by decide) ((show (ua (ua A 68 g) 69 w) 69 x = _ from hg3)) ?_
                          refine q_iastN rfl hx_69 (by omega) (by decide) ?_
                          refine q_heap (ha_69 _) ?_
                          refine q_iinc (v := sI 2 (j + 1)) (L' := [_, _, _, _, _, _, _]) rfl rfl (sI_inc 2 j) rfl ?_
                          refine q_goto rfl ?_
                          exact ih_j _ _ (⟨_, _, rfl, by rw [ua_ua, ua_eq], fun y hy => by rw [pk_un (by omega)]; exact hg2 y hy, by rw [pk_us]; show _ = nI (max (cMx (fun r f => gnN b (mL A i) (nI f) (m + r)) (cdp (fun r f => gnN b (mL A i) (nI f) (m + r)) n (n - (k + 1))) k (x / 24) (x % 24) j) (cLt (fun r f => gnN b (mL A i) (nI f) (m + r)) (cdp (fun r f => gnN b (mL A i) (nI f) (m + r)) n (n - (k + 1))) k (x / 24) (x % 24) j)); exact congrArg nI (by omega)⟩)
                        · refine q_iload rfl rfl ?_
                          refine q_goto rfl ?_
                          refine q_iastN rfl hx_69 (by omega) (by decide) ?_
                          refine q_heap (ha_69 _) ?_
                          refine q_iinc (v := sI 2 (j + 1)) (L' := [_, _, _, _, _, _, _]) rfl rfl (sI_inc 2 j) rfl ?_
                          refine q_goto rfl ?_
                          exact ih_j _ _ (⟨_, _, rfl, by rw [ua_ua, ua_eq], fun y hy => by rw [pk_un (by omega)]; exact hg2 y hy, by rw [pk_us]; show _ = nI (max (cMx (fun r f => gnN b (mL A i) (nI f) (m + r)) (cdp (fun r f => gnN b (mL A i) (nI f) (m + r)) n (n - (k + 1))) k (x / 24) (x % 24) j) (cLt (fun r f => gnN b (mL A i) (nI f) (m + r)) (cdp (fun r f => gnN b (mL A i) (nI f) (m + r)) n (n - (k + 1))) k (x / 24) (x % 24) j)); exact congrArg nI (by omega)⟩)
                    · obtain ⟨w, z6, rfl, rfl, hg2, hg3⟩ := hi_j
                      refine q_iload rfl rfl ?_
                      refine q_iconst (v := nI 3) rfl rfl ?_
                      refine q_icmp_ge rfl (fun hcjf76 => ?_) (fun hcjf76 => ?_)
                      · refine q_iincN (c := 1) (L' := [_, _, _, _, _, _, _]) rfl rfl rfl rfl ?_
                        refine q_goto rfl ?_
                        exact ih_x _ _ (⟨_, _, _, rfl, rfl, fun y hy => by by_cases e9 : y = x; subst e9; exact hg3; exact hg2 y (by omega)⟩)
                      · exact absurd (show nI 3 ≤ sI 2 5 by decide) hcjf76
                · obtain ⟨w, z5, z6, rfl, rfl, hg2⟩ := hi_x
                  refine q_iload rfl rfl ?_
                  refine q_bipush (v := nI 72) rfl rfl ?_
                  refine q_icmp_geN rfl (by omega) (by omega) (fun hcxf58 => ?_) (fun hcxf58 => ?_)
                  · refine q_iconst (v := nI 0) rfl rfl ?_
                    refine q_istore (L' := [_, _, _, _, _, _, _]) rfl rfl ?_
                    refine q_up (Inv := fun x L h => ∃ g2, L = [some (.ref 51), some (.int (nI i)), some (.int (nI n)), some (.int (nI k)), some (.int (nI x)), z5, z6] ∧ h = HX I (ua (ua A 68 g2) 69 w) J B F ∧ ∀ y, y < x → g2 y = w y) (72) (fun x L h hk_x hi_x ih_x => ?_) (fun L h hi_x => ?_) (0) _ _ (by omega) (⟨g, rfl, rfl, fun y hy => absurd hy (Nat.not_lt_zero y)⟩)
                    · obtain ⟨g2, rfl, rfl, hg4⟩ := hi_x
                      refine q_iload rfl rfl ?_
                      refine q_bipush (v := nI 72) rfl rfl ?_
                      refine q_icmp_geN rfl (by omega) (by omega) (fun hcxs160 => ?_) (fun hcxs160 => ?_)
                      · omega
                      · refine q_aload_n rfl rfl ?_
                        refine q_getfield rfl hx_51 rfl ?_
                        refine q_iload rfl rfl ?_
                        refine q_aload_n rfl rfl ?_
                        refine q_getfield rfl hx_51 rfl ?_
                        refine q_iload rfl rfl ?_
                        refine q_iald rfl (by decide) hx_69 (by omega) (by decide) (rfl) ?_
                        refine q_iastN rfl hx_68 (by omega) (by decide) ?_
                        refine q_heap (ha_68 _) ?_
                        refine q_iincN (c := 1) (L' := [_, _, _, _, _, _, _]) rfl rfl rfl rfl ?_
                        refine q_goto rfl ?_
                        exact ih_x _ _ (⟨_, rfl, by rw [tb_s0 (by decide), tb_l0 (by decide)], fun y hy => by by_cases e9 : y = x; subst e9; rw [pk_us, ua_eq]; rw [pk_un e9]; exact hg4 y (by omega)⟩)
                    · obtain ⟨g2, rfl, rfl, hg4⟩ := hi_x
                      refine q_iload rfl rfl ?_
                      refine q_bipush (v := nI 72) rfl rfl ?_
                      refine q_icmp_geN rfl (by omega) (by omega) (fun hcxf160 => ?_) (fun hcxf160 => ?_)
                      · refine q_iinc (v := dI k) (L' := [_, _, _, _, _, _, _]) rfl rfl (dI_m k) rfl ?_
                        refine q_goto rfl ?_
                        exact ih_k _ _ (⟨_, _, _, _, _, rfl, rfl, fun c hc s hs => by rw [hg4 (24 * c + s) (by omega), hg2 (24 * c + s) (by omega), show (24 * c + s) / 24 = c by omega, show (24 * c + s) % 24 = s by omega, cdp_row hk_k]⟩)
                      · omega
                  · omega
            · obtain ⟨g, w, z4, z5, z6, rfl, rfl, hg⟩ := hi_k
              refine q_iload_n rfl rfl ?_
              refine q_if_lt rfl (fun hckf48 => ?_) (fun hckf48 => ?_)
              · refine q_aload_n rfl rfl ?_
                refine q_getfield rfl hx_51 rfl ?_
                refine q_bipush (v := nI 24) rfl rfl ?_
                refine q_iload_n rfl rfl ?_
                refine q_iconst (v := nI 2) rfl rfl ?_
                refine q_idivN rfl (by omega) (by decide) (by decide) ?_
                refine q_imulN rfl ?_
                refine q_aload_n rfl rfl ?_
                refine q_getfield rfl hx_51 rfl ?_
                refine q_iconst (v := nI 2) rfl rfl ?_
                refine q_iald rfl (by decide) hx_52 (by decide) (by decide) ((by exact es)) ?_
                refine q_iaddN rfl ?_
                refine q_iald rfl (by decide) hx_68 (by omega) (by decide) ((show (ua (ua A 68 g) 69 w) 68 (24 * (n / 2) + s) = nI ((cdp (fun r f => gnN b (mL A i) (nI f) (m + r)) n n (n / 2) s)) from hg (n / 2) (by omega) s hs)) ?_
                refine q_iret rfl rfl ?_
                exact ⟨g, w, rfl, rfl, trivial⟩
              · exact absurd (by decide) hckf48
          · omega
      · exact absurd hc17 (by decide))
  subst hr_
  subst hh_
  exact ⟨g, w, he_, hf_⟩
set_option maxHeartbeats 1000000 in
theorem op_32 {X : XX} : Op_32 X RelR := by
  intro a1 y I A J B F hr
  obtain ⟨ln, b, st, hL, hT, hK, hD, hN, hQ, hF, hU, hJ, hS⟩ := id hr
  obtain ⟨hln, hb, hst, eln, eln', eb, eb', e7, e7', hb1⟩ := id hD
  obtain ⟨d, hd, n1, q0, n2, n3, n9, q1, q2, q3, hp⟩ := id hN
  have hm : (rp st (A 9) d).1 ≤ 40 := Nat.le_trans (rp_1 st (A 9) d) hd
  have hs := rp_2 st (A 9) d
  have lks := RelK_lks hK
  have hl := RelK_hl hK
  have cLe := RelK_cL hK
  rcases ix3 a1 ln (by first | decide | omega) with hk | hk | ⟨k, hk, rfl⟩
  · exact opI_mk (by decide) (by decide) (c_cloud_b a1 (Or.inl (by first | exact hk | (rw [eln]; exact hk))) y) (m_cloud_b ln hln (by exact eln') a1 (Or.inl hk) y) (hr)
  · exact opI_mk (by decide) (by decide) (c_cloud_b a1 (Or.inr (by first | exact hk | (rw [eln]; exact hk))) y) (m_cloud_b ln hln (by exact eln') a1 (Or.inr hk) y) (hr)
  · by_cases y0 : y < nI 0
    · exact opI_mk (by decide) (by decide) (c_cloud_n ln hln eln k hk y (Or.inl y0)) (m_cloud_n ln hln (by exact eln') k hk y (Or.inl y0)) (hr)
    by_cases y4 : nI 4 < y
    · exact opI_mk (by decide) (by decide) (c_cloud_n ln hln eln k hk y (Or.inr y4)) (m_cloud_n ln hln (by exact eln') k hk y (Or.inr y4)) (hr)
    obtain ⟨n, hn4, rfl⟩ := nI_of2 (M := nI 4) (n := 4) rfl y0 (Int32.not_lt.mp y4)
    obtain ⟨g1, G, f, g, h9, hS9⟩ := c_cloud_0 (X := X) (A := A) (J := J) (B := B) (F := F) hS b hb eb (rp st (A 9) d).1 n2 hm (rp st (A 9) d).2.1 n3 hs ln hln eln lks k hk n hn4
    have hF9 := F_lt hS9
    rw [cLe k (by omega)] at h9
    obtain ⟨g2, w, h10, _⟩ := m_cloud_0 (X := X) (I := I) (A := ua (ua (ua A 12 g1) (G 0) f) (G 1) g) (J := J) (B := B) (F := G) b hb eb' (rp st (A 9) d).1 (by rw [ua_ne (by omega), ua_ne (by omega)]; exact q1) hm (rp st (A 9) d).2.1 (by rw [ua_ne (by omega), ua_ne (by omega)]; exact q2) hs ln hln eln' (by unfold mLk mL; rw [ua_ne (x := 53) (by omega), ua_ne (x := 54) (by omega), ua_ne (x := 55) (by omega), ua_ne (x := 56) (by omega), ua_ne (x := 53) (by omega), ua_ne (x := 54) (by omega), ua_ne (x := 55) (by omega), ua_ne (x := 56) (by omega)]; exact hl) k hk n hn4
    rw [show mL (ua (ua (ua A 12 g1) (G 0) f) (G 1) g) k = mL A k from by unfold mL; rw [ua_ne (x := 53) (by omega), ua_ne (x := 54) (by omega), ua_ne (x := 55) (by omega), ua_ne (x := 56) (by omega), ua_ne (x := 53) (by omega), ua_ne (x := 54) (by omega), ua_ne (x := 55) (by omega), ua_ne (x := 56) (by omega)]; rfl] at h10
    exact opI_mk (by decide) (by decide) (h9) (h10) (⟨ln, b, st, (by repeat first | exact hL | refine RelL_n4 ?_ | refine RelL_u2 (by omega) ?_ | refine RelL_ua (by omega) ?_), (by repeat first | exact hT | refine RelT_n4 ?_ | refine RelT_u2 (by omega) ?_ | refine RelT_ua (by omega) ?_), (by repeat first | exact hK | refine RelK_n4 ?_ | refine RelK_u2 (by omega) ?_ | refine RelK_ua (by omega) ?_), (by repeat first | exact hD | refine RelD_n4 ?_ | refine RelD_u2 (by omega) ?_), (by repeat first | exact hN | refine RelN_u2 (by omega) ?_ | refine RelN_ua (by omega) ?_), (by repeat first | exact hQ | refine RelQ_n4 ?_ | refine RelQ_u2 (by omega) ?_ | refine RelQ_ua (by omega) ?_), (by repeat first | exact hF | refine RelF_n4 ?_ | refine RelF_u2 (by omega) ?_ | refine RelF_ua (by omega) ?_), (by repeat first | exact hU | refine RelU_n4 ?_ | refine RelU_u2 (by omega) ?_), hJ, hS9⟩)
