/-! the least by turns: the reference's side -/
def EV (st : Nat) (A : Nat → Nat → Int32) : Prop := ∀ s, s < 24 → ∀ j, j < 13 → A 64 (13 * s + j) = nI (eN st s j)
theorem ce_ix (a j : Nat) : nI a + sI 6 j + nI 6 = nI (a + j) := by
  unfold sI
  rw [Int32.add_assoc, Int32.sub_add_cancel, nI_add]
theorem sI6_0 {j : Nat} (hj : j < 13) : sI 6 j = 0 ↔ j = 6 := by
  constructor
  · intro h
    have h2 := congrArg Int32.toInt h
    rw [sI_toInt (by omega) (by omega), Int32.toInt_zero] at h2
    omega
  · rintro rfl
    decide
theorem sX9_layEfforts {X : XX} {I A : Nat → Nat → Int32} {J B : Nat → Nat → Int64} {F : Nat → Nat} (st : Nat) (hst : st < 24) (est : I 51 2 = nI st)  : ∃ g, x_ev X xT 3 212 [.ref 51] (HX I A J B F) none (HX I (ua A 64 g) J B F) ∧ EV st (ua A 64 g) := by
  obtain ⟨r_, h_, he_, g, hr_, hh_, hf_⟩ := q_evx (X := X) (d := 2) (as := [.ref 51]) (h := (HX I A J B F)) (P := fun r_ h_ => ∃ g, r_ = none ∧ h_ = (HX I (ua A 64 g) J B F) ∧ EV st (ua A 64 g)) (L := [some (.ref 51), none]) tX9_layEfforts (Nat.le_of_ble_eq_true rfl) rfl (by
    refine q_iconst (v := nI 0) rfl rfl ?_
    refine q_istore_n (L' := [_, _]) rfl rfl ?_
    refine q_up (Inv := fun k L h => ∃ g, L = [some (.ref 51), some (.int (nI k))] ∧ h = HX I (ua A 64 g) J B F ∧ ∀ i, i < k → g i = nI (eN st (i / 13) (i % 13))) (312) (fun k L h hk_k hi_k ih_k => ?_) (fun L h hi_k => ?_) (0) _ _ (by omega) (⟨A 64, rfl, by rw [ua_self rfl], fun i hi => absurd hi (Nat.not_lt_zero i)⟩)
    · obtain ⟨g, rfl, rfl, hg⟩ := hi_k
      refine q_iload_n rfl rfl ?_
      refine q_sipush (v := nI 312) rfl rfl ?_
      refine q_icmp_geN rfl (by omega) (by omega) (fun hcks6 => ?_) (fun hcks6 => ?_)
      · omega
      · refine q_aload_n rfl rfl ?_
        refine q_getfield rfl hx_51 rfl ?_
        refine q_iload_n rfl rfl ?_
        refine q_aload_n rfl rfl ?_
        refine q_iload_n rfl rfl ?_
        refine q_bipush (v := nI 13) rfl rfl ?_
        refine q_idivN rfl (by omega) (by decide) (by decide) ?_
        refine q_iload_n rfl rfl ?_
        refine q_bipush (v := nI 13) rfl rfl ?_
        refine q_iremN rfl (by omega) (by decide) (by decide) ?_
        refine q_bipush (v := nI 6) rfl rfl ?_
        refine q_isub rfl ?_
        refine q_callV2 rfl hx_51 (Nat.le_of_ble_eq_true rfl) (Nat.le_of_ble_eq_true rfl) (sX9_effortFrom st (k / 13) (k % 13) hst (by omega) (by omega) est) ?_
        refine q_iastN rfl hx_64 (by omega) (by decide) ?_
        refine q_heap (ha_64 _) ?_
        refine q_iincN (c := 1) (L' := [_, _]) rfl rfl rfl rfl ?_
        refine q_goto rfl ?_
        exact ih_k _ _ (⟨_, rfl, by rw [ua_ua, ua_eq], fun i hi => by by_cases e : i = k; subst e; exact pk_us; rw [pk_un (by omega)]; exact hg i (by omega)⟩)
    · obtain ⟨g, rfl, rfl, hg⟩ := hi_k
      refine q_iload_n rfl rfl ?_
      refine q_sipush (v := nI 312) rfl rfl ?_
      refine q_icmp_geN rfl (by omega) (by omega) (fun hckf6 => ?_) (fun hckf6 => ?_)
      · refine q_vret rfl rfl ?_
        exact ⟨g, rfl, rfl, fun s hs j hj => by rw [ua_eq, hg _ (by omega), show (13 * s + j) / 13 = s by omega, show (13 * s + j) % 13 = j by omega]⟩
      · omega)
  subst hr_
  subst hh_
  exact ⟨g, he_, hf_⟩
theorem sX9_costOf {X : XX} {I A : Nat → Nat → Int32} {J B : Nat → Nat → Int64} {F : Nat → Nat} (st s j bt : Nat) (hs : s < 24) (hj : j < 13) (hb1 : bt ≤ 1) (hE : EV st A) : x_ev X xT 1 213 [.ref 51, .int (nI s), .int (sI 6 j), .int (nI bt)] (HX I A J B F) (some (.int (nI (cN bt st s j)))) (HX I A J B F) := by
  refine q_ev (L := [some (.ref 51), some (.int (nI s)), some (.int (sI 6 j)), some (.int (nI bt))]) tX9_costOf (Nat.le_of_ble_eq_true rfl) rfl ?_
  refine q_iload_n rfl rfl ?_
  refine q_if_eqN rfl (by omega) (fun hc1 => ?_) (fun hc1 => ?_)
  · refine q_aload_n rfl rfl ?_
    refine q_getfield rfl hx_51 rfl ?_
    refine q_bipush (v := nI 13) rfl rfl ?_
    refine q_iload_n rfl rfl ?_
    refine q_imulN rfl ?_
    refine q_iload_n rfl rfl ?_
    refine q_iadd rfl ?_
    refine q_bipush (v := nI 6) rfl rfl ?_
    refine q_iadd rfl ?_
    refine q_cn (ce_ix _ _) ?_
    refine q_iald rfl (by decide) hx_64 (by omega) (by decide) (hE s hs j hj) ?_
    refine q_iret rfl rfl ?_
    exact ⟨vI (by unfold cN; first | rw [if_pos hc1] | (rw [if_neg hc1]; first | rw [if_pos ((sI6_0 hj).mp hc5)] | rw [if_neg (fun z => hc5 ((sI6_0 hj).mpr z))])), rfl⟩
  · refine q_iload_n rfl rfl ?_
    refine q_if_ne rfl (fun hc5 => ?_) (fun hc5 => ?_)
    · refine q_iconst (v := nI 1) rfl rfl ?_
      refine q_goto rfl ?_
      refine q_iret rfl rfl ?_
      exact ⟨vI (by unfold cN; first | rw [if_pos hc1] | (rw [if_neg hc1]; first | rw [if_pos ((sI6_0 hj).mp hc5)] | rw [if_neg (fun z => hc5 ((sI6_0 hj).mpr z))])), rfl⟩
    · refine q_iconst (v := nI 0) rfl rfl ?_
      refine q_goto rfl ?_
      refine q_iret rfl rfl ?_
      exact ⟨vI (by unfold cN; first | rw [if_pos hc1] | (rw [if_neg hc1]; first | rw [if_pos ((sI6_0 hj).mp hc5)] | rw [if_neg (fun z => hc5 ((sI6_0 hj).mpr z))])), rfl⟩
theorem sX9_onBy {X : XX} {I A : Nat → Nat → Int32} {J B : Nat → Nat → Int64} {F : Nat → Nat} (b : Nat) (hb : b ≤ 5) (eb : I 51 1 = nI b) (m : Nat) (em : A 52 1 = nI m) (hm : m ≤ 40) (i : Nat) (hi : i < 5) (hl : mLk A) (st : Nat) (hE : EV st A) (k s j bt d0 : Nat) (hk : k < 8) (hs : s < 24) (hj : j < 13) (hb1 : bt ≤ 1) (hD : A 63 (24 * (k + 1) + tN s j) = nI d0) : x_ev X xT 4 214 [.ref 51, .int (nI i), .int (nI k), .int (nI s), .int (sI 6 j), .int (nI bt)] (HX I A J B F) (some (.int (nI (lBk 100000 (fun k f => gnN b (mL A i) (nI f) (m + k)) (cN bt st) (fun _ => d0) k s j)))) (HX I A J B F) := by
  have ht := tN_lt s j
  have hg9 := gnN_le (b := b) (l := mL A i) (fi := nI (tN s j)) (m := m + k) (hl i hi).1.2
  refine q_ev (L := [some (.ref 51), some (.int (nI i)), some (.int (nI k)), some (.int (nI s)), some (.int (sI 6 j)), some (.int (nI bt)), none]) tX9_onBy (Nat.le_of_ble_eq_true rfl) rfl ?_
  refine q_iload_n rfl rfl ?_
  refine q_iload rfl rfl ?_
  refine q_iadd rfl ?_
  refine q_callS1 rfl rfl (Nat.le_of_ble_eq_true rfl) (Nat.le_of_ble_eq_true rfl) (sX9_ring _) ?_
  refine q_cn (show _ = nI (tN s j) by rw [rdN_t hs hj]) ?_
  refine q_istore (L' := [_, _, _, _, _, _, _]) rfl rfl ?_
  refine q_aload_n rfl rfl ?_
  refine q_iload_n rfl rfl ?_
  refine q_iload rfl rfl ?_
  refine q_aload_n rfl rfl ?_
  refine q_getfield rfl hx_51 rfl ?_
  refine q_iconst (v := nI 1) rfl rfl ?_
  refine q_iald rfl (by decide) hx_52 (by decide) (by decide) (em) ?_
  refine q_iload_n rfl rfl ?_
  refine q_iaddN rfl ?_
  refine q_callV3 rfl hx_51 (Nat.le_of_ble_eq_true rfl) (Nat.le_of_ble_eq_true rfl) (sX9_got i hi hl b hb eb _ _ (by omega)) ?_
  refine q_if_leN rfl (by omega) (fun hc24 => ?_) (fun hc24 => ?_)
  · refine q_ldc (v := nI 100000) rfl rfl ?_
    refine q_iret rfl rfl ?_
    exact ⟨vI (by unfold lBk; first | rw [if_pos (show gnN b (mL A i) (nI (tN s j)) (m + k) = 0 by omega)] | rw [if_neg (show ¬ gnN b (mL A i) (nI (tN s j)) (m + k) = 0 by omega)]), rfl⟩
  · refine q_aload_n rfl rfl ?_
    refine q_iload_n rfl rfl ?_
    refine q_iload rfl rfl ?_
    refine q_iload rfl rfl ?_
    refine q_callV3 rfl hx_51 (Nat.le_of_ble_eq_true rfl) (Nat.le_of_ble_eq_true rfl) (sX9_costOf st s j bt hs hj hb1 hE) ?_
    refine q_aload_n rfl rfl ?_
    refine q_getfield rfl hx_51 rfl ?_
    refine q_bipush (v := nI 24) rfl rfl ?_
    refine q_iload_n rfl rfl ?_
    refine q_iconst (v := nI 1) rfl rfl ?_
    refine q_iaddN rfl ?_
    refine q_imulN rfl ?_
    refine q_iload rfl rfl ?_
    refine q_iaddN rfl ?_
    refine q_iald rfl (by decide) hx_63 (by omega) (by decide) (hD) ?_
    refine q_iaddN rfl ?_
    refine q_goto rfl ?_
    refine q_iret rfl rfl ?_
    exact ⟨vI (by unfold lBk; first | rw [if_pos (show gnN b (mL A i) (nI (tN s j)) (m + k) = 0 by omega)] | rw [if_neg (show ¬ gnN b (mL A i) (nI (tN s j)) (m + k) = 0 by omega)]), rfl⟩
theorem lBk_le {N : Nat} {g c : Nat → Nat → Nat} {D : Nat → Nat} {k s j : Nat} (hc : c s j ≤ 10) (hD : D (tN s j) ≤ N) : lBk N g c D k s j ≤ N + 10 := by
  unfold lBk
  split <;> omega
set_option maxHeartbeats 400000 in
theorem sX9_layLeast {X : XX} {I A : Nat → Nat → Int32} {J B : Nat → Nat → Int64} {F : Nat → Nat} (b : Nat) (hb : b ≤ 5) (eb : I 51 1 = nI b) (m : Nat) (em : A 52 1 = nI m) (hm : m ≤ 40) (i : Nat) (hi : i < 5) (hl : mLk A) (st : Nat) (hst : st < 24) (est : I 51 2 = nI st) (n bt : Nat) (n1 : 1 ≤ n) (n8 : n ≤ 8) (hb1 : bt ≤ 1) : ∃ e4 g, x_ev X xT 5 215 [.ref 51, .int (nI i), .int (nI n), .int (nI bt)] (HX I A J B F) none (HX I (ua (ua A 64 e4) 63 g) J B F) ∧ EV st (ua (ua A 64 e4) 63 g) ∧ (∀ q, q ≤ n → 0 ≤ n - q → ∀ f, f < 24 → g (24 * (n - q) + f) = nI (dpR 100000 (fun k f => gnN b (mL A i) (nI f) (m + k)) (cN bt st) n q f)) := by
  obtain ⟨e4, he4, hE⟩ := sX9_layEfforts (X := X) (I := I) (A := A) (J := J) (B := B) (F := F) st hst est
  obtain ⟨r_, h_, he_, e4, g, hr_, hh_, hf_⟩ := q_evx (X := X) (d := 4) (as := [.ref 51, .int (nI i), .int (nI n), .int (nI bt)]) (h := (HX I A J B F)) (P := fun r_ h_ => ∃ e4 g, r_ = none ∧ h_ = (HX I (ua (ua A 64 e4) 63 g) J B F) ∧ EV st (ua (ua A 64 e4) 63 g) ∧ (∀ q, q ≤ n → 0 ≤ n - q → ∀ f, f < 24 → g (24 * (n - q) + f) = nI (dpR 100000 (fun k f => gnN b (mL A i) (nI f) (m + k)) (cN bt st) n q f))) (L := [some (.ref 51), some (.int (nI i)), some (.int (nI n)), some (.int (nI bt)), none, none, none, none]) tX9_layLeast (Nat.le_of_ble_eq_true rfl) rfl (by
    refine q_aload_n rfl rfl ?_
    refine q_callV0 rfl hx_51 (Nat.le_of_ble_eq_true rfl) (Nat.le_of_ble_eq_true rfl) (he4) ?_
    refine q_iconst (v := nI 0) rfl rfl ?_
    refine q_istore (L' := [_, _, _, _, _, _, _, _]) rfl rfl ?_
    refine q_up (Inv := fun x L h => ∃ g z5 z6 z7, L = [some (.ref 51), some (.int (nI i)), some (.int (nI n)), some (.int (nI bt)), some (.int (nI x)), z5, z6, z7] ∧ h = HX I (ua (ua A 64 e4) 63 g) J B F ∧ ∀ f, f < x → g (24 * n + f) = nI 0) (24) (fun x L h hk_x hi_x ih_x => ?_) (fun L h hi_x => ?_) (0) _ _ (by omega) (⟨A 63, _, _, _, rfl, by rw [ua_self (A := ua A 64 e4) (c := 63) (f := A 63) rfl], fun f hf => absurd hf (Nat.not_lt_zero f)⟩)
    · obtain ⟨g, z5, z6, z7, rfl, rfl, hg0⟩ := hi_x
      refine q_iload rfl rfl ?_
      refine q_bipush (v := nI 24) rfl rfl ?_
      refine q_icmp_geN rfl (by omega) (by omega) (fun hcxs11 => ?_) (fun hcxs11 => ?_)
      · omega
      · refine q_aload_n rfl rfl ?_
        refine q_getfield rfl hx_51 rfl ?_
        refine q_bipush (v := nI 24) rfl rfl ?_
        refine q_iload_n rfl rfl ?_
        refine q_imulN rfl ?_
        refine q_iload rfl rfl ?_
        refine q_iaddN rfl ?_
        refine q_iconst (v := 0) rfl rfl ?_
        refine q_iastN rfl hx_63 (by omega) (by decide) ?_
        refine q_heap (ha_63 _) ?_
        refine q_iincN (c := 1) (L' := [_, _, _, _, _, _, _, _]) rfl rfl rfl rfl ?_
        refine q_goto rfl ?_
        exact ih_x _ _ (⟨_, _, _, _, rfl, by rw [ua_ua, ua_eq], fun f hf => by by_cases e : f = x; subst e; exact pk_us; rw [pk_un (by omega)]; exact hg0 f (by omega)⟩)
    · obtain ⟨g, z5, z6, z7, rfl, rfl, hg0⟩ := hi_x
      refine q_iload rfl rfl ?_
      refine q_bipush (v := nI 24) rfl rfl ?_
      refine q_icmp_geN rfl (by omega) (by omega) (fun hcxf11 => ?_) (fun hcxf11 => ?_)
      · refine q_iload_n rfl rfl ?_
        refine q_iconst (v := nI 1) rfl rfl ?_
        refine q_isubN rfl (n1) ?_
        refine q_istore (L' := [_, _, _, _, _, _, _, _]) rfl rfl ?_
        refine q_dn (Inv := fun k L h => ∃ g z5 z6 z7, L = [some (.ref 51), some (.int (nI i)), some (.int (nI n)), some (.int (nI bt)), some (.int (dI k)), z5, z6, z7] ∧ h = HX I (ua (ua A 64 e4) 63 g) J B F ∧ (∀ q, q ≤ n → k ≤ n - q → ∀ f, f < 24 → g (24 * (n - q) + f) = nI (dpR 100000 (fun k f => gnN b (mL A i) (nI f) (m + k)) (cN bt st) n q f))) (n) (fun k L h hk_k hi_k ih_k => ?_) (fun L h hi_k => ?_) (n) _ _ (by omega) (⟨g, _, _, _, by rw [show nI (n - 1) = dI n from (by rw [← dI_s, show n - 1 + 1 = n by omega])], rfl, fun q hq hk f hf => by have e0 : q = 0 := (by omega); subst e0; exact hg0 f hf⟩)
        · obtain ⟨g, z5, z6, z7, rfl, rfl, hg⟩ := hi_k
          rw [dI_s]
          refine q_iload rfl rfl ?_
          refine q_if_ltN rfl (by omega) (fun hcks40 => ?_) (fun hcks40 => ?_)
          · omega
          · refine q_iconst (v := nI 0) rfl rfl ?_
            refine q_istore (L' := [_, _, _, _, _, _, _, _]) rfl rfl ?_
            refine q_up (Inv := fun x L h => ∃ g z6 z7, L = [some (.ref 51), some (.int (nI i)), some (.int (nI n)), some (.int (nI bt)), some (.int (nI k)), some (.int (nI x)), z6, z7] ∧ h = HX I (ua (ua A 64 e4) 63 g) J B F ∧ (∀ q, q ≤ n → k + 1 ≤ n - q → ∀ f, f < 24 → g (24 * (n - q) + f) = nI (dpR 100000 (fun k f => gnN b (mL A i) (nI f) (m + k)) (cN bt st) n q f)) ∧ ∀ f, f < x → g (24 * k + f) = nI (lMn 100000 (fun k f => gnN b (mL A i) (nI f) (m + k)) (cN bt st) (dpR 100000 (fun k f => gnN b (mL A i) (nI f) (m + k)) (cN bt st) n (n - (k + 1))) k f 13)) (24) (fun x L h hk_x hi_x ih_x => ?_) (fun L h hi_x => ?_) (0) _ _ (by omega) (⟨g, _, _, rfl, rfl, hg, fun f hf => absurd hf (Nat.not_lt_zero f)⟩)
            · obtain ⟨g, z6, z7, rfl, rfl, hg, hg2⟩ := hi_x
              refine q_iload rfl rfl ?_
              refine q_bipush (v := nI 24) rfl rfl ?_
              refine q_icmp_geN rfl (by omega) (by omega) (fun hcxs50 => ?_) (fun hcxs50 => ?_)
              · omega
              · refine q_aload_n rfl rfl ?_
                refine q_getfield rfl hx_51 rfl ?_
                refine q_bipush (v := nI 24) rfl rfl ?_
                refine q_iload rfl rfl ?_
                refine q_imulN rfl ?_
                refine q_iload rfl rfl ?_
                refine q_iaddN rfl ?_
                refine q_ldc (v := nI 100000) rfl rfl ?_
                refine q_iastN rfl hx_63 (by omega) (by decide) ?_
                refine q_heap (ha_63 _) ?_
                refine q_bipush (v := (-6)) rfl rfl ?_
                refine q_istore (L' := [_, _, _, _, _, _, _, _]) rfl rfl ?_
                refine q_up (Inv := fun j L h => ∃ g z7, L = [some (.ref 51), some (.int (nI i)), some (.int (nI n)), some (.int (nI bt)), some (.int (nI k)), some (.int (nI x)), some (.int (sI 6 j)), z7] ∧ h = HX I (ua (ua A 64 e4) 63 g) J B F ∧ (∀ q, q ≤ n → k + 1 ≤ n - q → ∀ f, f < 24 → g (24 * (n - q) + f) = nI (dpR 100000 (fun k f => gnN b (mL A i) (nI f) (m + k)) (cN bt st) n q f)) ∧ (∀ f, f < x → g (24 * k + f) = nI (lMn 100000 (fun k f => gnN b (mL A i) (nI f) (m + k)) (cN bt st) (dpR 100000 (fun k f => gnN b (mL A i) (nI f) (m + k)) (cN bt st) n (n - (k + 1))) k f 13)) ∧ g (24 * k + x) = nI (lMn 100000 (fun k f => gnN b (mL A i) (nI f) (m + k)) (cN bt st) (dpR 100000 (fun k f => gnN b (mL A i) (nI f) (m + k)) (cN bt st) n (n - (k + 1))) k x j)) (13) (fun j L h hk_j hi_j ih_j => ?_) (fun L h hi_j => ?_) (0) _ _ (by omega) (⟨upd g (24 * k + x) (nI 100000), _, rfl, by rw [ua_ua, ua_eq], fun q hq hki f hf => by rw [pk_un (by omega)]; exact hg q hq hki f hf, fun f hf => by rw [pk_un (by omega)]; exact hg2 f hf, pk_us⟩)
                · obtain ⟨g, z7, rfl, rfl, hg, hg2, hg3⟩ := hi_j
                  refine q_iload rfl rfl ?_
                  refine q_bipush (v := nI 7) rfl rfl ?_
                  refine q_icmp_ge rfl (fun hcjs76 => ?_) (fun hcjs76 => ?_)
                  · exact absurd ((sI_lt (c := 6) (m := 7) (by omega) (by omega) (by omega)).mpr (by omega)) (Int32.not_lt.mpr hcjs76)
                  · refine q_aload_n rfl rfl ?_
                    refine q_iload_n rfl rfl ?_
                    refine q_iload rfl rfl ?_
                    refine q_iload rfl rfl ?_
                    refine q_iload rfl rfl ?_
                    refine q_iload_n rfl rfl ?_
                    refine q_callV5 rfl hx_51 (Nat.le_of_ble_eq_true rfl) (Nat.le_of_ble_eq_true rfl) (sX9_onBy b hb (by exact eb) m (by exact em) hm i hi (by exact hl) st (by exact hE) k x j bt ((dpR 100000 (fun k f => gnN b (mL A i) (nI f) (m + k)) (cN bt st) n (n - (k + 1)) (tN x j))) (by omega) hk_x (by omega) hb1 (by rw [ua_eq]; have h7 := hg (n - (k + 1)) (by omega) (by omega) (tN x j) (tN_lt x j); rw [show n - (n - (k + 1)) = k + 1 by omega] at h7; exact h7)) ?_
                    refine q_cn (show _ = nI (lBk 100000 (fun k f => gnN b (mL A i) (nI f) (m + k)) (cN bt st) (dpR 100000 (fun k f => gnN b (mL A i) (nI f) (m + k)) (cN bt st) n (n - (k + 1))) k x j) from rfl) ?_
                    refine q_istore (L' := [_, _, _, _, _, _, _, _]) rfl rfl ?_
                    refine q_aload_n rfl rfl ?_
                    refine q_getfield rfl hx_51 rfl ?_
                    refine q_bipush (v := nI 24) rfl rfl ?_
                    refine q_iload rfl rfl ?_
                    refine q_imulN rfl ?_
                    refine q_iload rfl rfl ?_
                    refine q_iaddN rfl ?_
                    refine q_iload rfl rfl ?_
                    refine q_aload_n rfl rfl ?_
                    refine q_getfield rfl hx_51 rfl ?_
                    refine q_bipush (v := nI 24) rfl rfl ?_
                    refine q_iload rfl rfl ?_
                    refine q_imulN rfl ?_
                    refine q_iload rfl rfl ?_
                    refine q_iaddN rfl ?_
                    refine q_iald rfl (by decide) hx_63 (by omega) (by decide) ((show ua (ua A 64 e4) 63 g 63 (24 * k + x) = _ from hg3)) ?_
                    refine q_icmp_geN rfl (by have := lBk_le (N := 100000) (g := (fun k f => gnN b (mL A i) (nI f) (m + k))) (c := cN bt st) (D := (dpR 100000 (fun k f => gnN b (mL A i) (nI f) (m + k)) (cN bt st) n (n - (k + 1)))) (k := k) (s := x) (j := j) (cN_le bt st x j (by omega)) (dpR_le _ _); show (lBk 100000 (fun k f => gnN b (mL A i) (nI f) (m + k)) (cN bt st) (dpR 100000 (fun k f => gnN b (mL A i) (nI f) (m + k)) (cN bt st) n (n - (k + 1))) k x j) < 2 ^ 31; omega) (by have := lMn_le (N := 100000) (g := (fun k f => gnN b (mL A i) (nI f) (m + k))) (c := cN bt st) (D := (dpR 100000 (fun k f => gnN b (mL A i) (nI f) (m + k)) (cN bt st) n (n - (k + 1)))) (k := k) (s := x) j; omega) (fun hcjs120 => ?_) (fun hcjs120 => ?_)
                    · refine q_aload_n rfl rfl ?_
                      refine q_getfield rfl hx_51 rfl ?_
                      refine q_bipush (v := nI 24) rfl rfl ?_
                      refine q_iload rfl rfl ?_
                      refine q_imulN rfl ?_
                      refine q_iload rfl rfl ?_
                      refine q_iaddN rfl ?_
                      refine q_iald rfl (by decide) hx_63 (by omega) (by decide) ((show ua (ua A 64 e4) 63 g 63 (24 * k + x) = _ from hg3)) ?_
                      refine q_iastN rfl hx_63 (by omega) (by decide) ?_
                      refine q_heap (ha_63 _) ?_
                      refine q_iinc (v := sI 6 (j + 1)) (L' := [_, _, _, _, _, _, _, _]) rfl rfl (sI_inc 6 j) rfl ?_
                      refine q_goto rfl ?_
                      exact ih_j _ _ (⟨_, _, rfl, by rw [ua_ua, ua_eq], fun q hq hki f hf => by rw [pk_un (by omega)]; exact hg q hq hki f hf, fun f hf => by rw [pk_un (by omega)]; exact hg2 f hf, by rw [pk_us]; show _ = nI (min _ _); first | rw [Nat.min_eq_right (Nat.le_of_lt (Nat.not_le.mp hcjs120))] | rw [Nat.min_eq_left hcjs120]⟩)
                    · refine q_iload rfl rfl ?_
                      refine q_goto rfl ?_
                      refine q_iastN rfl hx_63 (by omega) (by decide) ?_
                      refine q_heap (ha_63 _) ?_
                      refine q_iinc (v := sI 6 (j + 1)) (L' := [_, _, _, _, _, _, _, _]) rfl rfl (sI_inc 6 j) rfl ?_
                      refine q_goto rfl ?_
                      exact ih_j _ _ (⟨_, _, rfl, by rw [ua_ua, ua_eq], fun q hq hki f hf => by rw [pk_un (by omega)]; exact hg q hq hki f hf, fun f hf => by rw [pk_un (by omega)]; exact hg2 f hf, by rw [pk_us]; show _ = nI (min _ _); first | rw [Nat.min_eq_right (Nat.le_of_lt (Nat.not_le.mp hcjs120))] | rw [Nat.min_eq_left hcjs120]⟩)
                · obtain ⟨g, z7, rfl, rfl, hg, hg2, hg3⟩ := hi_j
                  refine q_iload rfl rfl ?_
                  refine q_bipush (v := nI 7) rfl rfl ?_
                  refine q_icmp_ge rfl (fun hcjf76 => ?_) (fun hcjf76 => ?_)
                  · refine q_iincN (c := 1) (L' := [_, _, _, _, _, _, _, _]) rfl rfl rfl rfl ?_
                    refine q_goto rfl ?_
                    exact ih_x _ _ (⟨g, _, _, rfl, rfl, hg, fun f hf => by by_cases e : f = x; subst e; exact hg3; exact hg2 f (by omega)⟩)
                  · exact absurd (show nI 7 ≤ sI 6 13 by decide) hcjf76
            · obtain ⟨g, z6, z7, rfl, rfl, hg, hg2⟩ := hi_x
              refine q_iload rfl rfl ?_
              refine q_bipush (v := nI 24) rfl rfl ?_
              refine q_icmp_geN rfl (by omega) (by omega) (fun hcxf50 => ?_) (fun hcxf50 => ?_)
              · refine q_iinc (v := dI k) (L' := [_, _, _, _, _, _, _, _]) rfl rfl (dI_m k) rfl ?_
                refine q_goto rfl ?_
                exact ih_k _ _ (⟨_, _, _, _, rfl, rfl, fun q hq hki f hf => by by_cases e : q = n - k; subst e; rw [show n - (n - k) = k by omega, dpR_row hk_k]; exact hg2 f hf; exact hg q hq (by omega) f hf⟩)
              · omega
        · obtain ⟨g, z5, z6, z7, rfl, rfl, hg⟩ := hi_k
          refine q_iload rfl rfl ?_
          refine q_if_lt rfl (fun hckf40 => ?_) (fun hckf40 => ?_)
          · refine q_vret rfl rfl ?_
            exact ⟨e4, g, rfl, rfl, hE, hg⟩
          · exact absurd (by decide) hckf40
      · omega)
  subst hr_
  subst hh_
  exact ⟨e4, g, he_, hf_⟩
