/-! what would come: View; the tables of Follower -/
section TU
variable {I A : Nat → Nat → Int32} {J B : Nat → Nat → Int64} {F : Nat → Nat}
theorem hx_T (hS : RelS F) : (HX I A J B F)[F 0]? = some (.inl (0, 984, .inl (A (F 0)))) := by
  rcases hS.1 with ⟨e0, e1⟩ | ⟨e0, e1⟩
  · rw [e0]
    exact hx_14
  · rw [e0]
    exact hx_15
theorem hx_U (hS : RelS F) : (HX I A J B F)[F 1]? = some (.inl (0, 984, .inl (A (F 1)))) := by
  rcases hS.1 with ⟨e0, e1⟩ | ⟨e0, e1⟩
  · rw [e1]
    exact hx_15
  · rw [e1]
    exact hx_14
theorem ha_T (hS : RelS F) (f : Nat → Int32) : (HX I A J B F).set (F 0) (.inl (0, 984, .inl f)) = HX I (ua A (F 0) f) J B F := by
  rcases hS.1 with ⟨e0, e1⟩ | ⟨e0, e1⟩
  · rw [e0]
    exact ha_14 f
  · rw [e0]
    exact ha_15 f
theorem ha_U (hS : RelS F) (f : Nat → Int32) : (HX I A J B F).set (F 1) (.inl (0, 984, .inl f)) = HX I (ua A (F 1) f) J B F := by
  rcases hS.1 with ⟨e0, e1⟩ | ⟨e0, e1⟩
  · rw [e1]
    exact ha_15 f
  · rw [e1]
    exact ha_14 f
theorem hs_13_2 (v : Nat) : (HX I A J B F).set 13 (.inr (0, [.ref 7, .ref 11, .ref v, .ref (F 1)])) = HX I A J B (uf F 0 v) := rfl
theorem hs_13_3 (v : Nat) : (HX I A J B F).set 13 (.inr (0, [.ref 7, .ref 11, .ref (F 0), .ref v])) = HX I A J B (uf F 1 v) := rfl
theorem F_lt (hS : RelS F) : F 0 < 1000 ∧ F 1 < 1000 ∧ F 0 ≠ 12 ∧ F 1 ≠ 12 ∧ F 0 ≠ F 1 ∧ F 0 < 16 ∧ F 1 < 16 ∧ 14 ≤ F 0 ∧ 14 ≤ F 1 := by
  rcases hS.1 with ⟨e0, e1⟩ | ⟨e0, e1⟩ <;> rw [e0, e1] <;> decide
/-- the view holds what would come of a light in n moments -/
def GV (b : Nat) (l : LT) (m n : Nat) (A : Nat → Nat → Int32) : Prop := ∀ k, k < n → ∀ f, f < 24 → A 12 (k * 24 + f) = nI (gnN b l (nI f) (m + k))
theorem GV_ua {b : Nat} {l : LT} {m n c : Nat} {g : Nat → Int32} (hc : c ≠ 12) (h : GV b l m n A) : GV b l m n (ua A c g) := by
  intro k hk f hf
  rw [ua_ne (fun z => hc z.symm)]
  exact h k hk f hf
end TU
theorem rdN_s {s : Nat} (h : s < 24) : nI (rdN (nI s)) = nI s := by rw [rdN_nI h]
theorem sX7_gain {X : XX} {I A : Nat → Nat → Int32} {J B : Nat → Nat → Int64} {F : Nat → Nat} (k f v : Nat) (hk : k < 8) (hf : f < 24) (hv : A 12 (k * 24 + f) = nI v) : x_ev X xT 3 78 [.ref 11, .int (nI k), .int (nI f)] (HX I A J B F) (some (.int (nI v))) (HX I A J B F) := by
  refine q_ev (L := [some (.ref 11), some (.int (nI k)), some (.int (nI f))]) tX7_gain (Nat.le_of_ble_eq_true rfl) rfl ?_
  refine q_iload_n rfl rfl ?_
  refine q_if_ltN rfl (by omega) (fun hc1 => ?_) (fun hc1 => ?_)
  · omega
  · refine q_iload_n rfl rfl ?_
    refine q_bipush (v := nI 8) rfl rfl ?_
    refine q_icmp_geN rfl (by omega) (by omega) (fun hc7 => ?_) (fun hc7 => ?_)
    · omega
    · refine q_aload_n rfl rfl ?_
      refine q_getfield rfl hx_11 rfl ?_
      refine q_iload_n rfl rfl ?_
      refine q_bipush (v := nI 24) rfl rfl ?_
      refine q_imulN rfl ?_
      refine q_iload_n rfl rfl ?_
      refine q_callS1 rfl rfl (Nat.le_of_ble_eq_true rfl) (Nat.le_of_ble_eq_true rfl) (sK_round _) ?_
      refine q_cn (rdN_s hf) ?_
      refine q_iaddN rfl ?_
      refine q_iald rfl (by decide) hx_12 (by omega) (by decide) (hv) ?_
      refine q_goto rfl ?_
      refine q_iret rfl rfl ?_
      exact ⟨rfl, rfl⟩
theorem sX7_fill {X : XX} {I A : Nat → Nat → Int32} {J B : Nat → Nat → Int64} {F : Nat → Nat} (b : Nat) (hb : b ≤ 5) (eb : I 7 0 = nI b) (q : Nat) (hq : q < 5) (lk : lkOK I (40 + q)) (m n : Nat) (hm : m ≤ 1000) (hn : n ≤ 8) : ∃ g, x_ev X xT 4 77 [.ref 11, .ref (40 + q), .ref 7, .int (nI m), .int (nI n)] (HX I A J B F) none (HX I (ua A 12 g) J B F) ∧ GV b (cL I (40 + q)) m n (ua A 12 g) := by
  obtain ⟨r_, h_, he_, g, hr_, hh_, hf_⟩ := q_evx (X := X) (d := 3) (as := [.ref 11, .ref (40 + q), .ref 7, .int (nI m), .int (nI n)]) (h := (HX I A J B F)) (P := fun r_ h_ => ∃ g, r_ = none ∧ h_ = (HX I (ua A 12 g) J B F) ∧ GV b (cL I (40 + q)) m n (ua A 12 g)) (L := [some (.ref 11), some (.ref (40 + q)), some (.ref 7), some (.int (nI m)), some (.int (nI n)), none, none, none, none]) tX7_fill (Nat.le_of_ble_eq_true rfl) rfl (by
    refine q_iconst (v := nI 0) rfl rfl ?_
    refine q_istore (L' := [_, _, _, _, _, _, _, _, _]) rfl rfl ?_
    refine q_up (Inv := fun k L h => ∃ g z6 z7 z8, L = [some (.ref 11), some (.ref (40 + q)), some (.ref 7), some (.int (nI m)), some (.int (nI n)), some (.int (nI k)), z6, z7, z8] ∧ h = HX I (ua A 12 g) J B F ∧ (∀ i, i < k → ∀ f, f < 24 → g (i * 24 + f) = nI (gnN b (cL I (40 + q)) (nI f) (m + i)))) (n) (fun k L h hk_k hi_k ih_k => ?_) (fun L h hi_k => ?_) (0) _ _ (by omega) (⟨A 12, _, _, _, rfl, by rw [ua_self rfl], fun i hi => absurd hi (Nat.not_lt_zero i)⟩)
    · obtain ⟨g, z6, z7, z8, rfl, rfl, hg⟩ := hi_k
      refine q_iload rfl rfl ?_
      refine q_iload rfl rfl ?_
      refine q_icmp_geN rfl (by omega) (by omega) (fun hcks7 => ?_) (fun hcks7 => ?_)
      · omega
      · refine q_iload rfl rfl ?_
        refine q_bipush (v := nI 8) rfl rfl ?_
        refine q_icmp_geN rfl (by omega) (by omega) (fun hcks14 => ?_) (fun hcks14 => ?_)
        · omega
        · refine q_aload_n rfl rfl ?_
          refine q_iload_n rfl rfl ?_
          refine q_iload rfl rfl ?_
          refine q_iaddN rfl ?_
          refine q_callV1 rfl (hx_light q hq) (Nat.le_of_ble_eq_true rfl) (Nat.le_of_ble_eq_true rfl) (sK_place (hx_light q hq) lk _) ?_
          refine q_istore (L' := [_, _, _, _, _, _, _, _, _]) rfl rfl ?_
          refine q_aload_n rfl rfl ?_
          refine q_iload_n rfl rfl ?_
          refine q_iload rfl rfl ?_
          refine q_iaddN rfl ?_
          refine q_callV1 rfl (hx_light q hq) (Nat.le_of_ble_eq_true rfl) (Nat.le_of_ble_eq_true rfl) (sK_bright (hx_light q hq) lk _ (by omega)) ?_
          refine q_istore (L' := [_, _, _, _, _, _, _, _, _]) rfl rfl ?_
          refine q_iconst (v := nI 0) rfl rfl ?_
          refine q_istore (L' := [_, _, _, _, _, _, _, _, _]) rfl rfl ?_
          refine q_up (Inv := fun x L h => ∃ g, L = [some (.ref 11), some (.ref (40 + q)), some (.ref 7), some (.int (nI m)), some (.int (nI n)), some (.int (nI k)), some (.int (nI (plN (cL I (40 + q)) (m + k)))), some (.int (nI (brN (cL I (40 + q)) (m + k)))), some (.int (nI x))] ∧ h = HX I (ua A 12 g) J B F ∧ (∀ i, i < k → ∀ f, f < 24 → g (i * 24 + f) = nI (gnN b (cL I (40 + q)) (nI f) (m + i))) ∧ ∀ f, f < x → g (k * 24 + f) = nI (gnN b (cL I (40 + q)) (nI f) (m + k))) (24) (fun x L h hk_x hi_x ih_x => ?_) (fun L h hi_x => ?_) (0) _ _ (by omega) (⟨g, rfl, rfl, hg, fun f hf => absurd hf (Nat.not_lt_zero f)⟩)
          · obtain ⟨g, rfl, rfl, hg, hg2⟩ := hi_x
            refine q_iload rfl rfl ?_
            refine q_bipush (v := nI 24) rfl rfl ?_
            refine q_icmp_geN rfl (by omega) (by omega) (fun hcxs44 => ?_) (fun hcxs44 => ?_)
            · omega
            · refine q_aload_n rfl rfl ?_
              refine q_getfield rfl hx_11 rfl ?_
              refine q_iload rfl rfl ?_
              refine q_bipush (v := nI 24) rfl rfl ?_
              refine q_imulN rfl ?_
              refine q_iload rfl rfl ?_
              refine q_iaddN rfl ?_
              refine q_aload_n rfl rfl ?_
              refine q_iload rfl rfl ?_
              refine q_iload rfl rfl ?_
              refine q_callV2 rfl hx_7 (Nat.le_of_ble_eq_true rfl) (Nat.le_of_ble_eq_true rfl) (sK_times (hx_7b eb) hb _ _) ?_
              refine q_iload rfl rfl ?_
              refine q_imulN rfl ?_
              refine q_iastN rfl hx_12 (by omega) (by decide) ?_
              refine q_heap (ha_12 _) ?_
              refine q_iincN (c := 1) (L' := [_, _, _, _, _, _, _, _, _]) rfl rfl rfl rfl ?_
              refine q_goto rfl ?_
              exact ih_x _ _ (⟨_, rfl, by rw [ua_ua, ua_eq], fun i hi f hf => by rw [pk_un (by omega)]; exact hg i hi f hf, fun f hf => by by_cases e : f = x; subst e; exact pk_us; rw [pk_un (by omega)]; exact hg2 f (by omega)⟩)
          · obtain ⟨g, rfl, rfl, hg, hg2⟩ := hi_x
            refine q_iload rfl rfl ?_
            refine q_bipush (v := nI 24) rfl rfl ?_
            refine q_icmp_geN rfl (by omega) (by omega) (fun hcxf44 => ?_) (fun hcxf44 => ?_)
            · refine q_iincN (c := 1) (L' := [_, _, _, _, _, _, _, _, _]) rfl rfl rfl rfl ?_
              refine q_goto rfl ?_
              exact ih_k _ _ (⟨_, _, _, _, rfl, rfl, fun i hi f hf => by by_cases e : i = k; subst e; exact hg2 f hf; exact hg i (by omega) f hf⟩)
            · omega
    · obtain ⟨g, z6, z7, z8, rfl, rfl, hg⟩ := hi_k
      refine q_iload rfl rfl ?_
      refine q_iload rfl rfl ?_
      refine q_icmp_geN rfl (by omega) (by omega) (fun hckf7 => ?_) (fun hckf7 => ?_)
      · refine q_vret rfl rfl ?_
        exact ⟨g, rfl, rfl, fun i hi f hf => by rw [ua_eq]; exact hg i hi f hf⟩
      · omega)
  subst hr_
  subst hh_
  exact ⟨g, he_, hf_⟩
