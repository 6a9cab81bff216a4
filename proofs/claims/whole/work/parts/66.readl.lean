/-! the class's reader: a light, a text -/
def pz_q1 (tx : Nat → Int32) (n p b : Nat) : Nat := pz_p p b (pz_F tx n 0 2 p)
def pz_r1 (tx : Nat → Int32) (n p b : Nat) : Nat := pz_b b (pz_F tx n 0 2 p)
def pz_q2 (tx : Nat → Int32) (n p b : Nat) : Nat := pz_p (pz_q1 tx n p b) (pz_r1 tx n p b) (pz_F tx n 0 (pz_H tx n p) (pz_q1 tx n p b))
def pz_r2 (tx : Nat → Int32) (n p b : Nat) : Nat := pz_b (pz_r1 tx n p b) (pz_F tx n 0 (pz_H tx n p) (pz_q1 tx n p b))
def pz_w (tx : Nat → Int32) (n p b : Nat) : Int32 := nI 10 * pz_v tx n p + pz_v tx n (pz_q1 tx n p b)
theorem pz_fy {tx : Nat → Int32} {n p : Nat} (h1 : pz_F tx n 0 2 p = 1) (h2 : pz_F tx n 0 (pz_h tx p) (p + 1) = 1) : pz_q2 tx n p 0 = p + 2 ∧ pz_r2 tx n p 0 = 0 ∧ pz_w tx n p 0 = nI (10 * pz_d tx p + pz_d tx (p + 1)) := by
  have e1 := pz_1 (p := p) rfl h1
  have eq1 : pz_q1 tx n p 0 = p + 1 := e1.2
  have er1 : pz_r1 tx n p 0 = 0 := e1.1
  have eH := pz_Hh (by decide) (by decide) h1
  have e2 := pz_1 (p := p + 1) (b := 0) rfl h2
  have hh : pz_h tx p ≤ 9 := by
    unfold pz_h
    split <;> decide
  refine ⟨?_, ?_, ?_⟩
  · unfold pz_q2
    rw [eq1, er1, eH, e2.2]
  · unfold pz_r2
    rw [eq1, er1, eH, e2.1]
  · unfold pz_w
    rw [eq1, (pz_dig (by decide) (by decide) h1).2.2.2.2, (pz_dig (by decide) hh h2).2.2.2.2, pk_mul, nI_add]
theorem pz_f1 {tx : Nat → Int32} {n p b : Nat} (h : b = 1 ∨ ¬ pz_F tx n 0 2 p = 1) : pz_q2 tx n p b = p ∧ pz_r2 tx n p b = 1 := by
  have e1 : pz_r1 tx n p b = 1 ∧ pz_q1 tx n p b = p := by
    rcases h with h | h
    · exact pz_2 (p := p) (f := pz_F tx n 0 2 p) (by omega)
    · exact pz_3 h
  have e2 := pz_2 (p := p) (f := pz_F tx n 0 (pz_H tx n p) p) (b := 1) (by decide)
  unfold pz_q2 pz_r2
  rw [e1.1, e1.2]
  exact ⟨e2.2, e2.1⟩
theorem pz_f2 {tx : Nat → Int32} {n p : Nat} (h1 : pz_F tx n 0 2 p = 1) (h2 : ¬ pz_F tx n 0 (pz_h tx p) (p + 1) = 1) : pz_q2 tx n p 0 = p + 1 ∧ pz_r2 tx n p 0 = 1 := by
  have e1 := pz_1 (p := p) rfl h1
  have eq1 : pz_q1 tx n p 0 = p + 1 := e1.2
  have er1 : pz_r1 tx n p 0 = 0 := e1.1
  have eH := pz_Hh (by decide) (by decide) h1
  have e2 := pz_3 (p := p + 1) (b := 0) h2
  unfold pz_q2 pz_r2
  rw [eq1, er1, eH]
  exact ⟨e2.2, e2.1⟩
/-- a light: places and flags -/
def pz_a (tx : Nat → Int32) (n p : Nat) : Nat × Nat := (pz_p p 0 (pz_K tx n p), pz_b 0 (pz_K tx n p))
def pz_ab (tx : Nat → Int32) (n p : Nat) : Nat × Nat := (pz_q2 tx n (pz_a tx n p).1 (pz_a tx n p).2, pz_r2 tx n (pz_a tx n p).1 (pz_a tx n p).2)
def pz_ac (tx : Nat → Int32) (n p : Nat) : Nat × Nat := (pz_p (pz_ab tx n p).1 (pz_ab tx n p).2 (pz_F tx n 0 5 (pz_ab tx n p).1), pz_b (pz_ab tx n p).2 (pz_F tx n 0 5 (pz_ab tx n p).1))
def pz_ad (tx : Nat → Int32) (n p : Nat) : Nat × Nat := (pz_p (pz_ac tx n p).1 (pz_ac tx n p).2 (pz_F tx n 1 9 (pz_ac tx n p).1), pz_b (pz_ac tx n p).2 (pz_F tx n 1 9 (pz_ac tx n p).1))
theorem pz_st {p b lo hi : Nat} {tx : Nat → Int32} {n : Nat} (h : b = 1) : pz_p p b (pz_F tx n lo hi p) = p ∧ pz_b b (pz_F tx n lo hi p) = 1 := by
  have e := pz_2 (p := p) (b := b) (f := pz_F tx n lo hi p) (by omega)
  exact ⟨e.2, e.1⟩
theorem pz_ad_b {tx : Nat → Int32} {n p q : Nat} (h : pz_ab tx n p = (q, 1)) : pz_ad tx n p = (q, 1) := by
  have e1 : pz_ac tx n p = (q, 1) := by
    unfold pz_ac
    rw [h]
    have e := pz_st (p := q) (b := 1) (lo := 0) (hi := 5) (tx := tx) (n := n) rfl
    exact Prod.ext e.1 e.2
  unfold pz_ad
  rw [e1]
  have e := pz_st (p := q) (b := 1) (lo := 1) (hi := 9) (tx := tx) (n := n) rfl
  exact Prod.ext e.1 e.2
theorem pz_rl (tx : Nat → Int32) (n p : Nat) : (pz_lf tx n p = 5 ∧ pz_ad tx n p = (p + 5, 0) ∧ pz_K tx n p = 1 ∧ pz_w tx n (pz_a tx n p).1 (pz_a tx n p).2 = nI (10 * pz_d tx (p + 1) + pz_d tx (p + 2)) ∧ pz_v tx n (pz_ab tx n p).1 = nI (pz_d tx (p + 3)) ∧ pz_v tx n (pz_ac tx n p).1 = nI (pz_d tx (p + 4))) ∨ (pz_lf tx n p < 5 ∧ pz_ad tx n p = (p + pz_lf tx n p, 1)) := by
  unfold pz_lf
  by_cases hK : pz_K tx n p = 1
  · rw [if_pos hK]
    have ea : pz_a tx n p = (p + 1, 0) := by
      have e := pz_1 (p := p) (b := 0) rfl hK
      exact Prod.ext e.2 e.1
    by_cases h1 : pz_F tx n 0 2 (p + 1) = 1
    · rw [if_pos h1]
      by_cases h2 : pz_F tx n 0 (pz_h tx (p + 1)) (p + 2) = 1
      · rw [if_pos h2]
        have e2 := pz_fy h1 h2
        have eb : pz_ab tx n p = (p + 3, 0) := by
          unfold pz_ab
          rw [ea]
          exact Prod.ext e2.1 e2.2.1
        by_cases h3 : pz_F tx n 0 5 (p + 3) = 1
        · rw [if_pos h3]
          have ec : pz_ac tx n p = (p + 4, 0) := by
            unfold pz_ac
            rw [eb]
            have e := pz_1 (p := p + 3) (b := 0) rfl h3
            exact Prod.ext e.2 e.1
          by_cases h4 : pz_F tx n 1 9 (p + 4) = 1
          · rw [if_pos h4]
            refine Or.inl ⟨rfl, ?_, hK, ?_, ?_, ?_⟩
            · unfold pz_ad
              rw [ec]
              have e := pz_1 (p := p + 4) (b := 0) rfl h4
              exact Prod.ext e.2 e.1
            · rw [ea]
              exact e2.2.2
            · rw [eb]
              exact (pz_dig (by decide) (by decide) h3).2.2.2.2
            · rw [ec]
              exact (pz_dig (by decide) (by decide) h4).2.2.2.2
          · rw [if_neg h4]
            refine Or.inr ⟨by decide, ?_⟩
            unfold pz_ad
            rw [ec]
            have e := pz_3 (p := p + 4) (b := 0) h4
            exact Prod.ext e.2 e.1
        · rw [if_neg h3]
          refine Or.inr ⟨by decide, ?_⟩
          have ec : pz_ac tx n p = (p + 3, 1) := by
            unfold pz_ac
            rw [eb]
            have e := pz_3 (p := p + 3) (b := 0) h3
            exact Prod.ext e.2 e.1
          unfold pz_ad
          rw [ec]
          have e := pz_st (p := p + 3) (b := 1) (lo := 1) (hi := 9) (tx := tx) (n := n) rfl
          exact Prod.ext e.1 e.2
      · rw [if_neg h2]
        refine Or.inr ⟨by decide, pz_ad_b ?_⟩
        have e2 := pz_f2 h1 h2
        unfold pz_ab
        rw [ea]
        exact Prod.ext e2.1 e2.2
    · rw [if_neg h1]
      refine Or.inr ⟨by decide, pz_ad_b ?_⟩
      have e2 := pz_f1 (b := 0) (Or.inr h1)
      unfold pz_ab
      rw [ea]
      exact Prod.ext e2.1 e2.2
  · rw [if_neg hK]
    refine Or.inr ⟨by decide, pz_ad_b ?_⟩
    have ea : pz_a tx n p = (p, 1) := by
      have e := pz_3 (p := p) (b := 0) hK
      exact Prod.ext e.2 e.1
    have e2 := pz_f1 (tx := tx) (n := n) (p := p) (b := 1) (Or.inl rfl)
    unfold pz_ab
    rw [ea]
    exact Prod.ext e2.1 e2.2
theorem pz_pK {tx : Nat → Int32} {n p b : Nat} (hp : p ≤ n) : pz_p p b (pz_K tx n p) ≤ n := by
  refine pz_p_le ?_ hp
  by_cases h : p < n
  · exact Or.inl h
  · refine Or.inr (fun z => ?_)
    unfold pz_K at z
    rw [if_neg (fun w => h w.1)] at z
    exact absurd z (by decide)
theorem pz_pO {tx : Nat → Int32} {n p b : Nat} (hp : p ≤ n) : pz_p p b (pz_O tx n p) ≤ n := by
  refine pz_p_le ?_ hp
  by_cases h : p < n
  · exact Or.inl h
  · refine Or.inr (fun z => ?_)
    unfold pz_O at z
    rw [if_neg (fun w => h w.1)] at z
    exact absurd z (by decide)
theorem pz_q2_le {tx : Nat → Int32} {n p b : Nat} (hp : p ≤ n) : pz_q2 tx n p b ≤ n := pz_pF (pz_pF hp)
theorem pz_r2_le (tx : Nat → Int32) (n p b : Nat) : pz_r2 tx n p b ≤ 1 := pz_b_le _ _
theorem pz_s_le {tx : Nat → Int32} {n p : Nat} (hp : p ≤ n) : pz_s tx n p ≤ n := by
  have := lrun_le (p := fun q => decide (tx q = 32)) (n - p) p
  unfold pz_s
  omega
theorem kindL {X : XX} {I A : Nat → Nat → Int32} {J B : Nat → Nat → Int64} {F : Nat → Nat} (t n : Nat) (ht : t < 4) (hn : n ≤ 60) (hz : I (20 + 2 * (6 + t)) 1 = nI n) (tx : Nat → Int32) (htx : ∀ k, k < 60 → A (21 + 2 * (6 + t)) k = tx k) (hby : ∀ k, k < 60 → byOK (tx k)) (p b : Nat) (hb : b ≤ 1) (hp : p ≤ n) : x_ev X xT 3 59 [.ref 3, .ref (20 + 2 * (6 + t))] (HX (pz_R I p b) A J B F) (some (.int (if pz_K tx n p = 1 then nI (pz_k (tx p)) else -1))) (HX (pz_R I (pz_p p b (pz_K tx n p)) (pz_b b (pz_K tx n p))) A J B F) := by
  rcases Nat.lt_or_ge p n with h | h
  · exact kindL_1 t n ht hn hz tx htx hby p b hb hp h
  · exact kindL_0 t n ht hn hz tx htx hby p b hb hp h
theorem skipB {X : XX} {I A : Nat → Nat → Int32} {J B : Nat → Nat → Int64} {F : Nat → Nat} (t n : Nat) (ht : t < 4) (hn : n ≤ 60) (hz : I (20 + 2 * (6 + t)) 1 = nI n) (tx : Nat → Int32) (htx : ∀ k, k < 60 → A (21 + 2 * (6 + t)) k = tx k) (hby : ∀ k, k < 60 → byOK (tx k)) (p b : Nat) (hb : b ≤ 1) (hp : p ≤ n) : x_ev X xT 3 57 [.ref 3, .ref (20 + 2 * (6 + t))] (HX (pz_R I p b) A J B F) none (HX (pz_R I (if b = 0 then pz_s tx n p else p) b) A J B F) := by
  rcases (show b = 0 ∨ b = 1 by omega) with rfl | rfl
  · exact skip_0 t n ht hn hz tx htx hby p hp
  · exact skip_1 t n ht hn hz tx htx hby p 1 rfl hp
set_option maxHeartbeats 1000000 in
theorem sX4_readLight {X : XX} {I A : Nat → Nat → Int32} {J B : Nat → Nat → Int64} {F : Nat → Nat} (t n : Nat) (ht : t < 4) (hn : n ≤ 60) (hz : I (20 + 2 * (6 + t)) 1 = nI n) (tx : Nat → Int32) (htx : ∀ k, k < 60 → A (21 + 2 * (6 + t)) k = tx k) (hby : ∀ k, k < 60 → byOK (tx k)) (p k : Nat) (hp : p ≤ n) (hk : k < 5) : x_ev X xT 5 56 [.ref 3, .ref (20 + 2 * (6 + t)), .int (nI k)] (HX (pz_R I p 0) A J B F) none (HX (pz_R (u2 I 3 3 (nI (k + 1))) (pz_ad tx n p).1 (pz_ad tx n p).2) (ua A 4 (upd (upd (upd (upd (A 4) (4 * k) (if pz_K tx n p = 1 then nI (pz_k (tx p)) else -1)) (4 * k + 1) (pz_w tx n (pz_a tx n p).1 (pz_a tx n p).2)) (4 * k + 2) (pz_v tx n (pz_ab tx n p).1 + -2)) (4 * k + 3) (pz_v tx n (pz_ac tx n p).1))) J B F) := by
  refine q_ev (L := [some (.ref 3), some (.ref (20 + 2 * (6 + t))), some (.int (nI k)), none]) tX4_readLight (Nat.le_of_ble_eq_true rfl) rfl ?_
  refine q_iload_n rfl rfl ?_
  refine q_iconst (v := nI 4) rfl rfl ?_
  refine q_imulN rfl ?_
  refine q_cn (congrArg nI (Nat.mul_comm k 4)) ?_
  refine q_istore_n (L' := [_, _, _, _]) rfl rfl ?_
  refine q_aload_n rfl rfl ?_
  refine q_getfield rfl hx_3 rfl ?_
  refine q_iload_n rfl rfl ?_
  refine q_aload_n rfl rfl ?_
  refine q_aload_n rfl rfl ?_
  refine q_callV1 rfl hx_3 (Nat.le_of_ble_eq_true rfl) (Nat.le_of_ble_eq_true rfl) (kindL t n ht hn hz tx htx hby p 0 (by decide) hp) ?_
  refine q_iastN rfl hx_4 (by omega) (by decide) ?_
  refine q_heap (ha_4 _) ?_
  refine q_aload_n rfl rfl ?_
  refine q_getfield rfl hx_3 rfl ?_
  refine q_iload_n rfl rfl ?_
  refine q_iconst (v := nI 1) rfl rfl ?_
  refine q_iaddN rfl ?_
  refine q_aload_n rfl rfl ?_
  refine q_aload_n rfl rfl ?_
  refine q_callV1 rfl hx_3 (Nat.le_of_ble_eq_true rfl) (Nat.le_of_ble_eq_true rfl) (sX4_placeFigures t n ht hn hz tx (fun x hx => by (repeat rw [ua_ne (by omega)]); exact htx x hx) hby  (pz_a tx n p).1 (pz_a tx n p).2 (pz_b_le _ _) (pz_pK hp)) ?_
  refine q_iastN rfl hx_4 (by omega) (by decide) ?_
  refine q_heap (ha_4 _) ?_
  refine q_aload_n rfl rfl ?_
  refine q_getfield rfl hx_3 rfl ?_
  refine q_iload_n rfl rfl ?_
  refine q_iconst (v := nI 2) rfl rfl ?_
  refine q_iaddN rfl ?_
  refine q_aload_n rfl rfl ?_
  refine q_aload_n rfl rfl ?_
  refine q_iconst (v := nI 0) rfl rfl ?_
  refine q_iconst (v := nI 5) rfl rfl ?_
  refine q_callV3 rfl hx_3 (Nat.le_of_ble_eq_true rfl) (Nat.le_of_ble_eq_true rfl) (sX4_figure t n ht hn hz tx (fun x hx => by (repeat rw [ua_ne (by omega)]); exact htx x hx) hby  0 5 (by decide) (by decide) (pz_ab tx n p).1 (pz_ab tx n p).2 (pz_r2_le tx n _ _) (pz_q2_le (pz_pK hp))) ?_
  refine q_bipush (v := (-2)) rfl rfl ?_
  refine q_iadd rfl ?_
  refine q_iastN rfl hx_4 (by omega) (by decide) ?_
  refine q_heap (ha_4 _) ?_
  refine q_aload_n rfl rfl ?_
  refine q_getfield rfl hx_3 rfl ?_
  refine q_iload_n rfl rfl ?_
  refine q_iconst (v := nI 3) rfl rfl ?_
  refine q_iaddN rfl ?_
  refine q_aload_n rfl rfl ?_
  refine q_aload_n rfl rfl ?_
  refine q_iconst (v := nI 1) rfl rfl ?_
  refine q_bipush (v := nI 9) rfl rfl ?_
  refine q_callV3 rfl hx_3 (Nat.le_of_ble_eq_true rfl) (Nat.le_of_ble_eq_true rfl) (sX4_figure t n ht hn hz tx (fun x hx => by (repeat rw [ua_ne (by omega)]); exact htx x hx) hby  1 9 (by decide) (by decide) (pz_ac tx n p).1 (pz_ac tx n p).2 (pz_b_le _ _) (pz_pF (pz_q2_le (pz_pK hp)))) ?_
  refine q_iastN rfl hx_4 (by omega) (by decide) ?_
  refine q_heap (ha_4 _) ?_
  refine q_aload_n rfl rfl ?_
  refine q_iload_n rfl rfl ?_
  refine q_iconst (v := nI 1) rfl rfl ?_
  refine q_iaddN rfl ?_
  refine q_putfield rfl hx_3 rfl (Nat.le_of_ble_eq_true rfl) (rfl) (by decide +kernel) ?_
  refine q_heap (hs_3_3 _) ?_
  refine q_vret rfl rfl ?_
  exact ⟨rfl, by rw [pz_RU (Or.inr ⟨by decide, by decide⟩)]; simp only [ua_ua, ua_eq]; rfl⟩
