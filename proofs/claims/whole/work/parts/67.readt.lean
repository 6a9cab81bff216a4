/-! the class's reader: a whole text -/
def pz_r (tx : Nat → Int32) (n : Nat) (g : Nat → Int32) : Nat ⊕ (Nat × (Nat → Int32)) := if pz_hf tx n (pz_s tx n 0) = 4 then pz_l tx n 5 0 (pz_s tx n (pz_s tx n 0 + 4)) g else .inl (pz_s tx n 0 + pz_hf tx n (pz_s tx n 0))
def pz_ha (tx : Nat → Int32) (n p : Nat) : Nat × Nat := (pz_p p 0 (pz_O tx n p), pz_b 0 (pz_O tx n p))
def pz_hb (tx : Nat → Int32) (n p : Nat) : Nat × Nat := (pz_p (pz_ha tx n p).1 (pz_ha tx n p).2 (pz_F tx n 1 5 (pz_ha tx n p).1), pz_b (pz_ha tx n p).2 (pz_F tx n 1 5 (pz_ha tx n p).1))
def pz_hc (tx : Nat → Int32) (n p : Nat) : Nat × Nat := (pz_q2 tx n (pz_hb tx n p).1 (pz_hb tx n p).2, pz_r2 tx n (pz_hb tx n p).1 (pz_hb tx n p).2)
theorem pz_24 {tx : Nat → Int32} {n p q : Nat} (h1 : pz_F tx n 0 2 p = 1) (h2 : pz_F tx n 0 (pz_h tx p) q = 1) : 10 * pz_d tx p + pz_d tx q < 24 := by
  have a := (pz_dig (by decide) (by decide) h1).2.2.1
  have hh : pz_h tx p ≤ 9 := by
    unfold pz_h
    split <;> decide
  have c := (pz_dig (by decide) hh h2).2.2.1
  unfold pz_h at c
  split at c <;> omega
theorem pz_hl (tx : Nat → Int32) (n p : Nat) : (pz_hf tx n p = 4 ∧ pz_hc tx n p = (p + 4, 0) ∧ pz_v tx n (pz_ha tx n p).1 = nI (pz_d tx (p + 1)) ∧ pz_w tx n (pz_hb tx n p).1 (pz_hb tx n p).2 = nI (10 * pz_d tx (p + 2) + pz_d tx (p + 3)) ∧ 1 ≤ pz_d tx (p + 1) ∧ pz_d tx (p + 1) ≤ 5 ∧ 10 * pz_d tx (p + 2) + pz_d tx (p + 3) < 24) ∨ (pz_hf tx n p < 4 ∧ pz_hc tx n p = (p + pz_hf tx n p, 1)) := by
  unfold pz_hf
  by_cases hK : pz_O tx n p = 1
  · rw [if_pos hK]
    have ea : pz_ha tx n p = (p + 1, 0) := by
      have e := pz_1 (p := p) (b := 0) rfl hK
      exact Prod.ext e.2 e.1
    by_cases h0 : pz_F tx n 1 5 (p + 1) = 1
    · rw [if_pos h0]
      have eb : pz_hb tx n p = (p + 2, 0) := by
        unfold pz_hb
        rw [ea]
        have e := pz_1 (p := p + 1) (b := 0) rfl h0
        exact Prod.ext e.2 e.1
      by_cases h1 : pz_F tx n 0 2 (p + 2) = 1
      · rw [if_pos h1]
        by_cases h2 : pz_F tx n 0 (pz_h tx (p + 2)) (p + 3) = 1
        · rw [if_pos h2]
          have e2 := pz_fy h1 h2
          have ed := pz_dig (by decide) (by decide) h0
          refine Or.inl ⟨rfl, ?_, ?_, ?_, ed.2.1, ed.2.2.1, pz_24 h1 h2⟩
          · unfold pz_hc
            rw [eb]
            exact Prod.ext e2.1 e2.2.1
          · rw [ea]
            exact ed.2.2.2.2
          · rw [eb]
            exact e2.2.2
        · rw [if_neg h2]
          refine Or.inr ⟨by decide, ?_⟩
          have e2 := pz_f2 h1 h2
          unfold pz_hc
          rw [eb]
          exact Prod.ext e2.1 e2.2
      · rw [if_neg h1]
        refine Or.inr ⟨by decide, ?_⟩
        have e2 := pz_f1 (b := 0) (Or.inr h1)
        unfold pz_hc
        rw [eb]
        exact Prod.ext e2.1 e2.2
    · rw [if_neg h0]
      refine Or.inr ⟨by decide, ?_⟩
      have eb : pz_hb tx n p = (p + 1, 1) := by
        unfold pz_hb
        rw [ea]
        have e := pz_3 (p := p + 1) (b := 0) h0
        exact Prod.ext e.2 e.1
      have e2 := pz_f1 (tx := tx) (n := n) (p := p + 1) (b := 1) (Or.inl rfl)
      unfold pz_hc
      rw [eb]
      exact Prod.ext e2.1 e2.2
  · rw [if_neg hK]
    refine Or.inr ⟨by decide, ?_⟩
    have ea : pz_ha tx n p = (p, 1) := by
      have e := pz_3 (p := p) (b := 0) hK
      exact Prod.ext e.2 e.1
    have eb : pz_hb tx n p = (p, 1) := by
      unfold pz_hb
      rw [ea]
      have e := pz_st (p := p) (b := 1) (lo := 1) (hi := 5) (tx := tx) (n := n) rfl
      exact Prod.ext e.1 e.2
    have e2 := pz_f1 (tx := tx) (n := n) (p := p) (b := 1) (Or.inl rfl)
    unfold pz_hc
    rw [eb]
    exact Prod.ext e2.1 e2.2
def pz_S (tx : Nat → Int32) (n : Nat) (R : Nat ⊕ (Nat × (Nat → Int32))) (k p b kk : Nat) (g : Nat → Int32) : Prop := (b = 1 ∧ R = .inl p) ∨ (b = 0 ∧ kk = k ∧ pz_l tx n (5 - k) k p g = R) ∨ (b = 0 ∧ ¬ p < n ∧ 1 ≤ k ∧ R = .inr (kk, g))
theorem pz_S0 (tx : Nat → Int32) (n : Nat) (g : Nat → Int32) : pz_S tx n (pz_r tx n g) 0 (if (pz_hc tx n (pz_s tx n 0)).2 = 0 then pz_s tx n (pz_hc tx n (pz_s tx n 0)).1 else (pz_hc tx n (pz_s tx n 0)).1) (pz_hc tx n (pz_s tx n 0)).2 0 g := by
  unfold pz_r
  rcases pz_hl tx n (pz_s tx n 0) with ⟨h4, e, _⟩ | ⟨h4, e⟩
  · rw [e, if_pos h4]
    exact Or.inr (Or.inl ⟨rfl, rfl, rfl⟩)
  · rw [e, if_neg (by omega)]
    exact Or.inl ⟨rfl, rfl⟩
section SS
variable {tx : Nat → Int32} {n k p b kk : Nat} {R : Nat ⊕ (Nat × (Nat → Int32))} {g g' : Nat → Int32}
theorem pz_Sb (h : pz_S tx n R k p b kk g) (hb : ¬ b = 0) : R = .inl p := by
  rcases h with h | h | h
  · exact h.2
  · exact absurd h.1 hb
  · exact absurd h.1 hb
theorem pz_l_s {k : Nat} (hk : k < 5) : pz_l tx n (5 - k) k p g = if k ≠ 0 ∧ ¬ p < n then .inr (k, g) else if pz_lf tx n p = 5 then pz_l tx n (5 - (k + 1)) (k + 1) (pz_s tx n (p + 5)) (pz_g tx p k g) else .inl (p + pz_lf tx n p) := by
  rw [show 5 - k = (5 - (k + 1)) + 1 by omega]
  rfl
theorem pz_Sd (h : pz_S tx n R k p 0 kk g) (h0 : ¬ k = 0) (hp : n ≤ p) (hk : k < 5) : pz_S tx n R (k + 1) p 0 kk g := by
  rcases h with h | h | h
  · exact absurd h.1 (by decide)
  · refine Or.inr (Or.inr ⟨rfl, by omega, by omega, ?_⟩)
    have h2 := h.2.2
    rw [pz_l_s hk, if_pos ⟨h0, by omega⟩] at h2
    rw [← h2, h.2.1]
  · exact Or.inr (Or.inr ⟨rfl, h.2.1, by omega, h.2.2.2⟩)
theorem pz_Sr (h : pz_S tx n R k p 0 kk g) (h0 : k = 0 ∨ ¬ n ≤ p) (hk : k < 5) (hg : pz_lf tx n p = 5 → g' = pz_g tx p k g) : pz_S tx n R (k + 1) (if (pz_ad tx n p).2 = 0 then pz_s tx n (pz_ad tx n p).1 else (pz_ad tx n p).1) (pz_ad tx n p).2 (k + 1) g' := by
  rcases h with h | h | h
  · exact absurd h.1 (by decide)
  · have h2 := h.2.2
    rw [pz_l_s hk, if_neg (by omega)] at h2
    rcases pz_rl tx n p with ⟨h5, e, _⟩ | ⟨h5, e⟩
    · rw [if_pos h5] at h2
      rw [e, hg h5]
      exact Or.inr (Or.inl ⟨rfl, rfl, h2⟩)
    · rw [if_neg (by omega)] at h2
      rw [e]
      exact Or.inl ⟨rfl, h2.symm⟩
  · omega
theorem pz_Sf (h : pz_S tx n R 5 p b kk g) (hb : b = 0) (hp : ¬ n ≤ p) : R = .inl p := by
  rcases h with h | h | h
  · omega
  · have h2 := h.2.2
    rw [← h2]
    exact if_pos (by omega)
  · omega
theorem pz_Sg (h : pz_S tx n R 5 p b kk g) (hb : b = 0) (hp : n ≤ p) : R = .inr (kk, g) := by
  rcases h with h | h | h
  · omega
  · have h2 := h.2.2
    rw [← h2, h.2.1]
    exact if_neg (by omega)
  · exact h.2.2.2
end SS
theorem pz_r4 {tx : Nat → Int32} {n k : Nat} {g g' : Nat → Int32} (h : pz_r tx n g = .inr (k, g')) : pz_hf tx n (pz_s tx n 0) = 4 := by
  unfold pz_r at h
  split at h
  · assumption
  · cases h
theorem sI_2m (d : Nat) : nI d + -2 = sI 2 d := by
  unfold sI
  rw [Int32.sub_eq_add_neg]
  rfl
def pz_G (tx : Nat → Int32) (n p k : Nat) (g : Nat → Int32) : Nat → Int32 := (upd (upd (upd (upd g (4 * k) (if pz_K tx n p = 1 then nI (pz_k (tx p)) else -1)) (4 * k + 1) (pz_w tx n (pz_a tx n p).1 (pz_a tx n p).2)) (4 * k + 2) (pz_v tx n (pz_ab tx n p).1 + -2)) (4 * k + 3) (pz_v tx n (pz_ac tx n p).1))
theorem pz_Gg {tx : Nat → Int32} {n p k : Nat} {g : Nat → Int32} (h : pz_lf tx n p = 5) : pz_G tx n p k g = pz_g tx p k g := by
  rcases pz_rl tx n p with ⟨_, _, hK, e1, e2, e3⟩ | ⟨h5, _⟩
  · unfold pz_G pz_g
    rw [if_pos hK, e1, e2, e3, sI_2m]
  · omega
theorem pz_ad_le {tx : Nat → Int32} {n p : Nat} (hp : p ≤ n) : (pz_ad tx n p).1 ≤ n ∧ (pz_ad tx n p).2 ≤ 1 := ⟨pz_pF (pz_pF (pz_q2_le (pz_pK hp))), pz_b_le _ _⟩
theorem pz_hc_le {tx : Nat → Int32} {n p : Nat} (hp : p ≤ n) : (pz_hc tx n p).1 ≤ n ∧ (pz_hc tx n p).2 ≤ 1 := ⟨pz_q2_le (pz_pF (pz_pO hp)), pz_r2_le _ _ _ _⟩
theorem pz_if_le {tx : Nat → Int32} {n p b : Nat} (hp : p ≤ n) : (if b = 0 then pz_s tx n p else p) ≤ n := by
  split
  · exact pz_s_le hp
  · exact hp
set_option maxHeartbeats 1000000 in
theorem sX4_faultOf {X : XX} {I A : Nat → Nat → Int32} {J B : Nat → Nat → Int64} {F : Nat → Nat} (t n : Nat) (ht : t < 4) (hn : n ≤ 60) (hz : I (20 + 2 * (6 + t)) 1 = nI n) (tx : Nat → Int32) (htx : ∀ k, k < 60 → A (21 + 2 * (6 + t)) k = tx k) (hby : ∀ k, k < 60 → byOK (tx k))  : ∃ v I2 g, x_ev X xT 6 54 [.ref 3, .ref (20 + 2 * (6 + t))] (HX I A J B F) (some (.int v)) (HX I2 (ua A 4 g) J B F) ∧ (∀ c k, c ≠ 3 → I2 c k = I c k) ∧ ((∃ f, f ≤ 60 ∧ pz_r tx n (A 4) = .inl f ∧ v = nI f) ∨ (v = -9 ∧ ∃ kk, pz_r tx n (A 4) = .inr (kk, g) ∧ I2 3 1 = (nI (pz_d tx ((pz_s tx n 0) + 1))) ∧ I2 3 2 = (nI (10 * pz_d tx ((pz_s tx n 0) + 2) + pz_d tx ((pz_s tx n 0) + 3))) ∧ I2 3 3 = nI kk)) := by
  obtain ⟨r_, h_, he_, v, I2, g, hr_, hh_, hf_⟩ := q_evx (X := X) (d := 5) (as := [.ref 3, .ref (20 + 2 * (6 + t))]) (h := (HX I A J B F)) (P := fun r_ h_ => ∃ v I2 g, r_ = (some (.int v)) ∧ h_ = (HX I2 (ua A 4 g) J B F) ∧ (∀ c k, c ≠ 3 → I2 c k = I c k) ∧ ((∃ f, f ≤ 60 ∧ pz_r tx n (A 4) = .inl f ∧ v = nI f) ∨ (v = -9 ∧ ∃ kk, pz_r tx n (A 4) = .inr (kk, g) ∧ I2 3 1 = (nI (pz_d tx ((pz_s tx n 0) + 1))) ∧ I2 3 2 = (nI (10 * pz_d tx ((pz_s tx n 0) + 2) + pz_d tx ((pz_s tx n 0) + 3))) ∧ I2 3 3 = nI kk))) (L := [some (.ref 3), some (.ref (20 + 2 * (6 + t))), none]) tX4_faultOf (Nat.le_of_ble_eq_true rfl) rfl (by
    refine q_aload_n rfl rfl ?_
    refine q_iconst (v := nI 0) rfl rfl ?_
    refine q_putfield rfl hx_3 rfl (Nat.le_of_ble_eq_true rfl) (rfl) (by decide +kernel) ?_
    refine q_heap (hs_3_4 _) ?_
    refine q_aload_n rfl rfl ?_
    refine q_iconst (v := nI 0) rfl rfl ?_
    refine q_putfield rfl hx_3 rfl (Nat.le_of_ble_eq_true rfl) (rfl) (by decide +kernel) ?_
    refine q_heap (hs_3_5 _) ?_
    refine q_aload_n rfl rfl ?_
    refine q_iconst (v := nI 0) rfl rfl ?_
    refine q_putfield rfl hx_3 rfl (Nat.le_of_ble_eq_true rfl) (rfl) (by decide +kernel) ?_
    refine q_heap (hs_3_3 _) ?_
    refine q_heap (congrArg (fun z => HX z A J B F) pz_R0) ?_
    refine q_aload_n rfl rfl ?_
    refine q_aload_n rfl rfl ?_
    refine q_callV1 rfl hx_3 (Nat.le_of_ble_eq_true rfl) (Nat.le_of_ble_eq_true rfl) (skip_0 t n ht hn ((u2_ne (by omega)).trans hz) tx htx hby 0 (Nat.zero_le _)) ?_
    refine q_aload_n rfl rfl ?_
    refine q_aload_n rfl rfl ?_
    refine q_callV1 rfl hx_3 (Nat.le_of_ble_eq_true rfl) (Nat.le_of_ble_eq_true rfl) (sX4_readDomeLetter t n ht hn ((u2_ne (by omega)).trans hz) tx htx hby (pz_s tx n 0) 0 (by decide) (pz_s_le (Nat.zero_le _))) ?_
    refine q_aload_n rfl rfl ?_
    refine q_aload_n rfl rfl ?_
    refine q_aload_n rfl rfl ?_
    refine q_iconst (v := nI 1) rfl rfl ?_
    refine q_iconst (v := nI 5) rfl rfl ?_
    refine q_callV3 rfl hx_3 (Nat.le_of_ble_eq_true rfl) (Nat.le_of_ble_eq_true rfl) (sX4_figure t n ht hn ((u2_ne (by omega)).trans hz) tx htx hby 1 5 (by decide) (by decide) (pz_ha tx n (pz_s tx n 0)).1 (pz_ha tx n (pz_s tx n 0)).2 (pz_b_le _ _) (pz_pO (pz_s_le (Nat.zero_le _)))) ?_
    refine q_putfield rfl hx_3 rfl (Nat.le_of_ble_eq_true rfl) (rfl) (by decide +kernel) ?_
    refine q_heap (hs_3_1 _) ?_
    refine q_heap (congrArg (fun z => HX z A J B F) (pz_RU (Or.inr ⟨by decide, by decide⟩))) ?_
    refine q_aload_n rfl rfl ?_
    refine q_aload_n rfl rfl ?_
    refine q_aload_n rfl rfl ?_
    refine q_callV1 rfl hx_3 (Nat.le_of_ble_eq_true rfl) (Nat.le_of_ble_eq_true rfl) (sX4_placeFigures t n ht hn ((u2_ne (by omega)).trans ((u2_ne (by omega)).trans hz)) tx htx hby (pz_hb tx n (pz_s tx n 0)).1 (pz_hb tx n (pz_s tx n 0)).2 (pz_b_le _ _) (pz_pF (pz_pO (pz_s_le (Nat.zero_le _))))) ?_
    refine q_putfield rfl hx_3 rfl (Nat.le_of_ble_eq_true rfl) (rfl) (by decide +kernel) ?_
    refine q_heap (hs_3_2 _) ?_
    refine q_heap (congrArg (fun z => HX z A J B F) (pz_RU (Or.inr ⟨by decide, by decide⟩))) ?_
    refine q_aload_n rfl rfl ?_
    refine q_aload_n rfl rfl ?_
    refine q_callV1 rfl hx_3 (Nat.le_of_ble_eq_true rfl) (Nat.le_of_ble_eq_true rfl) (skipB t n ht hn ((u2_ne (by omega)).trans ((u2_ne (by omega)).trans ((u2_ne (by omega)).trans hz))) tx htx hby (pz_hc tx n (pz_s tx n 0)).1 (pz_hc tx n (pz_s tx n 0)).2 (pz_hc_le (pz_s_le (Nat.zero_le _))).2 (pz_hc_le (pz_s_le (Nat.zero_le _))).1) ?_
    refine q_iconst (v := nI 0) rfl rfl ?_
    refine q_istore_n (L' := [_, _, _]) rfl rfl ?_
    refine q_up (Inv := fun k L h => ∃ I1 g p b kk, L = [some (.ref 3), some (.ref (20 + 2 * (6 + t))), some (.int (nI k))] ∧ h = HX (pz_R I1 p b) (ua A 4 g) J B F ∧ (∀ c k, c ≠ 3 → I1 c k = I c k) ∧ p ≤ n ∧ b ≤ 1 ∧ (pz_hf tx n (pz_s tx n 0) = 4 → I1 3 1 = (nI (pz_d tx ((pz_s tx n 0) + 1))) ∧ I1 3 2 = (nI (10 * pz_d tx ((pz_s tx n 0) + 2) + pz_d tx ((pz_s tx n 0) + 3)))) ∧ I1 3 3 = nI kk ∧ pz_S tx n (pz_r tx n (A 4)) k p b kk g) (5) (fun k L h hk_k hi_k ih_k => ?_) (fun L h hi_k => ?_) (0) _ _ (by omega) (⟨_, A 4, _, _, 0, rfl, by rw [ua_self (A := A) (c := 4) rfl], fun c k hc => (u2_ne (Or.inl hc)).trans ((u2_ne (Or.inl hc)).trans (u2_ne (Or.inl hc))), pz_if_le (pz_hc_le (pz_s_le (Nat.zero_le _))).1, (pz_hc_le (pz_s_le (Nat.zero_le _))).2, fun h4 => by
          rcases pz_hl tx n (pz_s tx n 0) with ⟨_, _, v1, v2, _⟩ | ⟨h5, _⟩
          · exact ⟨(u2_ne (Or.inr (by decide))).trans (u2_eq.trans v1), u2_eq.trans v2⟩
          · omega, (u2_ne (Or.inr (by decide))).trans ((u2_ne (Or.inr (by decide))).trans u2_eq), pz_S0 tx n (A 4)⟩)
    · obtain ⟨I1, g, p, b, kk, rfl, rfl, hfr, hpn, hb, h12, h3, hST⟩ := hi_k
      refine q_iload_n rfl rfl ?_
      refine q_iconst (v := nI 5) rfl rfl ?_
      refine q_icmp_geN rfl (by omega) (by omega) (fun hcks54 => ?_) (fun hcks54 => ?_)
      · omega
      · refine q_aload_n rfl rfl ?_
        refine q_getI rfl hx_3 rfl ((show _ = nI b from rfl)) ?_
        refine q_if_neN rfl (by omega) (fun hcks61 => ?_) (fun hcks61 => ?_)
        · refine q_aload_n rfl rfl ?_
          refine q_getI rfl hx_3 rfl ((show _ = nI b from rfl)) ?_
          refine q_if_neN rfl (by omega) (fun hcks100 => ?_) (fun hcks100 => ?_)
          · refine q_aload_n rfl rfl ?_
            refine q_getI rfl hx_3 rfl ((show _ = nI p from rfl)) ?_
            refine q_goto rfl ?_
            refine q_iret rfl rfl ?_
            exact ⟨_, _, g, rfl, rfl, fun c k hc => (pz_R_n hc).trans (hfr c k hc), Or.inl ⟨p, by omega, pz_Sb hST hcks61, rfl⟩⟩
          · omega
        · obtain rfl : b = 0 := hcks61
          refine q_iload_n rfl rfl ?_
          refine q_if_eqN rfl (by omega) (fun hcks65 => ?_) (fun hcks65 => ?_)
          · refine q_aload_n rfl rfl ?_
            refine q_aload_n rfl rfl ?_
            refine q_iload_n rfl rfl ?_
            refine q_callV2 rfl hx_3 (Nat.le_of_ble_eq_true rfl) (Nat.le_of_ble_eq_true rfl) (sX4_readLight t n ht hn ((hfr _ _ (by omega)).trans hz) tx (fun x hx => by (repeat rw [ua_ne (by omega)]); exact htx x hx) hby p k hpn hk_k) ?_
            refine q_aload_n rfl rfl ?_
            refine q_aload_n rfl rfl ?_
            refine q_callV1 rfl hx_3 (Nat.le_of_ble_eq_true rfl) (Nat.le_of_ble_eq_true rfl) (skipB t n ht hn ((u2_ne (by omega)).trans ((hfr _ _ (by omega)).trans hz)) tx (fun x hx => by (repeat rw [ua_ne (by omega)]); exact htx x hx) hby (pz_ad tx n p).1 (pz_ad tx n p).2 (pz_ad_le hpn).2 (pz_ad_le hpn).1) ?_
            refine q_iincN (c := 1) (L' := [_, _, _]) rfl rfl rfl rfl ?_
            refine q_goto rfl ?_
            exact ih_k _ _ ⟨u2 I1 3 3 (nI (k + 1)), pz_G tx n p k g, _, _, k + 1, rfl, by rw [ua_ua, ua_eq]; rfl, fun c k hc => (u2_ne (Or.inl hc)).trans (hfr c k hc), pz_if_le (pz_ad_le hpn).1, (pz_ad_le hpn).2, fun h4 => ⟨(u2_ne (Or.inr (by decide))).trans (h12 h4).1, (u2_ne (Or.inr (by decide))).trans (h12 h4).2⟩, u2_eq, pz_Sr hST (Or.inl hcks65) hk_k pz_Gg⟩
          · refine q_aload_n rfl rfl ?_
            refine q_getI rfl hx_3 rfl ((show _ = nI p from rfl)) ?_
            refine q_aload_n rfl rfl ?_
            refine q_callV0 rfl (hx_line (6 + t) (by omega)) (Nat.le_of_ble_eq_true rfl) (Nat.le_of_ble_eq_true rfl) (sL_size (6 + t) (by omega) ((pz_R_n (by omega)).trans ((hfr _ _ (by omega)).trans hz))) ?_
            refine q_icmp_geN rfl (by omega) (by omega) (fun hcks76 => ?_) (fun hcks76 => ?_)
            · refine q_iincN (c := 1) (L' := [_, _, _]) rfl rfl rfl rfl ?_
              refine q_goto rfl ?_
              exact ih_k _ _ ⟨I1, g, p, 0, kk, rfl, rfl, hfr, hpn, hb, h12, h3, pz_Sd hST hcks65 hcks76 hk_k⟩
            · refine q_aload_n rfl rfl ?_
              refine q_aload_n rfl rfl ?_
              refine q_iload_n rfl rfl ?_
              refine q_callV2 rfl hx_3 (Nat.le_of_ble_eq_true rfl) (Nat.le_of_ble_eq_true rfl) (sX4_readLight t n ht hn ((hfr _ _ (by omega)).trans hz) tx (fun x hx => by (repeat rw [ua_ne (by omega)]); exact htx x hx) hby p k hpn hk_k) ?_
              refine q_aload_n rfl rfl ?_
              refine q_aload_n rfl rfl ?_
              refine q_callV1 rfl hx_3 (Nat.le_of_ble_eq_true rfl) (Nat.le_of_ble_eq_true rfl) (skipB t n ht hn ((u2_ne (by omega)).trans ((hfr _ _ (by omega)).trans hz)) tx (fun x hx => by (repeat rw [ua_ne (by omega)]); exact htx x hx) hby (pz_ad tx n p).1 (pz_ad tx n p).2 (pz_ad_le hpn).2 (pz_ad_le hpn).1) ?_
              refine q_iincN (c := 1) (L' := [_, _, _]) rfl rfl rfl rfl ?_
              refine q_goto rfl ?_
              exact ih_k _ _ ⟨u2 I1 3 3 (nI (k + 1)), pz_G tx n p k g, _, _, k + 1, rfl, by rw [ua_ua, ua_eq]; rfl, fun c k hc => (u2_ne (Or.inl hc)).trans (hfr c k hc), pz_if_le (pz_ad_le hpn).1, (pz_ad_le hpn).2, fun h4 => ⟨(u2_ne (Or.inr (by decide))).trans (h12 h4).1, (u2_ne (Or.inr (by decide))).trans (h12 h4).2⟩, u2_eq, pz_Sr hST (Or.inr hcks76) hk_k pz_Gg⟩
    · obtain ⟨I1, g, p, b, kk, rfl, rfl, hfr, hpn, hb, h12, h3, hST⟩ := hi_k
      refine q_iload_n rfl rfl ?_
      refine q_iconst (v := nI 5) rfl rfl ?_
      refine q_icmp_geN rfl (by omega) (by omega) (fun hckf54 => ?_) (fun hckf54 => ?_)
      · refine q_aload_n rfl rfl ?_
        refine q_getI rfl hx_3 rfl ((show _ = nI b from rfl)) ?_
        refine q_if_neN rfl (by omega) (fun hckf100 => ?_) (fun hckf100 => ?_)
        · refine q_aload_n rfl rfl ?_
          refine q_getI rfl hx_3 rfl ((show _ = nI p from rfl)) ?_
          refine q_goto rfl ?_
          refine q_iret rfl rfl ?_
          first | exact ⟨_, _, g, rfl, rfl, fun c k hc => (pz_R_n hc).trans (hfr c k hc), Or.inl ⟨p, by omega, pz_Sb hST hckf100, rfl⟩⟩ | exact ⟨_, _, g, rfl, rfl, fun c k hc => (pz_R_n hc).trans (hfr c k hc), Or.inl ⟨p, by omega, pz_Sf hST hckf100 hckf111, rfl⟩⟩ | exact ⟨_, _, g, rfl, rfl, fun c k hc => (pz_R_n hc).trans (hfr c k hc), Or.inr ⟨rfl, kk, pz_Sg hST hckf100 hckf111, (h12 (pz_r4 (pz_Sg hST hckf100 hckf111))).1, (h12 (pz_r4 (pz_Sg hST hckf100 hckf111))).2, h3⟩⟩
        · refine q_aload_n rfl rfl ?_
          refine q_getI rfl hx_3 rfl ((show _ = nI p from rfl)) ?_
          refine q_aload_n rfl rfl ?_
          refine q_callV0 rfl (hx_line (6 + t) (by omega)) (Nat.le_of_ble_eq_true rfl) (Nat.le_of_ble_eq_true rfl) (sL_size (6 + t) (by omega) ((pz_R_n (by omega)).trans ((hfr _ _ (by omega)).trans hz))) ?_
          refine q_icmp_geN rfl (by omega) (by omega) (fun hckf111 => ?_) (fun hckf111 => ?_)
          · refine q_bipush (v := (-9)) rfl rfl ?_
            refine q_iret rfl rfl ?_
            first | exact ⟨_, _, g, rfl, rfl, fun c k hc => (pz_R_n hc).trans (hfr c k hc), Or.inl ⟨p, by omega, pz_Sb hST hckf100, rfl⟩⟩ | exact ⟨_, _, g, rfl, rfl, fun c k hc => (pz_R_n hc).trans (hfr c k hc), Or.inl ⟨p, by omega, pz_Sf hST hckf100 hckf111, rfl⟩⟩ | exact ⟨_, _, g, rfl, rfl, fun c k hc => (pz_R_n hc).trans (hfr c k hc), Or.inr ⟨rfl, kk, pz_Sg hST hckf100 hckf111, (h12 (pz_r4 (pz_Sg hST hckf100 hckf111))).1, (h12 (pz_r4 (pz_Sg hST hckf100 hckf111))).2, h3⟩⟩
          · refine q_aload_n rfl rfl ?_
            refine q_getI rfl hx_3 rfl ((show _ = nI p from rfl)) ?_
            refine q_goto rfl ?_
            refine q_iret rfl rfl ?_
            first | exact ⟨_, _, g, rfl, rfl, fun c k hc => (pz_R_n hc).trans (hfr c k hc), Or.inl ⟨p, by omega, pz_Sb hST hckf100, rfl⟩⟩ | exact ⟨_, _, g, rfl, rfl, fun c k hc => (pz_R_n hc).trans (hfr c k hc), Or.inl ⟨p, by omega, pz_Sf hST hckf100 hckf111, rfl⟩⟩ | exact ⟨_, _, g, rfl, rfl, fun c k hc => (pz_R_n hc).trans (hfr c k hc), Or.inr ⟨rfl, kk, pz_Sg hST hckf100 hckf111, (h12 (pz_r4 (pz_Sg hST hckf100 hckf111))).1, (h12 (pz_r4 (pz_Sg hST hckf100 hckf111))).2, h3⟩⟩
      · omega)
  subst hr_
  subst hh_
  exact ⟨v, I2, g, he_, hf_⟩
